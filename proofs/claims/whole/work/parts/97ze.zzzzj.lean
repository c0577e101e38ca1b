/-! THE NEW REFERENCE -/
def zrnL (ro : zRo) : List (Nat × Nat × Nat) → zRo
  | [] => ro
  | e :: L => zrn (zrnL ro L) e.1 e.2
theorem zrnL_ne {ro : zRo} {q : Nat} : ∀ {L : List (Nat × Nat × Nat)}, (∀ e ∈ L, q ≠ e.1) → zrnL ro L q = ro q
  | [], _ => rfl
  | e :: L, h => by
    show zrn (zrnL ro L) e.1 e.2 q = _
    rw [zrn_ne (h e List.mem_cons_self)]; exact zrnL_ne (fun e he => h e (List.mem_cons_of_mem _ he))
theorem zrnL_at {ro : zRo} {e : Nat × Nat × Nat} : ∀ {L : List (Nat × Nat × Nat)}, (L.map (fun e => e.1)).Nodup → e ∈ L → zrnL ro L e.1 = e.2
  | [], _, h => absurd h List.not_mem_nil
  | f :: L, hn, h => by
    rw [List.map_cons, List.nodup_cons] at hn
    show zrn (zrnL ro L) f.1 f.2 e.1 = _
    rcases List.mem_cons.mp h with rfl | h
    · exact zrn_self _ _ _
    · rw [zrn_ne (fun z => hn.1 (by rw [← z]; exact List.mem_map.mpr ⟨e, h, rfl⟩))]
      exact zrnL_at hn.2 h
def rD0 : List Int32 := [0, 0, 0, 0, 0, 1, 0, 0, 0, 0, 0, 0, 0, 0, 0, 0, 0, 0, 0, 0, 0, 0]
theorem rD0_soa : zSoa rD0 [] [] := by
  refine ⟨⟨⟨fun l hl => absurd hl List.not_mem_nil, by decide⟩, by decide, fun j hj => ?_⟩, ⟨⟨fun l hl => absurd hl List.not_mem_nil, by decide⟩, by decide, fun j hj => ?_⟩, by decide⟩
  · rw [show j = 0 by have : np_len [] = 1 := rfl; omega]; rfl
  · rw [show j = 0 by have : np_len [] = 1 := rfl; omega]; rfl
theorem rO_new {E : zc_E} {G G2 : zg_G} {ro : zRo} {a m1 m3 m4 m6 m7 m8 m9 m10 m11 m12 m15 m18 rq dt : Nat} (hra : ro a = (20, 0)) (hnd : [m1, m3, m4, m6, m7, m8, m9, m10, m11, m12, m15, m18, rq, dt].Nodup) (hna : ∀ q ∈ [m1, m3, m4, m6, m7, m8, m9, m10, m11, m12, m15, m18, rq, dt], a ≠ q ∧ G q = none) (hx : zx (fun q => q = a) G G2) (ga : G2 a = some (.inr (11, [.int 0, .ref m1, .int (nI 0), .ref m3, .ref m4, .int 1, .ref m6, .ref m7, .ref m8, .ref m9, .ref m10, .ref m11, .ref m12, .int 0, .int 0, .ref m15, .int 0, .int 0, .ref m18, .null, .null]))) (g1 : G2 m1 = some (.inl (E.2.1 0, 65536, .inl (fun _ => 0)))) (g3 : G2 m3 = some (.inl (E.2.1 0, 1, .inl (fun _ => 0)))) (g4 : G2 m4 = some (.inl (E.2.1 4, 2000, .inr (.inr (.inr (.inr (va_up (fun _ => none) 0 (some rq)))))))) (gq : G2 rq = some (.inr (12, [.ref m3, .ref dt, .null, .int 6, .int 0]))) (gd : G2 dt = some (.inl (E.2.1 0, 22, .inl (upd (fun _ => 0) 5 (vp_nar .byte 1))))) (g6 : G2 m6 = some (.inl (E.2.1 1, 64, .inl (fun _ => 0)))) (g7 : G2 m7 = some (.inl (E.2.1 1, 64, .inl (fun _ => 0)))) (g8 : G2 m8 = some (.inl (E.2.1 1, 64, .inl (fun _ => 0)))) (g9 : G2 m9 = some (.inl (E.2.1 1, 64, .inl (fun _ => 0)))) (g10 : G2 m10 = some (.inl (E.2.1 1, 64, .inl (fun _ => 0)))) (g11 : G2 m11 = some (.inl (E.2.1 5, 64, .inr (.inr (.inr (.inr (fun _ => none))))))) (g12 : G2 m12 = some (.inl (E.2.1 5, 64, .inr (.inr (.inr (.inr (fun _ => none))))))) (g15 : G2 m15 = some (.inl (E.2.1 0, 512, .inl (fun _ => 0)))) (g18 : G2 m18 = some (.inl (E.2.1 0, 4096, .inl (fun _ => 0)))) : rO E G2 (zrnL ro [(m1, (20, 1)), (m3, (0, 0)), (m4, (20, 4)), (m6, (20, 6)), (m7, (20, 7)), (m8, (20, 8)), (m9, (20, 9)), (m10, (20, 10)), (m11, (20, 11)), (m12, (20, 12)), (m15, (20, 15)), (m18, (20, 18)), (rq, (21, 0)), (dt, (0, 0))]) a 64 512 [] [(rq, m3, dt, .null, [], 6, 0, rD0)] ([], [], []) [] 0 ∧ zfr ro zKr G (zrnL ro [(m1, (20, 1)), (m3, (0, 0)), (m4, (20, 4)), (m6, (20, 6)), (m7, (20, 7)), (m8, (20, 8)), (m9, (20, 9)), (m10, (20, 10)), (m11, (20, 11)), (m12, (20, 12)), (m15, (20, 15)), (m18, (20, 18)), (rq, (21, 0)), (dt, (0, 0))]) G2 := by
  have hk : ([(m1, (20, 1)), (m3, (0, 0)), (m4, (20, 4)), (m6, (20, 6)), (m7, (20, 7)), (m8, (20, 8)), (m9, (20, 9)), (m10, (20, 10)), (m11, (20, 11)), (m12, (20, 12)), (m15, (20, 15)), (m18, (20, 18)), (rq, (21, 0)), (dt, (0, 0))].map (fun e : Nat × Nat × Nat => e.1)).Nodup := hnd
  have hat : ∀ e ∈ [(m1, (20, 1)), (m3, (0, 0)), (m4, (20, 4)), (m6, (20, 6)), (m7, (20, 7)), (m8, (20, 8)), (m9, (20, 9)), (m10, (20, 10)), (m11, (20, 11)), (m12, (20, 12)), (m15, (20, 15)), (m18, (20, 18)), (rq, (21, 0)), (dt, (0, 0))], zrnL ro [(m1, (20, 1)), (m3, (0, 0)), (m4, (20, 4)), (m6, (20, 6)), (m7, (20, 7)), (m8, (20, 8)), (m9, (20, 9)), (m10, (20, 10)), (m11, (20, 11)), (m12, (20, 12)), (m15, (20, 15)), (m18, (20, 18)), (rq, (21, 0)), (dt, (0, 0))] e.1 = e.2 := fun e he => zrnL_at hk he
  have hne : ∀ q e, G q = some e → zrnL ro [(m1, (20, 1)), (m3, (0, 0)), (m4, (20, 4)), (m6, (20, 6)), (m7, (20, 7)), (m8, (20, 8)), (m9, (20, 9)), (m10, (20, 10)), (m11, (20, 11)), (m12, (20, 12)), (m15, (20, 15)), (m18, (20, 18)), (rq, (21, 0)), (dt, (0, 0))] q = ro q := fun q e hq => zrnL_ne (fun f hf => zg_fr (hna f.1 (List.mem_map.mpr ⟨f, hf, rfl⟩)).2 hq)
  have ra : zrnL ro [(m1, (20, 1)), (m3, (0, 0)), (m4, (20, 4)), (m6, (20, 6)), (m7, (20, 7)), (m8, (20, 8)), (m9, (20, 9)), (m10, (20, 10)), (m11, (20, 11)), (m12, (20, 12)), (m15, (20, 15)), (m18, (20, 18)), (rq, (21, 0)), (dt, (0, 0))] a = (20, 0) := (zrnL_ne (fun f hf => (hna f.1 (List.mem_map.mpr ⟨f, hf, rfl⟩)).1)).trans hra
  have r_m1 : zrnL ro [(m1, (20, 1)), (m3, (0, 0)), (m4, (20, 4)), (m6, (20, 6)), (m7, (20, 7)), (m8, (20, 8)), (m9, (20, 9)), (m10, (20, 10)), (m11, (20, 11)), (m12, (20, 12)), (m15, (20, 15)), (m18, (20, 18)), (rq, (21, 0)), (dt, (0, 0))] m1 = (20, 1) := hat (m1, (20, 1)) (by simp)
  have r_m3 : zrnL ro [(m1, (20, 1)), (m3, (0, 0)), (m4, (20, 4)), (m6, (20, 6)), (m7, (20, 7)), (m8, (20, 8)), (m9, (20, 9)), (m10, (20, 10)), (m11, (20, 11)), (m12, (20, 12)), (m15, (20, 15)), (m18, (20, 18)), (rq, (21, 0)), (dt, (0, 0))] m3 = (0, 0) := hat (m3, (0, 0)) (by simp)
  have r_m4 : zrnL ro [(m1, (20, 1)), (m3, (0, 0)), (m4, (20, 4)), (m6, (20, 6)), (m7, (20, 7)), (m8, (20, 8)), (m9, (20, 9)), (m10, (20, 10)), (m11, (20, 11)), (m12, (20, 12)), (m15, (20, 15)), (m18, (20, 18)), (rq, (21, 0)), (dt, (0, 0))] m4 = (20, 4) := hat (m4, (20, 4)) (by simp)
  have r_m6 : zrnL ro [(m1, (20, 1)), (m3, (0, 0)), (m4, (20, 4)), (m6, (20, 6)), (m7, (20, 7)), (m8, (20, 8)), (m9, (20, 9)), (m10, (20, 10)), (m11, (20, 11)), (m12, (20, 12)), (m15, (20, 15)), (m18, (20, 18)), (rq, (21, 0)), (dt, (0, 0))] m6 = (20, 6) := hat (m6, (20, 6)) (by simp)
  have r_m7 : zrnL ro [(m1, (20, 1)), (m3, (0, 0)), (m4, (20, 4)), (m6, (20, 6)), (m7, (20, 7)), (m8, (20, 8)), (m9, (20, 9)), (m10, (20, 10)), (m11, (20, 11)), (m12, (20, 12)), (m15, (20, 15)), (m18, (20, 18)), (rq, (21, 0)), (dt, (0, 0))] m7 = (20, 7) := hat (m7, (20, 7)) (by simp)
  have r_m8 : zrnL ro [(m1, (20, 1)), (m3, (0, 0)), (m4, (20, 4)), (m6, (20, 6)), (m7, (20, 7)), (m8, (20, 8)), (m9, (20, 9)), (m10, (20, 10)), (m11, (20, 11)), (m12, (20, 12)), (m15, (20, 15)), (m18, (20, 18)), (rq, (21, 0)), (dt, (0, 0))] m8 = (20, 8) := hat (m8, (20, 8)) (by simp)
  have r_m9 : zrnL ro [(m1, (20, 1)), (m3, (0, 0)), (m4, (20, 4)), (m6, (20, 6)), (m7, (20, 7)), (m8, (20, 8)), (m9, (20, 9)), (m10, (20, 10)), (m11, (20, 11)), (m12, (20, 12)), (m15, (20, 15)), (m18, (20, 18)), (rq, (21, 0)), (dt, (0, 0))] m9 = (20, 9) := hat (m9, (20, 9)) (by simp)
  have r_m10 : zrnL ro [(m1, (20, 1)), (m3, (0, 0)), (m4, (20, 4)), (m6, (20, 6)), (m7, (20, 7)), (m8, (20, 8)), (m9, (20, 9)), (m10, (20, 10)), (m11, (20, 11)), (m12, (20, 12)), (m15, (20, 15)), (m18, (20, 18)), (rq, (21, 0)), (dt, (0, 0))] m10 = (20, 10) := hat (m10, (20, 10)) (by simp)
  have r_m11 : zrnL ro [(m1, (20, 1)), (m3, (0, 0)), (m4, (20, 4)), (m6, (20, 6)), (m7, (20, 7)), (m8, (20, 8)), (m9, (20, 9)), (m10, (20, 10)), (m11, (20, 11)), (m12, (20, 12)), (m15, (20, 15)), (m18, (20, 18)), (rq, (21, 0)), (dt, (0, 0))] m11 = (20, 11) := hat (m11, (20, 11)) (by simp)
  have r_m12 : zrnL ro [(m1, (20, 1)), (m3, (0, 0)), (m4, (20, 4)), (m6, (20, 6)), (m7, (20, 7)), (m8, (20, 8)), (m9, (20, 9)), (m10, (20, 10)), (m11, (20, 11)), (m12, (20, 12)), (m15, (20, 15)), (m18, (20, 18)), (rq, (21, 0)), (dt, (0, 0))] m12 = (20, 12) := hat (m12, (20, 12)) (by simp)
  have r_m15 : zrnL ro [(m1, (20, 1)), (m3, (0, 0)), (m4, (20, 4)), (m6, (20, 6)), (m7, (20, 7)), (m8, (20, 8)), (m9, (20, 9)), (m10, (20, 10)), (m11, (20, 11)), (m12, (20, 12)), (m15, (20, 15)), (m18, (20, 18)), (rq, (21, 0)), (dt, (0, 0))] m15 = (20, 15) := hat (m15, (20, 15)) (by simp)
  have r_m18 : zrnL ro [(m1, (20, 1)), (m3, (0, 0)), (m4, (20, 4)), (m6, (20, 6)), (m7, (20, 7)), (m8, (20, 8)), (m9, (20, 9)), (m10, (20, 10)), (m11, (20, 11)), (m12, (20, 12)), (m15, (20, 15)), (m18, (20, 18)), (rq, (21, 0)), (dt, (0, 0))] m18 = (20, 18) := hat (m18, (20, 18)) (by simp)
  have r_rq : zrnL ro [(m1, (20, 1)), (m3, (0, 0)), (m4, (20, 4)), (m6, (20, 6)), (m7, (20, 7)), (m8, (20, 8)), (m9, (20, 9)), (m10, (20, 10)), (m11, (20, 11)), (m12, (20, 12)), (m15, (20, 15)), (m18, (20, 18)), (rq, (21, 0)), (dt, (0, 0))] rq = (21, 0) := hat (rq, (21, 0)) (by simp)
  have r_dt : zrnL ro [(m1, (20, 1)), (m3, (0, 0)), (m4, (20, 4)), (m6, (20, 6)), (m7, (20, 7)), (m8, (20, 8)), (m9, (20, 9)), (m10, (20, 10)), (m11, (20, 11)), (m12, (20, 12)), (m15, (20, 15)), (m18, (20, 18)), (rq, (21, 0)), (dt, (0, 0))] dt = (0, 0) := hat (dt, (0, 0)) (by simp)
  have hf : zfr ro zKr G (zrnL ro [(m1, (20, 1)), (m3, (0, 0)), (m4, (20, 4)), (m6, (20, 6)), (m7, (20, 7)), (m8, (20, 8)), (m9, (20, 9)), (m10, (20, 10)), (m11, (20, 11)), (m12, (20, 12)), (m15, (20, 15)), (m18, (20, 18)), (rq, (21, 0)), (dt, (0, 0))]) G2 := fun q e hq hn => ⟨hx q e (fun z => hn (by rw [z, hra]; exact Or.inl rfl)) hq, hne q e hq⟩
  have np0 : np_f [] (fun _ => (0 : Int32)) := fun j hj => by
    rw [show j = 0 by have : np_len [] = 1 := rfl; omega]; rfl
  have ng0 : np_g [] := ⟨fun l hl => absurd hl List.not_mem_nil, by decide⟩
  refine ⟨⟨0, 0, .null, .null, Or.inl rfl, (fun i => match i with | 0 => a | 1 => m1 | 3 => m3 | 4 => m4 | 6 => m6 | 7 => m7 | 8 => m8 | 9 => m9 | 10 => m10 | 11 => m11 | 12 => m12 | 15 => m15 | 18 => m18 | 40 => 64 | 41 => 512 | _ => 0), rfl, rfl, rfl, ga, ra, ⟨fun _ => 0, g1, fun j hj => absurd hj (Nat.not_lt_zero j), zf_fit0, r_m1⟩, Nat.zero_le _, ⟨fun _ => 0, g3, np0, ng0, zf_fit0, r_m3⟩, ?_, ?_, [], [], [], fun _ => 0, fun _ => 0, rfl, fun p hp => absurd hp List.not_mem_nil, rfl, rfl, trivial, ⟨⟨Nat.zero_le _, (by decide : rcp 64 0 ≤ 2 ^ 20), _, _, _, _, _, _, _, g6, g7, g8, g9, g10, g11, g12, fun i hi => absurd hi (Nat.not_lt_zero i), fun j v hv => absurd hv.symm (Option.some_ne_none v), fun j v hv => absurd hv.symm (Option.some_ne_none v)⟩, fun i h6 h12 => ?_, fun i hi n f hg j v hv => ?_⟩, (by decide : 7 ≤ 64), fun i hi => absurd hi (Nat.not_lt_zero i), ⟨g15, (by decide : 1 ≤ 512), (by decide : rcp 512 0 ≤ 2 ^ 20), fun j hj => absurd hj (Nat.not_lt_zero j), zf_fit0, r_m15⟩, ⟨g18, zf_fit0, r_m18⟩, fun z => z.elim, Nat.zero_le _, fun i hi => absurd hi (Nat.not_lt_zero i), fun z => z.elim, List.nil_prefix⟩, hf⟩
  · refine ⟨⟨⟨_, g4, fun i hi => ?_⟩, (by decide : 1 ≤ 2000), fun e he9 => ?_⟩, r_m4, List.nodup_cons.mpr ⟨List.not_mem_nil, List.nodup_nil⟩, List.nodup_cons.mpr ⟨List.not_mem_nil, List.nodup_nil⟩, fun e he9 => ?_⟩
    · have hi : i < 1 := hi
      rw [show i = 0 by omega]; rfl
    · rw [List.mem_singleton.mp he9]
      refine ⟨gq, ⟨fun _ => 0, g3, np0, ng0, zf_fit0⟩, upd (fun _ => 0) 5 (vp_nar .byte 1), gd, fun j hj => ?_, zf_fitu zf_fit0⟩
      have hj : j < 22 := hj
      have key : ∀ j, j < 22 → upd (fun _ => (0 : Int32)) 5 (vp_nar .byte 1) j = rD0.getD j 0 := by decide
      exact key j hj
    · rw [List.mem_singleton.mp he9]; exact ⟨r_rq, r_m3, r_dt, Or.inl rfl⟩
  · refine ⟨Nat.zero_lt_one, rfl, rfl, ⟨_, _, rD0_soa⟩, (by decide : (0 : Int32) ≤ 0), fun i h0 hi => ?_, fun e he9 => ?_⟩
    · have hi : i < 1 := hi
      omega
    · rw [List.mem_singleton.mp he9]
      exact ⟨List.suffix_refl _, zfn_of np0 zf_fit0, ng0, (by decide : (1 : Int32) ≤ 6), (by decide : (6 : Int32) ≤ 65535), (by decide : rD0.length < 2 ^ 20), fun z => absurd z (by decide : ¬ ((6 : Int32) = 2 ∨ (6 : Int32) = 5 ∨ (6 : Int32) = 12 ∨ (6 : Int32) = 15 ∨ (6 : Int32) = 33)), (by decide : (6 : Int32) ≠ 47)⟩
  · rcases (show i = 6 ∨ i = 7 ∨ i = 8 ∨ i = 9 ∨ i = 10 ∨ i = 11 ∨ i = 12 by omega) with rfl | rfl | rfl | rfl | rfl | rfl | rfl
    · exact r_m6
    · exact r_m7
    · exact r_m8
    · exact r_m9
    · exact r_m10
    · exact r_m11
    · exact r_m12
  · have key : f = fun _ => none := by
      rcases hi with rfl | rfl
      · have q := g11.symm.trans hg
        have q := (Prod.mk.inj (Prod.mk.inj (Sum.inl.inj (Option.some.inj q))).2).2
        exact (Sum.inr.inj (Sum.inr.inj (Sum.inr.inj (Sum.inr.inj q)))).symm
      · have q := g12.symm.trans hg
        have q := (Prod.mk.inj (Prod.mk.inj (Sum.inl.inj (Option.some.inj q))).2).2
        exact (Sum.inr.inj (Sum.inr.inj (Sum.inr.inj (Sum.inr.inj q)))).symm
    rw [key] at hv; cases hv
theorem nm_c {x y : Nat} {L : List Nat} (h1 : x ≠ y) (h2 : x ∉ L) : x ∉ y :: L := fun h => (List.mem_cons.mp h).elim h1 h2
theorem al_c {P : Nat → Prop} {y : Nat} {L : List Nat} (h1 : P y) (h2 : ∀ q ∈ L, P q) : ∀ q ∈ y :: L, P q := fun q hq => (List.mem_cons.mp hq).elim (fun e => by rw [e]; exact h1) (h2 q)

abbrev rm_Mo_init_w : Room := { frames := 4, cells := 18, slots := 80000, locals := 70 }
set_option maxHeartbeats 4000000 in
set_option maxRecDepth 100000 in
/-- new ZoneAnswersModel(), as a state -/
theorem t_Mo_init_w (l : Launch) (E : zc_E) (G : zg_G) (a : Nat) (ha : G a = some (.inr (11, [.int 0, .null, .int 0, .null, .null, .int 0, .null, .null, .null, .null, .null, .null, .null, .int 0, .int 0, .null, .int 0, .int 0, .null, .null, .null]))) (ro : zRo) (hra : ro a = (20, 0)) : zMv l E y_Mo_init c_Mo_init 2 rm_Mo_init_w [.ref a] G (fun (G2 : zg_G) => ∃ r2 rs2, rVf rs2 = vor [] 0 rD0 ∧ rs2.length = 1 ∧ rNu rs2 = 23 ∧ rO E G2 r2 a 64 512 [] rs2 ([], [], []) [] 0 ∧ zfr ro zKr G r2 G2) := by
  refine zMv.of (by decide) (Nat.le_of_ble_eq_true rfl) ?_
  intro p e s m args below meth c Q hZ hG hret ls hl
  obtain ⟨hx, hb, hr, hts, hown, hlocks, hml, hnm, hbase, hK, hN, hQ⟩ := hZ
  have hl : lv_has ls 2 [(0, .ref a)] := hl
  have hS : zg_S (zc_b E) s.heap s.heap [] := va_S.rf
  have hx0 : zx (fun q => q = a) G G := zx.rf
  refine lv_aload_n hx hb d_Mo_init_0 rfl (lv_at hl 0 rfl) ?_
  refine W.objInit hx hb hown (hts _ w_1250) (hts _ w_43) (hts _ w_44) rfl (by rw [hml]; exact hl.1) rfl d_Mo_init_1 (Nat.le_of_ble_eq_true rfl) (Nat.le_of_ble_eq_true rfl) ?_
  refine W.eq (g2 := F0 m 4 ls []) rfl ?_
  refine lv_aload_n hx hb d_Mo_init_4 rfl (lv_at hl 0 rfl) ?_
  refine lv_ldc hx hb hown (hts _ w_1251) d_Mo_init_5 ?_
  refine zg_newp (atype := .byte) (ty := .byte) (N' := 65536) (a0 := (65536, .inl (fun _ => 0))) hx hb (hts _ w_58) rfl hK hG hS hbase (fun _ => rfl) (by decide) (by decide) (by show _ * _ ≤ _; simp only [componentBytes]; omega) (by decide) (by decide) d_Mo_init_7 0 rfl (fun _ h => h) (fun q7 H n7 hG hS => ?_)
  obtain ⟨G1, eG1⟩ : ∃ z : zg_G, z = zg_up G q7 (.inl (E.2.1 0, 65536, .inl (fun _ => 0))) := ⟨_, rfl⟩
  have hG : zP E G1 H := by rw [eG1]; exact hG
  have hx2 : zx (fun q => q = a) G G1 := hx0.tr (by rw [eG1]; exact zx.nw n7)
  have ne7_a : a ≠ q7 := zg_fr n7 ha
  have k3 : G1 a = some (.inr (11, [.int 0, .null, .int 0, .null, .null, .int 0, .null, .null, .null, .null, .null, .null, .null, .int 0, .int 0, .null, .int 0, .int 0, .null, .null, .null])) := by rw [eG1, zg_up_ne (zg_fr n7 ha)]; exact ha
  have k4 : G1 q7 = some (.inl (E.2.1 0, 65536, .inl (fun _ => 0))) := by rw [eG1]; exact zg_up_self _ _ _
  refine zg_putF (ci := 11) (v := .ref q7) (ty := .array .byte) (C := "ZoneAnswersModel") (T := T_Mo) (N := 21) hx hb hts zi_Mo t_Mo t_Mo_ok n_Mo hown hK hG hS k3 rfl 1 (by decide) (hts _ w_1282) (fun _ h9 => h9) rfl hnm rfl (by decide +kernel) rfl rfl (Nat.le_of_ble_eq_true rfl) d_Mo_init_9 (fun H locs hG hS => ?_)
  obtain ⟨G5, eG5⟩ : ∃ z : zg_G, z = zg_up G1 a (.inr (11, [.int 0, .ref q7, .int 0, .null, .null, .int 0, .null, .null, .null, .null, .null, .null, .null, .int 0, .int 0, .null, .int 0, .int 0, .null, .null, .null])) := ⟨_, rfl⟩
  have hG : zP E G5 H := by rw [eG5]; exact hG
  have hx6 : zx (fun q => q = a) G G5 := hx2.tr (by rw [eG5]; exact zx.up (rfl))
  have k7 : G5 a = some (.inr (11, [.int 0, .ref q7, .int 0, .null, .null, .int 0, .null, .null, .null, .null, .null, .null, .null, .int 0, .int 0, .null, .int 0, .int 0, .null, .null, .null])) := by rw [eG5]; exact zg_up_self _ _ _
  have k8 : G5 q7 = some (.inl (E.2.1 0, 65536, .inl (fun _ => 0))) := by rw [eG5, zg_up_ne (Ne.symm ne7_a)]; exact k4
  refine lv_aload_n hx hb d_Mo_init_12 rfl (lv_at hl 0 rfl) ?_
  refine lv_iconst (v := 1) hx hb d_Mo_init_13 (by decide) ?_
  refine zg_newp (atype := .byte) (ty := .byte) (N' := 1) (a0 := (1, .inl (fun _ => 0))) hx hb (hts _ w_58) rfl hK hG hS hbase (fun _ => rfl) (by decide) (by decide) (by show _ * _ ≤ _; simp only [componentBytes]; omega) (by decide) (by decide) d_Mo_init_14 0 rfl (fun _ h => h) (fun q14 H n14 hG hS => ?_)
  obtain ⟨G9, eG9⟩ : ∃ z : zg_G, z = zg_up G5 q14 (.inl (E.2.1 0, 1, .inl (fun _ => 0))) := ⟨_, rfl⟩
  have hG : zP E G9 H := by rw [eG9]; exact hG
  have nf14 : G q14 = none := zx.fr hx6 n14 (fun h => by (rw [h] at n14; first | (rw [n14] at k7; cases k7)))
  have hx10 : zx (fun q => q = a) G G9 := hx6.tr (by rw [eG9]; exact zx.nw n14)
  have ne14_a : a ≠ q14 := zg_fr n14 k7
  have k11 : G9 a = some (.inr (11, [.int 0, .ref q7, .int 0, .null, .null, .int 0, .null, .null, .null, .null, .null, .null, .null, .int 0, .int 0, .null, .int 0, .int 0, .null, .null, .null])) := by rw [eG9, zg_up_ne (zg_fr n14 k7)]; exact k7
  have ne14_q7 : q7 ≠ q14 := zg_fr n14 k8
  have k12 : G9 q7 = some (.inl (E.2.1 0, 65536, .inl (fun _ => 0))) := by rw [eG9, zg_up_ne (zg_fr n14 k8)]; exact k8
  have k13 : G9 q14 = some (.inl (E.2.1 0, 1, .inl (fun _ => 0))) := by rw [eG9]; exact zg_up_self _ _ _
  refine lv_dup hx hb d_Mo_init_16 rfl ?_
  refine lv_iconst (v := 0) hx hb d_Mo_init_17 (by decide) ?_
  refine zi_as (y := nI 0) (by decide) ?_
  refine lv_iconst (v := 0) hx hb d_Mo_init_18 (by decide) ?_
  refine zg_bast hx hb hK hG hS 0 k13 rfl (vp_in_nI (by omega) (by omega)) d_Mo_init_19 (fun H locs hG hS => ?_)
  rw [zi_n 0 (by omega)] at hG
  obtain ⟨G14, eG14⟩ : ∃ z : zg_G, z = zg_up G9 q14 (.inl (E.2.1 0, 1, .inl (upd (fun _ => 0) 0 (vp_nar .byte 0)))) := ⟨_, rfl⟩
  have hG : zP E G14 H := by rw [eG14]; exact hG
  have hx15 : zx (fun q => q = a) G G14 := by rw [eG14]; exact hx10.upn nf14
  have k16 : G14 a = some (.inr (11, [.int 0, .ref q7, .int 0, .null, .null, .int 0, .null, .null, .null, .null, .null, .null, .null, .int 0, .int 0, .null, .int 0, .int 0, .null, .null, .null])) := by rw [eG14, zg_up_ne (ne14_a)]; exact k11
  have k17 : G14 q7 = some (.inl (E.2.1 0, 65536, .inl (fun _ => 0))) := by rw [eG14, zg_up_ne (ne14_q7)]; exact k12
  have k18 : G14 q14 = some (.inl (E.2.1 0, 1, .inl (upd (fun _ => 0) 0 (vp_nar .byte 0)))) := by rw [eG14]; exact zg_up_self _ _ _
  refine zg_put (ci := 11) (v := .ref q14) (ty := .array .byte) (C := "ZoneAnswersModel") (T := T_Mo) (N := 21) hx hb hts zi_Mo t_Mo t_Mo_ok n_Mo hown hK hG hS k16 rfl 3 (by decide) (hts _ w_1284) (fun _ h9 => h9) rfl (by decide +kernel) rfl rfl (Nat.le_of_ble_eq_true rfl) d_Mo_init_20 (fun H locs hG hS => ?_)
  obtain ⟨G19, eG19⟩ : ∃ z : zg_G, z = zg_up G14 a (.inr (11, [.int 0, .ref q7, .int 0, .ref q14, .null, .int 0, .null, .null, .null, .null, .null, .null, .null, .int 0, .int 0, .null, .int 0, .int 0, .null, .null, .null])) := ⟨_, rfl⟩
  have hG : zP E G19 H := by rw [eG19]; exact hG
  have hx20 : zx (fun q => q = a) G G19 := hx15.tr (by rw [eG19]; exact zx.up (rfl))
  have k21 : G19 a = some (.inr (11, [.int 0, .ref q7, .int 0, .ref q14, .null, .int 0, .null, .null, .null, .null, .null, .null, .null, .int 0, .int 0, .null, .int 0, .int 0, .null, .null, .null])) := by rw [eG19]; exact zg_up_self _ _ _
  have k22 : G19 q7 = some (.inl (E.2.1 0, 65536, .inl (fun _ => 0))) := by rw [eG19, zg_up_ne (Ne.symm ne7_a)]; exact k17
  have k23 : G19 q14 = some (.inl (E.2.1 0, 1, .inl (upd (fun _ => 0) 0 (vp_nar .byte 0)))) := by rw [eG19, zg_up_ne (Ne.symm ne14_a)]; exact k18
  refine lv_aload_n hx hb d_Mo_init_23 rfl (lv_at hl 0 rfl) ?_
  refine lv_sipush (v := 2000) hx hb d_Mo_init_24 (by decide) ?_
  refine zg_newq (C := "ZoneAnswersModel$Rec") (N' := 2000) hx hb hown (hts _ w_1252) hQ.2.2.2.2.1 hK hG hS hbase (by decide) (by decide) (by omega) (by decide) (by decide) d_Mo_init_27 4 rfl (fun q27 H n27 hG hS => ?_)
  obtain ⟨G24, eG24⟩ : ∃ z : zg_G, z = zg_up G19 q27 (.inl (E.2.1 4, 2000, .inr (.inr (.inr (.inr (fun _ => none)))))) := ⟨_, rfl⟩
  have hG : zP E G24 H := by rw [eG24]; exact hG
  have nf27 : G q27 = none := zx.fr hx20 n27 (fun h => by (rw [h] at n27; first | (rw [n27] at k21; cases k21)))
  have hx25 : zx (fun q => q = a) G G24 := hx20.tr (by rw [eG24]; exact zx.nw n27)
  have ne27_a : a ≠ q27 := zg_fr n27 k21
  have k26 : G24 a = some (.inr (11, [.int 0, .ref q7, .int 0, .ref q14, .null, .int 0, .null, .null, .null, .null, .null, .null, .null, .int 0, .int 0, .null, .int 0, .int 0, .null, .null, .null])) := by rw [eG24, zg_up_ne (zg_fr n27 k21)]; exact k21
  have ne27_q7 : q7 ≠ q27 := zg_fr n27 k22
  have k27 : G24 q7 = some (.inl (E.2.1 0, 65536, .inl (fun _ => 0))) := by rw [eG24, zg_up_ne (zg_fr n27 k22)]; exact k22
  have ne27_q14 : q14 ≠ q27 := zg_fr n27 k23
  have k28 : G24 q14 = some (.inl (E.2.1 0, 1, .inl (upd (fun _ => 0) 0 (vp_nar .byte 0)))) := by rw [eG24, zg_up_ne (zg_fr n27 k23)]; exact k23
  have k29 : G24 q27 = some (.inl (E.2.1 4, 2000, .inr (.inr (.inr (.inr (fun _ => none)))))) := by rw [eG24]; exact zg_up_self _ _ _
  refine zg_putF (ci := 11) (v := .ref q27) (ty := .array (.object "ZoneAnswersModel$Rec")) (C := "ZoneAnswersModel") (T := T_Mo) (N := 21) hx hb hts zi_Mo t_Mo t_Mo_ok n_Mo hown hK hG hS k26 rfl 4 (by decide) (hts _ w_1285) (fun _ h9 => h9) rfl hnm rfl (by decide +kernel) rfl rfl (Nat.le_of_ble_eq_true rfl) d_Mo_init_30 (fun H locs hG hS => ?_)
  obtain ⟨G30, eG30⟩ : ∃ z : zg_G, z = zg_up G24 a (.inr (11, [.int 0, .ref q7, .int 0, .ref q14, .ref q27, .int 0, .null, .null, .null, .null, .null, .null, .null, .int 0, .int 0, .null, .int 0, .int 0, .null, .null, .null])) := ⟨_, rfl⟩
  have hG : zP E G30 H := by rw [eG30]; exact hG
  have hx31 : zx (fun q => q = a) G G30 := hx25.tr (by rw [eG30]; exact zx.up (rfl))
  have k32 : G30 a = some (.inr (11, [.int 0, .ref q7, .int 0, .ref q14, .ref q27, .int 0, .null, .null, .null, .null, .null, .null, .null, .int 0, .int 0, .null, .int 0, .int 0, .null, .null, .null])) := by rw [eG30]; exact zg_up_self _ _ _
  have k33 : G30 q7 = some (.inl (E.2.1 0, 65536, .inl (fun _ => 0))) := by rw [eG30, zg_up_ne (Ne.symm ne7_a)]; exact k27
  have k34 : G30 q14 = some (.inl (E.2.1 0, 1, .inl (upd (fun _ => 0) 0 (vp_nar .byte 0)))) := by rw [eG30, zg_up_ne (Ne.symm ne14_a)]; exact k28
  have k35 : G30 q27 = some (.inl (E.2.1 4, 2000, .inr (.inr (.inr (.inr (fun _ => none)))))) := by rw [eG30, zg_up_ne (Ne.symm ne27_a)]; exact k29
  refine lv_aload_n hx hb d_Mo_init_33 rfl (lv_at hl 0 rfl) ?_
  refine lv_bipush (v := 64) hx hb d_Mo_init_34 (by decide) ?_
  refine zg_newp (atype := .int) (ty := .int) (N' := 64) (a0 := (64, .inl (fun _ => 0))) hx hb (hts _ w_1196) rfl hK hG hS hbase (fun _ => rfl) (by decide) (by decide) (by show _ * _ ≤ _; simp only [componentBytes]; omega) (by decide) (by decide) d_Mo_init_36 1 rfl (fun _ h => h) (fun q36 H n36 hG hS => ?_)
  obtain ⟨G36, eG36⟩ : ∃ z : zg_G, z = zg_up G30 q36 (.inl (E.2.1 1, 64, .inl (fun _ => 0))) := ⟨_, rfl⟩
  have hG : zP E G36 H := by rw [eG36]; exact hG
  have nf36 : G q36 = none := zx.fr hx31 n36 (fun h => by (rw [h] at n36; first | (rw [n36] at k32; cases k32)))
  have hx37 : zx (fun q => q = a) G G36 := hx31.tr (by rw [eG36]; exact zx.nw n36)
  have ne36_a : a ≠ q36 := zg_fr n36 k32
  have k38 : G36 a = some (.inr (11, [.int 0, .ref q7, .int 0, .ref q14, .ref q27, .int 0, .null, .null, .null, .null, .null, .null, .null, .int 0, .int 0, .null, .int 0, .int 0, .null, .null, .null])) := by rw [eG36, zg_up_ne (zg_fr n36 k32)]; exact k32
  have ne36_q7 : q7 ≠ q36 := zg_fr n36 k33
  have k39 : G36 q7 = some (.inl (E.2.1 0, 65536, .inl (fun _ => 0))) := by rw [eG36, zg_up_ne (zg_fr n36 k33)]; exact k33
  have ne36_q14 : q14 ≠ q36 := zg_fr n36 k34
  have k40 : G36 q14 = some (.inl (E.2.1 0, 1, .inl (upd (fun _ => 0) 0 (vp_nar .byte 0)))) := by rw [eG36, zg_up_ne (zg_fr n36 k34)]; exact k34
  have ne36_q27 : q27 ≠ q36 := zg_fr n36 k35
  have k41 : G36 q27 = some (.inl (E.2.1 4, 2000, .inr (.inr (.inr (.inr (fun _ => none)))))) := by rw [eG36, zg_up_ne (zg_fr n36 k35)]; exact k35
  have k42 : G36 q36 = some (.inl (E.2.1 1, 64, .inl (fun _ => 0))) := by rw [eG36]; exact zg_up_self _ _ _
  refine zg_put (ci := 11) (v := .ref q36) (ty := .array .int) (C := "ZoneAnswersModel") (T := T_Mo) (N := 21) hx hb hts zi_Mo t_Mo t_Mo_ok n_Mo hown hK hG hS k38 rfl 6 (by decide) (hts _ w_1287) (fun _ h9 => h9) rfl (by decide +kernel) rfl rfl (Nat.le_of_ble_eq_true rfl) d_Mo_init_38 (fun H locs hG hS => ?_)
  obtain ⟨G43, eG43⟩ : ∃ z : zg_G, z = zg_up G36 a (.inr (11, [.int 0, .ref q7, .int 0, .ref q14, .ref q27, .int 0, .ref q36, .null, .null, .null, .null, .null, .null, .int 0, .int 0, .null, .int 0, .int 0, .null, .null, .null])) := ⟨_, rfl⟩
  have hG : zP E G43 H := by rw [eG43]; exact hG
  have hx44 : zx (fun q => q = a) G G43 := hx37.tr (by rw [eG43]; exact zx.up (rfl))
  have k45 : G43 a = some (.inr (11, [.int 0, .ref q7, .int 0, .ref q14, .ref q27, .int 0, .ref q36, .null, .null, .null, .null, .null, .null, .int 0, .int 0, .null, .int 0, .int 0, .null, .null, .null])) := by rw [eG43]; exact zg_up_self _ _ _
  have k46 : G43 q7 = some (.inl (E.2.1 0, 65536, .inl (fun _ => 0))) := by rw [eG43, zg_up_ne (Ne.symm ne7_a)]; exact k39
  have k47 : G43 q14 = some (.inl (E.2.1 0, 1, .inl (upd (fun _ => 0) 0 (vp_nar .byte 0)))) := by rw [eG43, zg_up_ne (Ne.symm ne14_a)]; exact k40
  have k48 : G43 q27 = some (.inl (E.2.1 4, 2000, .inr (.inr (.inr (.inr (fun _ => none)))))) := by rw [eG43, zg_up_ne (Ne.symm ne27_a)]; exact k41
  have k49 : G43 q36 = some (.inl (E.2.1 1, 64, .inl (fun _ => 0))) := by rw [eG43, zg_up_ne (Ne.symm ne36_a)]; exact k42
  refine lv_aload_n hx hb d_Mo_init_41 rfl (lv_at hl 0 rfl) ?_
  refine lv_bipush (v := 64) hx hb d_Mo_init_42 (by decide) ?_
  refine zg_newp (atype := .int) (ty := .int) (N' := 64) (a0 := (64, .inl (fun _ => 0))) hx hb (hts _ w_1196) rfl hK hG hS hbase (fun _ => rfl) (by decide) (by decide) (by show _ * _ ≤ _; simp only [componentBytes]; omega) (by decide) (by decide) d_Mo_init_44 1 rfl (fun _ h => h) (fun q44 H n44 hG hS => ?_)
  obtain ⟨G50, eG50⟩ : ∃ z : zg_G, z = zg_up G43 q44 (.inl (E.2.1 1, 64, .inl (fun _ => 0))) := ⟨_, rfl⟩
  have hG : zP E G50 H := by rw [eG50]; exact hG
  have nf44 : G q44 = none := zx.fr hx44 n44 (fun h => by (rw [h] at n44; first | (rw [n44] at k45; cases k45)))
  have hx51 : zx (fun q => q = a) G G50 := hx44.tr (by rw [eG50]; exact zx.nw n44)
  have ne44_a : a ≠ q44 := zg_fr n44 k45
  have k52 : G50 a = some (.inr (11, [.int 0, .ref q7, .int 0, .ref q14, .ref q27, .int 0, .ref q36, .null, .null, .null, .null, .null, .null, .int 0, .int 0, .null, .int 0, .int 0, .null, .null, .null])) := by rw [eG50, zg_up_ne (zg_fr n44 k45)]; exact k45
  have ne44_q7 : q7 ≠ q44 := zg_fr n44 k46
  have k53 : G50 q7 = some (.inl (E.2.1 0, 65536, .inl (fun _ => 0))) := by rw [eG50, zg_up_ne (zg_fr n44 k46)]; exact k46
  have ne44_q14 : q14 ≠ q44 := zg_fr n44 k47
  have k54 : G50 q14 = some (.inl (E.2.1 0, 1, .inl (upd (fun _ => 0) 0 (vp_nar .byte 0)))) := by rw [eG50, zg_up_ne (zg_fr n44 k47)]; exact k47
  have ne44_q27 : q27 ≠ q44 := zg_fr n44 k48
  have k55 : G50 q27 = some (.inl (E.2.1 4, 2000, .inr (.inr (.inr (.inr (fun _ => none)))))) := by rw [eG50, zg_up_ne (zg_fr n44 k48)]; exact k48
  have ne44_q36 : q36 ≠ q44 := zg_fr n44 k49
  have k56 : G50 q36 = some (.inl (E.2.1 1, 64, .inl (fun _ => 0))) := by rw [eG50, zg_up_ne (zg_fr n44 k49)]; exact k49
  have k57 : G50 q44 = some (.inl (E.2.1 1, 64, .inl (fun _ => 0))) := by rw [eG50]; exact zg_up_self _ _ _
  refine zg_put (ci := 11) (v := .ref q44) (ty := .array .int) (C := "ZoneAnswersModel") (T := T_Mo) (N := 21) hx hb hts zi_Mo t_Mo t_Mo_ok n_Mo hown hK hG hS k52 rfl 7 (by decide) (hts _ w_1288) (fun _ h9 => h9) rfl (by decide +kernel) rfl rfl (Nat.le_of_ble_eq_true rfl) d_Mo_init_46 (fun H locs hG hS => ?_)
  obtain ⟨G58, eG58⟩ : ∃ z : zg_G, z = zg_up G50 a (.inr (11, [.int 0, .ref q7, .int 0, .ref q14, .ref q27, .int 0, .ref q36, .ref q44, .null, .null, .null, .null, .null, .int 0, .int 0, .null, .int 0, .int 0, .null, .null, .null])) := ⟨_, rfl⟩
  have hG : zP E G58 H := by rw [eG58]; exact hG
  have hx59 : zx (fun q => q = a) G G58 := hx51.tr (by rw [eG58]; exact zx.up (rfl))
  have k60 : G58 a = some (.inr (11, [.int 0, .ref q7, .int 0, .ref q14, .ref q27, .int 0, .ref q36, .ref q44, .null, .null, .null, .null, .null, .int 0, .int 0, .null, .int 0, .int 0, .null, .null, .null])) := by rw [eG58]; exact zg_up_self _ _ _
  have k61 : G58 q7 = some (.inl (E.2.1 0, 65536, .inl (fun _ => 0))) := by rw [eG58, zg_up_ne (Ne.symm ne7_a)]; exact k53
  have k62 : G58 q14 = some (.inl (E.2.1 0, 1, .inl (upd (fun _ => 0) 0 (vp_nar .byte 0)))) := by rw [eG58, zg_up_ne (Ne.symm ne14_a)]; exact k54
  have k63 : G58 q27 = some (.inl (E.2.1 4, 2000, .inr (.inr (.inr (.inr (fun _ => none)))))) := by rw [eG58, zg_up_ne (Ne.symm ne27_a)]; exact k55
  have k64 : G58 q36 = some (.inl (E.2.1 1, 64, .inl (fun _ => 0))) := by rw [eG58, zg_up_ne (Ne.symm ne36_a)]; exact k56
  have k65 : G58 q44 = some (.inl (E.2.1 1, 64, .inl (fun _ => 0))) := by rw [eG58, zg_up_ne (Ne.symm ne44_a)]; exact k57
  refine lv_aload_n hx hb d_Mo_init_49 rfl (lv_at hl 0 rfl) ?_
  refine lv_bipush (v := 64) hx hb d_Mo_init_50 (by decide) ?_
  refine zg_newp (atype := .int) (ty := .int) (N' := 64) (a0 := (64, .inl (fun _ => 0))) hx hb (hts _ w_1196) rfl hK hG hS hbase (fun _ => rfl) (by decide) (by decide) (by show _ * _ ≤ _; simp only [componentBytes]; omega) (by decide) (by decide) d_Mo_init_52 1 rfl (fun _ h => h) (fun q52 H n52 hG hS => ?_)
  obtain ⟨G66, eG66⟩ : ∃ z : zg_G, z = zg_up G58 q52 (.inl (E.2.1 1, 64, .inl (fun _ => 0))) := ⟨_, rfl⟩
  have hG : zP E G66 H := by rw [eG66]; exact hG
  have nf52 : G q52 = none := zx.fr hx59 n52 (fun h => by (rw [h] at n52; first | (rw [n52] at k60; cases k60)))
  have hx67 : zx (fun q => q = a) G G66 := hx59.tr (by rw [eG66]; exact zx.nw n52)
  have ne52_a : a ≠ q52 := zg_fr n52 k60
  have k68 : G66 a = some (.inr (11, [.int 0, .ref q7, .int 0, .ref q14, .ref q27, .int 0, .ref q36, .ref q44, .null, .null, .null, .null, .null, .int 0, .int 0, .null, .int 0, .int 0, .null, .null, .null])) := by rw [eG66, zg_up_ne (zg_fr n52 k60)]; exact k60
  have ne52_q7 : q7 ≠ q52 := zg_fr n52 k61
  have k69 : G66 q7 = some (.inl (E.2.1 0, 65536, .inl (fun _ => 0))) := by rw [eG66, zg_up_ne (zg_fr n52 k61)]; exact k61
  have ne52_q14 : q14 ≠ q52 := zg_fr n52 k62
  have k70 : G66 q14 = some (.inl (E.2.1 0, 1, .inl (upd (fun _ => 0) 0 (vp_nar .byte 0)))) := by rw [eG66, zg_up_ne (zg_fr n52 k62)]; exact k62
  have ne52_q27 : q27 ≠ q52 := zg_fr n52 k63
  have k71 : G66 q27 = some (.inl (E.2.1 4, 2000, .inr (.inr (.inr (.inr (fun _ => none)))))) := by rw [eG66, zg_up_ne (zg_fr n52 k63)]; exact k63
  have ne52_q36 : q36 ≠ q52 := zg_fr n52 k64
  have k72 : G66 q36 = some (.inl (E.2.1 1, 64, .inl (fun _ => 0))) := by rw [eG66, zg_up_ne (zg_fr n52 k64)]; exact k64
  have ne52_q44 : q44 ≠ q52 := zg_fr n52 k65
  have k73 : G66 q44 = some (.inl (E.2.1 1, 64, .inl (fun _ => 0))) := by rw [eG66, zg_up_ne (zg_fr n52 k65)]; exact k65
  have k74 : G66 q52 = some (.inl (E.2.1 1, 64, .inl (fun _ => 0))) := by rw [eG66]; exact zg_up_self _ _ _
  refine zg_put (ci := 11) (v := .ref q52) (ty := .array .int) (C := "ZoneAnswersModel") (T := T_Mo) (N := 21) hx hb hts zi_Mo t_Mo t_Mo_ok n_Mo hown hK hG hS k68 rfl 8 (by decide) (hts _ w_1289) (fun _ h9 => h9) rfl (by decide +kernel) rfl rfl (Nat.le_of_ble_eq_true rfl) d_Mo_init_54 (fun H locs hG hS => ?_)
  obtain ⟨G75, eG75⟩ : ∃ z : zg_G, z = zg_up G66 a (.inr (11, [.int 0, .ref q7, .int 0, .ref q14, .ref q27, .int 0, .ref q36, .ref q44, .ref q52, .null, .null, .null, .null, .int 0, .int 0, .null, .int 0, .int 0, .null, .null, .null])) := ⟨_, rfl⟩
  have hG : zP E G75 H := by rw [eG75]; exact hG
  have hx76 : zx (fun q => q = a) G G75 := hx67.tr (by rw [eG75]; exact zx.up (rfl))
  have k77 : G75 a = some (.inr (11, [.int 0, .ref q7, .int 0, .ref q14, .ref q27, .int 0, .ref q36, .ref q44, .ref q52, .null, .null, .null, .null, .int 0, .int 0, .null, .int 0, .int 0, .null, .null, .null])) := by rw [eG75]; exact zg_up_self _ _ _
  have k78 : G75 q7 = some (.inl (E.2.1 0, 65536, .inl (fun _ => 0))) := by rw [eG75, zg_up_ne (Ne.symm ne7_a)]; exact k69
  have k79 : G75 q14 = some (.inl (E.2.1 0, 1, .inl (upd (fun _ => 0) 0 (vp_nar .byte 0)))) := by rw [eG75, zg_up_ne (Ne.symm ne14_a)]; exact k70
  have k80 : G75 q27 = some (.inl (E.2.1 4, 2000, .inr (.inr (.inr (.inr (fun _ => none)))))) := by rw [eG75, zg_up_ne (Ne.symm ne27_a)]; exact k71
  have k81 : G75 q36 = some (.inl (E.2.1 1, 64, .inl (fun _ => 0))) := by rw [eG75, zg_up_ne (Ne.symm ne36_a)]; exact k72
  have k82 : G75 q44 = some (.inl (E.2.1 1, 64, .inl (fun _ => 0))) := by rw [eG75, zg_up_ne (Ne.symm ne44_a)]; exact k73
  have k83 : G75 q52 = some (.inl (E.2.1 1, 64, .inl (fun _ => 0))) := by rw [eG75, zg_up_ne (Ne.symm ne52_a)]; exact k74
  refine lv_aload_n hx hb d_Mo_init_57 rfl (lv_at hl 0 rfl) ?_
  refine lv_bipush (v := 64) hx hb d_Mo_init_58 (by decide) ?_
  refine zg_newp (atype := .int) (ty := .int) (N' := 64) (a0 := (64, .inl (fun _ => 0))) hx hb (hts _ w_1196) rfl hK hG hS hbase (fun _ => rfl) (by decide) (by decide) (by show _ * _ ≤ _; simp only [componentBytes]; omega) (by decide) (by decide) d_Mo_init_60 1 rfl (fun _ h => h) (fun q60 H n60 hG hS => ?_)
  obtain ⟨G84, eG84⟩ : ∃ z : zg_G, z = zg_up G75 q60 (.inl (E.2.1 1, 64, .inl (fun _ => 0))) := ⟨_, rfl⟩
  have hG : zP E G84 H := by rw [eG84]; exact hG
  have nf60 : G q60 = none := zx.fr hx76 n60 (fun h => by (rw [h] at n60; first | (rw [n60] at k77; cases k77)))
  have hx85 : zx (fun q => q = a) G G84 := hx76.tr (by rw [eG84]; exact zx.nw n60)
  have ne60_a : a ≠ q60 := zg_fr n60 k77
  have k86 : G84 a = some (.inr (11, [.int 0, .ref q7, .int 0, .ref q14, .ref q27, .int 0, .ref q36, .ref q44, .ref q52, .null, .null, .null, .null, .int 0, .int 0, .null, .int 0, .int 0, .null, .null, .null])) := by rw [eG84, zg_up_ne (zg_fr n60 k77)]; exact k77
  have ne60_q7 : q7 ≠ q60 := zg_fr n60 k78
  have k87 : G84 q7 = some (.inl (E.2.1 0, 65536, .inl (fun _ => 0))) := by rw [eG84, zg_up_ne (zg_fr n60 k78)]; exact k78
  have ne60_q14 : q14 ≠ q60 := zg_fr n60 k79
  have k88 : G84 q14 = some (.inl (E.2.1 0, 1, .inl (upd (fun _ => 0) 0 (vp_nar .byte 0)))) := by rw [eG84, zg_up_ne (zg_fr n60 k79)]; exact k79
  have ne60_q27 : q27 ≠ q60 := zg_fr n60 k80
  have k89 : G84 q27 = some (.inl (E.2.1 4, 2000, .inr (.inr (.inr (.inr (fun _ => none)))))) := by rw [eG84, zg_up_ne (zg_fr n60 k80)]; exact k80
  have ne60_q36 : q36 ≠ q60 := zg_fr n60 k81
  have k90 : G84 q36 = some (.inl (E.2.1 1, 64, .inl (fun _ => 0))) := by rw [eG84, zg_up_ne (zg_fr n60 k81)]; exact k81
  have ne60_q44 : q44 ≠ q60 := zg_fr n60 k82
  have k91 : G84 q44 = some (.inl (E.2.1 1, 64, .inl (fun _ => 0))) := by rw [eG84, zg_up_ne (zg_fr n60 k82)]; exact k82
  have ne60_q52 : q52 ≠ q60 := zg_fr n60 k83
  have k92 : G84 q52 = some (.inl (E.2.1 1, 64, .inl (fun _ => 0))) := by rw [eG84, zg_up_ne (zg_fr n60 k83)]; exact k83
  have k93 : G84 q60 = some (.inl (E.2.1 1, 64, .inl (fun _ => 0))) := by rw [eG84]; exact zg_up_self _ _ _
  refine zg_put (ci := 11) (v := .ref q60) (ty := .array .int) (C := "ZoneAnswersModel") (T := T_Mo) (N := 21) hx hb hts zi_Mo t_Mo t_Mo_ok n_Mo hown hK hG hS k86 rfl 9 (by decide) (hts _ w_1290) (fun _ h9 => h9) rfl (by decide +kernel) rfl rfl (Nat.le_of_ble_eq_true rfl) d_Mo_init_62 (fun H locs hG hS => ?_)
  obtain ⟨G94, eG94⟩ : ∃ z : zg_G, z = zg_up G84 a (.inr (11, [.int 0, .ref q7, .int 0, .ref q14, .ref q27, .int 0, .ref q36, .ref q44, .ref q52, .ref q60, .null, .null, .null, .int 0, .int 0, .null, .int 0, .int 0, .null, .null, .null])) := ⟨_, rfl⟩
  have hG : zP E G94 H := by rw [eG94]; exact hG
  have hx95 : zx (fun q => q = a) G G94 := hx85.tr (by rw [eG94]; exact zx.up (rfl))
  have k96 : G94 a = some (.inr (11, [.int 0, .ref q7, .int 0, .ref q14, .ref q27, .int 0, .ref q36, .ref q44, .ref q52, .ref q60, .null, .null, .null, .int 0, .int 0, .null, .int 0, .int 0, .null, .null, .null])) := by rw [eG94]; exact zg_up_self _ _ _
  have k97 : G94 q7 = some (.inl (E.2.1 0, 65536, .inl (fun _ => 0))) := by rw [eG94, zg_up_ne (Ne.symm ne7_a)]; exact k87
  have k98 : G94 q14 = some (.inl (E.2.1 0, 1, .inl (upd (fun _ => 0) 0 (vp_nar .byte 0)))) := by rw [eG94, zg_up_ne (Ne.symm ne14_a)]; exact k88
  have k99 : G94 q27 = some (.inl (E.2.1 4, 2000, .inr (.inr (.inr (.inr (fun _ => none)))))) := by rw [eG94, zg_up_ne (Ne.symm ne27_a)]; exact k89
  have k100 : G94 q36 = some (.inl (E.2.1 1, 64, .inl (fun _ => 0))) := by rw [eG94, zg_up_ne (Ne.symm ne36_a)]; exact k90
  have k101 : G94 q44 = some (.inl (E.2.1 1, 64, .inl (fun _ => 0))) := by rw [eG94, zg_up_ne (Ne.symm ne44_a)]; exact k91
  have k102 : G94 q52 = some (.inl (E.2.1 1, 64, .inl (fun _ => 0))) := by rw [eG94, zg_up_ne (Ne.symm ne52_a)]; exact k92
  have k103 : G94 q60 = some (.inl (E.2.1 1, 64, .inl (fun _ => 0))) := by rw [eG94, zg_up_ne (Ne.symm ne60_a)]; exact k93
  refine lv_aload_n hx hb d_Mo_init_65 rfl (lv_at hl 0 rfl) ?_
  refine lv_bipush (v := 64) hx hb d_Mo_init_66 (by decide) ?_
  refine zg_newp (atype := .int) (ty := .int) (N' := 64) (a0 := (64, .inl (fun _ => 0))) hx hb (hts _ w_1196) rfl hK hG hS hbase (fun _ => rfl) (by decide) (by decide) (by show _ * _ ≤ _; simp only [componentBytes]; omega) (by decide) (by decide) d_Mo_init_68 1 rfl (fun _ h => h) (fun q68 H n68 hG hS => ?_)
  obtain ⟨G104, eG104⟩ : ∃ z : zg_G, z = zg_up G94 q68 (.inl (E.2.1 1, 64, .inl (fun _ => 0))) := ⟨_, rfl⟩
  have hG : zP E G104 H := by rw [eG104]; exact hG
  have nf68 : G q68 = none := zx.fr hx95 n68 (fun h => by (rw [h] at n68; first | (rw [n68] at k96; cases k96)))
  have hx105 : zx (fun q => q = a) G G104 := hx95.tr (by rw [eG104]; exact zx.nw n68)
  have ne68_a : a ≠ q68 := zg_fr n68 k96
  have k106 : G104 a = some (.inr (11, [.int 0, .ref q7, .int 0, .ref q14, .ref q27, .int 0, .ref q36, .ref q44, .ref q52, .ref q60, .null, .null, .null, .int 0, .int 0, .null, .int 0, .int 0, .null, .null, .null])) := by rw [eG104, zg_up_ne (zg_fr n68 k96)]; exact k96
  have ne68_q7 : q7 ≠ q68 := zg_fr n68 k97
  have k107 : G104 q7 = some (.inl (E.2.1 0, 65536, .inl (fun _ => 0))) := by rw [eG104, zg_up_ne (zg_fr n68 k97)]; exact k97
  have ne68_q14 : q14 ≠ q68 := zg_fr n68 k98
  have k108 : G104 q14 = some (.inl (E.2.1 0, 1, .inl (upd (fun _ => 0) 0 (vp_nar .byte 0)))) := by rw [eG104, zg_up_ne (zg_fr n68 k98)]; exact k98
  have ne68_q27 : q27 ≠ q68 := zg_fr n68 k99
  have k109 : G104 q27 = some (.inl (E.2.1 4, 2000, .inr (.inr (.inr (.inr (fun _ => none)))))) := by rw [eG104, zg_up_ne (zg_fr n68 k99)]; exact k99
  have ne68_q36 : q36 ≠ q68 := zg_fr n68 k100
  have k110 : G104 q36 = some (.inl (E.2.1 1, 64, .inl (fun _ => 0))) := by rw [eG104, zg_up_ne (zg_fr n68 k100)]; exact k100
  have ne68_q44 : q44 ≠ q68 := zg_fr n68 k101
  have k111 : G104 q44 = some (.inl (E.2.1 1, 64, .inl (fun _ => 0))) := by rw [eG104, zg_up_ne (zg_fr n68 k101)]; exact k101
  have ne68_q52 : q52 ≠ q68 := zg_fr n68 k102
  have k112 : G104 q52 = some (.inl (E.2.1 1, 64, .inl (fun _ => 0))) := by rw [eG104, zg_up_ne (zg_fr n68 k102)]; exact k102
  have ne68_q60 : q60 ≠ q68 := zg_fr n68 k103
  have k113 : G104 q60 = some (.inl (E.2.1 1, 64, .inl (fun _ => 0))) := by rw [eG104, zg_up_ne (zg_fr n68 k103)]; exact k103
  have k114 : G104 q68 = some (.inl (E.2.1 1, 64, .inl (fun _ => 0))) := by rw [eG104]; exact zg_up_self _ _ _
  refine zg_put (ci := 11) (v := .ref q68) (ty := .array .int) (C := "ZoneAnswersModel") (T := T_Mo) (N := 21) hx hb hts zi_Mo t_Mo t_Mo_ok n_Mo hown hK hG hS k106 rfl 10 (by decide) (hts _ w_1291) (fun _ h9 => h9) rfl (by decide +kernel) rfl rfl (Nat.le_of_ble_eq_true rfl) d_Mo_init_70 (fun H locs hG hS => ?_)
  obtain ⟨G115, eG115⟩ : ∃ z : zg_G, z = zg_up G104 a (.inr (11, [.int 0, .ref q7, .int 0, .ref q14, .ref q27, .int 0, .ref q36, .ref q44, .ref q52, .ref q60, .ref q68, .null, .null, .int 0, .int 0, .null, .int 0, .int 0, .null, .null, .null])) := ⟨_, rfl⟩
  have hG : zP E G115 H := by rw [eG115]; exact hG
  have hx116 : zx (fun q => q = a) G G115 := hx105.tr (by rw [eG115]; exact zx.up (rfl))
  have k117 : G115 a = some (.inr (11, [.int 0, .ref q7, .int 0, .ref q14, .ref q27, .int 0, .ref q36, .ref q44, .ref q52, .ref q60, .ref q68, .null, .null, .int 0, .int 0, .null, .int 0, .int 0, .null, .null, .null])) := by rw [eG115]; exact zg_up_self _ _ _
  have k118 : G115 q7 = some (.inl (E.2.1 0, 65536, .inl (fun _ => 0))) := by rw [eG115, zg_up_ne (Ne.symm ne7_a)]; exact k107
  have k119 : G115 q14 = some (.inl (E.2.1 0, 1, .inl (upd (fun _ => 0) 0 (vp_nar .byte 0)))) := by rw [eG115, zg_up_ne (Ne.symm ne14_a)]; exact k108
  have k120 : G115 q27 = some (.inl (E.2.1 4, 2000, .inr (.inr (.inr (.inr (fun _ => none)))))) := by rw [eG115, zg_up_ne (Ne.symm ne27_a)]; exact k109
  have k121 : G115 q36 = some (.inl (E.2.1 1, 64, .inl (fun _ => 0))) := by rw [eG115, zg_up_ne (Ne.symm ne36_a)]; exact k110
  have k122 : G115 q44 = some (.inl (E.2.1 1, 64, .inl (fun _ => 0))) := by rw [eG115, zg_up_ne (Ne.symm ne44_a)]; exact k111
  have k123 : G115 q52 = some (.inl (E.2.1 1, 64, .inl (fun _ => 0))) := by rw [eG115, zg_up_ne (Ne.symm ne52_a)]; exact k112
  have k124 : G115 q60 = some (.inl (E.2.1 1, 64, .inl (fun _ => 0))) := by rw [eG115, zg_up_ne (Ne.symm ne60_a)]; exact k113
  have k125 : G115 q68 = some (.inl (E.2.1 1, 64, .inl (fun _ => 0))) := by rw [eG115, zg_up_ne (Ne.symm ne68_a)]; exact k114
  refine lv_aload_n hx hb d_Mo_init_73 rfl (lv_at hl 0 rfl) ?_
  refine lv_bipush (v := 64) hx hb d_Mo_init_74 (by decide) ?_
  refine zg_newA (N' := 64) (t := .byte) hx hb hown (by rw [zeB]; exact hts _ w_1254) (zAt_use hQ.2.2.2.2.2.2.2.2.2.2.2.2) hK hG hS hbase (by decide) (by decide) (by omega) (by decide) (by decide) d_Mo_init_76 5 rfl (fun q76 H n76 hG hS => ?_)
  obtain ⟨G126, eG126⟩ : ∃ z : zg_G, z = zg_up G115 q76 (.inl (E.2.1 5, 64, .inr (.inr (.inr (.inr (fun _ => none)))))) := ⟨_, rfl⟩
  have hG : zP E G126 H := by rw [eG126]; exact hG
  have nf76 : G q76 = none := zx.fr hx116 n76 (fun h => by (rw [h] at n76; first | (rw [n76] at k117; cases k117)))
  have hx127 : zx (fun q => q = a) G G126 := hx116.tr (by rw [eG126]; exact zx.nw n76)
  have ne76_a : a ≠ q76 := zg_fr n76 k117
  have k128 : G126 a = some (.inr (11, [.int 0, .ref q7, .int 0, .ref q14, .ref q27, .int 0, .ref q36, .ref q44, .ref q52, .ref q60, .ref q68, .null, .null, .int 0, .int 0, .null, .int 0, .int 0, .null, .null, .null])) := by rw [eG126, zg_up_ne (zg_fr n76 k117)]; exact k117
  have ne76_q7 : q7 ≠ q76 := zg_fr n76 k118
  have k129 : G126 q7 = some (.inl (E.2.1 0, 65536, .inl (fun _ => 0))) := by rw [eG126, zg_up_ne (zg_fr n76 k118)]; exact k118
  have ne76_q14 : q14 ≠ q76 := zg_fr n76 k119
  have k130 : G126 q14 = some (.inl (E.2.1 0, 1, .inl (upd (fun _ => 0) 0 (vp_nar .byte 0)))) := by rw [eG126, zg_up_ne (zg_fr n76 k119)]; exact k119
  have ne76_q27 : q27 ≠ q76 := zg_fr n76 k120
  have k131 : G126 q27 = some (.inl (E.2.1 4, 2000, .inr (.inr (.inr (.inr (fun _ => none)))))) := by rw [eG126, zg_up_ne (zg_fr n76 k120)]; exact k120
  have ne76_q36 : q36 ≠ q76 := zg_fr n76 k121
  have k132 : G126 q36 = some (.inl (E.2.1 1, 64, .inl (fun _ => 0))) := by rw [eG126, zg_up_ne (zg_fr n76 k121)]; exact k121
  have ne76_q44 : q44 ≠ q76 := zg_fr n76 k122
  have k133 : G126 q44 = some (.inl (E.2.1 1, 64, .inl (fun _ => 0))) := by rw [eG126, zg_up_ne (zg_fr n76 k122)]; exact k122
  have ne76_q52 : q52 ≠ q76 := zg_fr n76 k123
  have k134 : G126 q52 = some (.inl (E.2.1 1, 64, .inl (fun _ => 0))) := by rw [eG126, zg_up_ne (zg_fr n76 k123)]; exact k123
  have ne76_q60 : q60 ≠ q76 := zg_fr n76 k124
  have k135 : G126 q60 = some (.inl (E.2.1 1, 64, .inl (fun _ => 0))) := by rw [eG126, zg_up_ne (zg_fr n76 k124)]; exact k124
  have ne76_q68 : q68 ≠ q76 := zg_fr n76 k125
  have k136 : G126 q68 = some (.inl (E.2.1 1, 64, .inl (fun _ => 0))) := by rw [eG126, zg_up_ne (zg_fr n76 k125)]; exact k125
  have k137 : G126 q76 = some (.inl (E.2.1 5, 64, .inr (.inr (.inr (.inr (fun _ => none)))))) := by rw [eG126]; exact zg_up_self _ _ _
  refine zg_put (ci := 11) (v := .ref q76) (ty := .array (.array .byte)) (C := "ZoneAnswersModel") (T := T_Mo) (N := 21) hx hb hts zi_Mo t_Mo t_Mo_ok n_Mo hown hK hG hS k128 rfl 11 (by decide) (hts _ w_1292) (fun _ h9 => h9) rfl (by decide +kernel) rfl rfl (Nat.le_of_ble_eq_true rfl) d_Mo_init_79 (fun H locs hG hS => ?_)
  obtain ⟨G138, eG138⟩ : ∃ z : zg_G, z = zg_up G126 a (.inr (11, [.int 0, .ref q7, .int 0, .ref q14, .ref q27, .int 0, .ref q36, .ref q44, .ref q52, .ref q60, .ref q68, .ref q76, .null, .int 0, .int 0, .null, .int 0, .int 0, .null, .null, .null])) := ⟨_, rfl⟩
  have hG : zP E G138 H := by rw [eG138]; exact hG
  have hx139 : zx (fun q => q = a) G G138 := hx127.tr (by rw [eG138]; exact zx.up (rfl))
  have k140 : G138 a = some (.inr (11, [.int 0, .ref q7, .int 0, .ref q14, .ref q27, .int 0, .ref q36, .ref q44, .ref q52, .ref q60, .ref q68, .ref q76, .null, .int 0, .int 0, .null, .int 0, .int 0, .null, .null, .null])) := by rw [eG138]; exact zg_up_self _ _ _
  have k141 : G138 q7 = some (.inl (E.2.1 0, 65536, .inl (fun _ => 0))) := by rw [eG138, zg_up_ne (Ne.symm ne7_a)]; exact k129
  have k142 : G138 q14 = some (.inl (E.2.1 0, 1, .inl (upd (fun _ => 0) 0 (vp_nar .byte 0)))) := by rw [eG138, zg_up_ne (Ne.symm ne14_a)]; exact k130
  have k143 : G138 q27 = some (.inl (E.2.1 4, 2000, .inr (.inr (.inr (.inr (fun _ => none)))))) := by rw [eG138, zg_up_ne (Ne.symm ne27_a)]; exact k131
  have k144 : G138 q36 = some (.inl (E.2.1 1, 64, .inl (fun _ => 0))) := by rw [eG138, zg_up_ne (Ne.symm ne36_a)]; exact k132
  have k145 : G138 q44 = some (.inl (E.2.1 1, 64, .inl (fun _ => 0))) := by rw [eG138, zg_up_ne (Ne.symm ne44_a)]; exact k133
  have k146 : G138 q52 = some (.inl (E.2.1 1, 64, .inl (fun _ => 0))) := by rw [eG138, zg_up_ne (Ne.symm ne52_a)]; exact k134
  have k147 : G138 q60 = some (.inl (E.2.1 1, 64, .inl (fun _ => 0))) := by rw [eG138, zg_up_ne (Ne.symm ne60_a)]; exact k135
  have k148 : G138 q68 = some (.inl (E.2.1 1, 64, .inl (fun _ => 0))) := by rw [eG138, zg_up_ne (Ne.symm ne68_a)]; exact k136
  have k149 : G138 q76 = some (.inl (E.2.1 5, 64, .inr (.inr (.inr (.inr (fun _ => none)))))) := by rw [eG138, zg_up_ne (Ne.symm ne76_a)]; exact k137
  refine lv_aload_n hx hb d_Mo_init_82 rfl (lv_at hl 0 rfl) ?_
  refine lv_bipush (v := 64) hx hb d_Mo_init_83 (by decide) ?_
  refine zg_newA (N' := 64) (t := .byte) hx hb hown (by rw [zeB]; exact hts _ w_1254) (zAt_use hQ.2.2.2.2.2.2.2.2.2.2.2.2) hK hG hS hbase (by decide) (by decide) (by omega) (by decide) (by decide) d_Mo_init_85 5 rfl (fun q85 H n85 hG hS => ?_)
  obtain ⟨G150, eG150⟩ : ∃ z : zg_G, z = zg_up G138 q85 (.inl (E.2.1 5, 64, .inr (.inr (.inr (.inr (fun _ => none)))))) := ⟨_, rfl⟩
  have hG : zP E G150 H := by rw [eG150]; exact hG
  have nf85 : G q85 = none := zx.fr hx139 n85 (fun h => by (rw [h] at n85; first | (rw [n85] at k140; cases k140)))
  have hx151 : zx (fun q => q = a) G G150 := hx139.tr (by rw [eG150]; exact zx.nw n85)
  have ne85_a : a ≠ q85 := zg_fr n85 k140
  have k152 : G150 a = some (.inr (11, [.int 0, .ref q7, .int 0, .ref q14, .ref q27, .int 0, .ref q36, .ref q44, .ref q52, .ref q60, .ref q68, .ref q76, .null, .int 0, .int 0, .null, .int 0, .int 0, .null, .null, .null])) := by rw [eG150, zg_up_ne (zg_fr n85 k140)]; exact k140
  have ne85_q7 : q7 ≠ q85 := zg_fr n85 k141
  have k153 : G150 q7 = some (.inl (E.2.1 0, 65536, .inl (fun _ => 0))) := by rw [eG150, zg_up_ne (zg_fr n85 k141)]; exact k141
  have ne85_q14 : q14 ≠ q85 := zg_fr n85 k142
  have k154 : G150 q14 = some (.inl (E.2.1 0, 1, .inl (upd (fun _ => 0) 0 (vp_nar .byte 0)))) := by rw [eG150, zg_up_ne (zg_fr n85 k142)]; exact k142
  have ne85_q27 : q27 ≠ q85 := zg_fr n85 k143
  have k155 : G150 q27 = some (.inl (E.2.1 4, 2000, .inr (.inr (.inr (.inr (fun _ => none)))))) := by rw [eG150, zg_up_ne (zg_fr n85 k143)]; exact k143
  have ne85_q36 : q36 ≠ q85 := zg_fr n85 k144
  have k156 : G150 q36 = some (.inl (E.2.1 1, 64, .inl (fun _ => 0))) := by rw [eG150, zg_up_ne (zg_fr n85 k144)]; exact k144
  have ne85_q44 : q44 ≠ q85 := zg_fr n85 k145
  have k157 : G150 q44 = some (.inl (E.2.1 1, 64, .inl (fun _ => 0))) := by rw [eG150, zg_up_ne (zg_fr n85 k145)]; exact k145
  have ne85_q52 : q52 ≠ q85 := zg_fr n85 k146
  have k158 : G150 q52 = some (.inl (E.2.1 1, 64, .inl (fun _ => 0))) := by rw [eG150, zg_up_ne (zg_fr n85 k146)]; exact k146
  have ne85_q60 : q60 ≠ q85 := zg_fr n85 k147
  have k159 : G150 q60 = some (.inl (E.2.1 1, 64, .inl (fun _ => 0))) := by rw [eG150, zg_up_ne (zg_fr n85 k147)]; exact k147
  have ne85_q68 : q68 ≠ q85 := zg_fr n85 k148
  have k160 : G150 q68 = some (.inl (E.2.1 1, 64, .inl (fun _ => 0))) := by rw [eG150, zg_up_ne (zg_fr n85 k148)]; exact k148
  have ne85_q76 : q76 ≠ q85 := zg_fr n85 k149
  have k161 : G150 q76 = some (.inl (E.2.1 5, 64, .inr (.inr (.inr (.inr (fun _ => none)))))) := by rw [eG150, zg_up_ne (zg_fr n85 k149)]; exact k149
  have k162 : G150 q85 = some (.inl (E.2.1 5, 64, .inr (.inr (.inr (.inr (fun _ => none)))))) := by rw [eG150]; exact zg_up_self _ _ _
  refine zg_put (ci := 11) (v := .ref q85) (ty := .array (.array .byte)) (C := "ZoneAnswersModel") (T := T_Mo) (N := 21) hx hb hts zi_Mo t_Mo t_Mo_ok n_Mo hown hK hG hS k152 rfl 12 (by decide) (hts _ w_1293) (fun _ h9 => h9) rfl (by decide +kernel) rfl rfl (Nat.le_of_ble_eq_true rfl) d_Mo_init_88 (fun H locs hG hS => ?_)
  obtain ⟨G163, eG163⟩ : ∃ z : zg_G, z = zg_up G150 a (.inr (11, [.int 0, .ref q7, .int 0, .ref q14, .ref q27, .int 0, .ref q36, .ref q44, .ref q52, .ref q60, .ref q68, .ref q76, .ref q85, .int 0, .int 0, .null, .int 0, .int 0, .null, .null, .null])) := ⟨_, rfl⟩
  have hG : zP E G163 H := by rw [eG163]; exact hG
  have hx164 : zx (fun q => q = a) G G163 := hx151.tr (by rw [eG163]; exact zx.up (rfl))
  have k165 : G163 a = some (.inr (11, [.int 0, .ref q7, .int 0, .ref q14, .ref q27, .int 0, .ref q36, .ref q44, .ref q52, .ref q60, .ref q68, .ref q76, .ref q85, .int 0, .int 0, .null, .int 0, .int 0, .null, .null, .null])) := by rw [eG163]; exact zg_up_self _ _ _
  have k166 : G163 q7 = some (.inl (E.2.1 0, 65536, .inl (fun _ => 0))) := by rw [eG163, zg_up_ne (Ne.symm ne7_a)]; exact k153
  have k167 : G163 q14 = some (.inl (E.2.1 0, 1, .inl (upd (fun _ => 0) 0 (vp_nar .byte 0)))) := by rw [eG163, zg_up_ne (Ne.symm ne14_a)]; exact k154
  have k168 : G163 q27 = some (.inl (E.2.1 4, 2000, .inr (.inr (.inr (.inr (fun _ => none)))))) := by rw [eG163, zg_up_ne (Ne.symm ne27_a)]; exact k155
  have k169 : G163 q36 = some (.inl (E.2.1 1, 64, .inl (fun _ => 0))) := by rw [eG163, zg_up_ne (Ne.symm ne36_a)]; exact k156
  have k170 : G163 q44 = some (.inl (E.2.1 1, 64, .inl (fun _ => 0))) := by rw [eG163, zg_up_ne (Ne.symm ne44_a)]; exact k157
  have k171 : G163 q52 = some (.inl (E.2.1 1, 64, .inl (fun _ => 0))) := by rw [eG163, zg_up_ne (Ne.symm ne52_a)]; exact k158
  have k172 : G163 q60 = some (.inl (E.2.1 1, 64, .inl (fun _ => 0))) := by rw [eG163, zg_up_ne (Ne.symm ne60_a)]; exact k159
  have k173 : G163 q68 = some (.inl (E.2.1 1, 64, .inl (fun _ => 0))) := by rw [eG163, zg_up_ne (Ne.symm ne68_a)]; exact k160
  have k174 : G163 q76 = some (.inl (E.2.1 5, 64, .inr (.inr (.inr (.inr (fun _ => none)))))) := by rw [eG163, zg_up_ne (Ne.symm ne76_a)]; exact k161
  have k175 : G163 q85 = some (.inl (E.2.1 5, 64, .inr (.inr (.inr (.inr (fun _ => none)))))) := by rw [eG163, zg_up_ne (Ne.symm ne85_a)]; exact k162
  refine lv_aload_n hx hb d_Mo_init_91 rfl (lv_at hl 0 rfl) ?_
  refine lv_sipush (v := 512) hx hb d_Mo_init_92 (by decide) ?_
  refine zg_newp (atype := .byte) (ty := .byte) (N' := 512) (a0 := (512, .inl (fun _ => 0))) hx hb (hts _ w_58) rfl hK hG hS hbase (fun _ => rfl) (by decide) (by decide) (by show _ * _ ≤ _; simp only [componentBytes]; omega) (by decide) (by decide) d_Mo_init_95 0 rfl (fun _ h => h) (fun q95 H n95 hG hS => ?_)
  obtain ⟨G176, eG176⟩ : ∃ z : zg_G, z = zg_up G163 q95 (.inl (E.2.1 0, 512, .inl (fun _ => 0))) := ⟨_, rfl⟩
  have hG : zP E G176 H := by rw [eG176]; exact hG
  have nf95 : G q95 = none := zx.fr hx164 n95 (fun h => by (rw [h] at n95; first | (rw [n95] at k165; cases k165)))
  have hx177 : zx (fun q => q = a) G G176 := hx164.tr (by rw [eG176]; exact zx.nw n95)
  have ne95_a : a ≠ q95 := zg_fr n95 k165
  have k178 : G176 a = some (.inr (11, [.int 0, .ref q7, .int 0, .ref q14, .ref q27, .int 0, .ref q36, .ref q44, .ref q52, .ref q60, .ref q68, .ref q76, .ref q85, .int 0, .int 0, .null, .int 0, .int 0, .null, .null, .null])) := by rw [eG176, zg_up_ne (zg_fr n95 k165)]; exact k165
  have ne95_q7 : q7 ≠ q95 := zg_fr n95 k166
  have k179 : G176 q7 = some (.inl (E.2.1 0, 65536, .inl (fun _ => 0))) := by rw [eG176, zg_up_ne (zg_fr n95 k166)]; exact k166
  have ne95_q14 : q14 ≠ q95 := zg_fr n95 k167
  have k180 : G176 q14 = some (.inl (E.2.1 0, 1, .inl (upd (fun _ => 0) 0 (vp_nar .byte 0)))) := by rw [eG176, zg_up_ne (zg_fr n95 k167)]; exact k167
  have ne95_q27 : q27 ≠ q95 := zg_fr n95 k168
  have k181 : G176 q27 = some (.inl (E.2.1 4, 2000, .inr (.inr (.inr (.inr (fun _ => none)))))) := by rw [eG176, zg_up_ne (zg_fr n95 k168)]; exact k168
  have ne95_q36 : q36 ≠ q95 := zg_fr n95 k169
  have k182 : G176 q36 = some (.inl (E.2.1 1, 64, .inl (fun _ => 0))) := by rw [eG176, zg_up_ne (zg_fr n95 k169)]; exact k169
  have ne95_q44 : q44 ≠ q95 := zg_fr n95 k170
  have k183 : G176 q44 = some (.inl (E.2.1 1, 64, .inl (fun _ => 0))) := by rw [eG176, zg_up_ne (zg_fr n95 k170)]; exact k170
  have ne95_q52 : q52 ≠ q95 := zg_fr n95 k171
  have k184 : G176 q52 = some (.inl (E.2.1 1, 64, .inl (fun _ => 0))) := by rw [eG176, zg_up_ne (zg_fr n95 k171)]; exact k171
  have ne95_q60 : q60 ≠ q95 := zg_fr n95 k172
  have k185 : G176 q60 = some (.inl (E.2.1 1, 64, .inl (fun _ => 0))) := by rw [eG176, zg_up_ne (zg_fr n95 k172)]; exact k172
  have ne95_q68 : q68 ≠ q95 := zg_fr n95 k173
  have k186 : G176 q68 = some (.inl (E.2.1 1, 64, .inl (fun _ => 0))) := by rw [eG176, zg_up_ne (zg_fr n95 k173)]; exact k173
  have ne95_q76 : q76 ≠ q95 := zg_fr n95 k174
  have k187 : G176 q76 = some (.inl (E.2.1 5, 64, .inr (.inr (.inr (.inr (fun _ => none)))))) := by rw [eG176, zg_up_ne (zg_fr n95 k174)]; exact k174
  have ne95_q85 : q85 ≠ q95 := zg_fr n95 k175
  have k188 : G176 q85 = some (.inl (E.2.1 5, 64, .inr (.inr (.inr (.inr (fun _ => none)))))) := by rw [eG176, zg_up_ne (zg_fr n95 k175)]; exact k175
  have k189 : G176 q95 = some (.inl (E.2.1 0, 512, .inl (fun _ => 0))) := by rw [eG176]; exact zg_up_self _ _ _
  refine zg_put (ci := 11) (v := .ref q95) (ty := .array .byte) (C := "ZoneAnswersModel") (T := T_Mo) (N := 21) hx hb hts zi_Mo t_Mo t_Mo_ok n_Mo hown hK hG hS k178 rfl 15 (by decide) (hts _ w_1296) (fun _ h9 => h9) rfl (by decide +kernel) rfl rfl (Nat.le_of_ble_eq_true rfl) d_Mo_init_97 (fun H locs hG hS => ?_)
  obtain ⟨G190, eG190⟩ : ∃ z : zg_G, z = zg_up G176 a (.inr (11, [.int 0, .ref q7, .int 0, .ref q14, .ref q27, .int 0, .ref q36, .ref q44, .ref q52, .ref q60, .ref q68, .ref q76, .ref q85, .int 0, .int 0, .ref q95, .int 0, .int 0, .null, .null, .null])) := ⟨_, rfl⟩
  have hG : zP E G190 H := by rw [eG190]; exact hG
  have hx191 : zx (fun q => q = a) G G190 := hx177.tr (by rw [eG190]; exact zx.up (rfl))
  have k192 : G190 a = some (.inr (11, [.int 0, .ref q7, .int 0, .ref q14, .ref q27, .int 0, .ref q36, .ref q44, .ref q52, .ref q60, .ref q68, .ref q76, .ref q85, .int 0, .int 0, .ref q95, .int 0, .int 0, .null, .null, .null])) := by rw [eG190]; exact zg_up_self _ _ _
  have k193 : G190 q7 = some (.inl (E.2.1 0, 65536, .inl (fun _ => 0))) := by rw [eG190, zg_up_ne (Ne.symm ne7_a)]; exact k179
  have k194 : G190 q14 = some (.inl (E.2.1 0, 1, .inl (upd (fun _ => 0) 0 (vp_nar .byte 0)))) := by rw [eG190, zg_up_ne (Ne.symm ne14_a)]; exact k180
  have k195 : G190 q27 = some (.inl (E.2.1 4, 2000, .inr (.inr (.inr (.inr (fun _ => none)))))) := by rw [eG190, zg_up_ne (Ne.symm ne27_a)]; exact k181
  have k196 : G190 q36 = some (.inl (E.2.1 1, 64, .inl (fun _ => 0))) := by rw [eG190, zg_up_ne (Ne.symm ne36_a)]; exact k182
  have k197 : G190 q44 = some (.inl (E.2.1 1, 64, .inl (fun _ => 0))) := by rw [eG190, zg_up_ne (Ne.symm ne44_a)]; exact k183
  have k198 : G190 q52 = some (.inl (E.2.1 1, 64, .inl (fun _ => 0))) := by rw [eG190, zg_up_ne (Ne.symm ne52_a)]; exact k184
  have k199 : G190 q60 = some (.inl (E.2.1 1, 64, .inl (fun _ => 0))) := by rw [eG190, zg_up_ne (Ne.symm ne60_a)]; exact k185
  have k200 : G190 q68 = some (.inl (E.2.1 1, 64, .inl (fun _ => 0))) := by rw [eG190, zg_up_ne (Ne.symm ne68_a)]; exact k186
  have k201 : G190 q76 = some (.inl (E.2.1 5, 64, .inr (.inr (.inr (.inr (fun _ => none)))))) := by rw [eG190, zg_up_ne (Ne.symm ne76_a)]; exact k187
  have k202 : G190 q85 = some (.inl (E.2.1 5, 64, .inr (.inr (.inr (.inr (fun _ => none)))))) := by rw [eG190, zg_up_ne (Ne.symm ne85_a)]; exact k188
  have k203 : G190 q95 = some (.inl (E.2.1 0, 512, .inl (fun _ => 0))) := by rw [eG190, zg_up_ne (Ne.symm ne95_a)]; exact k189
  refine lv_aload_n hx hb d_Mo_init_100 rfl (lv_at hl 0 rfl) ?_
  refine lv_sipush (v := 4096) hx hb d_Mo_init_101 (by decide) ?_
  refine zg_newp (atype := .byte) (ty := .byte) (N' := 4096) (a0 := (4096, .inl (fun _ => 0))) hx hb (hts _ w_58) rfl hK hG hS hbase (fun _ => rfl) (by decide) (by decide) (by show _ * _ ≤ _; simp only [componentBytes]; omega) (by decide) (by decide) d_Mo_init_104 0 rfl (fun _ h => h) (fun q104 H n104 hG hS => ?_)
  obtain ⟨G204, eG204⟩ : ∃ z : zg_G, z = zg_up G190 q104 (.inl (E.2.1 0, 4096, .inl (fun _ => 0))) := ⟨_, rfl⟩
  have hG : zP E G204 H := by rw [eG204]; exact hG
  have nf104 : G q104 = none := zx.fr hx191 n104 (fun h => by (rw [h] at n104; first | (rw [n104] at k192; cases k192)))
  have hx205 : zx (fun q => q = a) G G204 := hx191.tr (by rw [eG204]; exact zx.nw n104)
  have ne104_a : a ≠ q104 := zg_fr n104 k192
  have k206 : G204 a = some (.inr (11, [.int 0, .ref q7, .int 0, .ref q14, .ref q27, .int 0, .ref q36, .ref q44, .ref q52, .ref q60, .ref q68, .ref q76, .ref q85, .int 0, .int 0, .ref q95, .int 0, .int 0, .null, .null, .null])) := by rw [eG204, zg_up_ne (zg_fr n104 k192)]; exact k192
  have ne104_q7 : q7 ≠ q104 := zg_fr n104 k193
  have k207 : G204 q7 = some (.inl (E.2.1 0, 65536, .inl (fun _ => 0))) := by rw [eG204, zg_up_ne (zg_fr n104 k193)]; exact k193
  have ne104_q14 : q14 ≠ q104 := zg_fr n104 k194
  have k208 : G204 q14 = some (.inl (E.2.1 0, 1, .inl (upd (fun _ => 0) 0 (vp_nar .byte 0)))) := by rw [eG204, zg_up_ne (zg_fr n104 k194)]; exact k194
  have ne104_q27 : q27 ≠ q104 := zg_fr n104 k195
  have k209 : G204 q27 = some (.inl (E.2.1 4, 2000, .inr (.inr (.inr (.inr (fun _ => none)))))) := by rw [eG204, zg_up_ne (zg_fr n104 k195)]; exact k195
  have ne104_q36 : q36 ≠ q104 := zg_fr n104 k196
  have k210 : G204 q36 = some (.inl (E.2.1 1, 64, .inl (fun _ => 0))) := by rw [eG204, zg_up_ne (zg_fr n104 k196)]; exact k196
  have ne104_q44 : q44 ≠ q104 := zg_fr n104 k197
  have k211 : G204 q44 = some (.inl (E.2.1 1, 64, .inl (fun _ => 0))) := by rw [eG204, zg_up_ne (zg_fr n104 k197)]; exact k197
  have ne104_q52 : q52 ≠ q104 := zg_fr n104 k198
  have k212 : G204 q52 = some (.inl (E.2.1 1, 64, .inl (fun _ => 0))) := by rw [eG204, zg_up_ne (zg_fr n104 k198)]; exact k198
  have ne104_q60 : q60 ≠ q104 := zg_fr n104 k199
  have k213 : G204 q60 = some (.inl (E.2.1 1, 64, .inl (fun _ => 0))) := by rw [eG204, zg_up_ne (zg_fr n104 k199)]; exact k199
  have ne104_q68 : q68 ≠ q104 := zg_fr n104 k200
  have k214 : G204 q68 = some (.inl (E.2.1 1, 64, .inl (fun _ => 0))) := by rw [eG204, zg_up_ne (zg_fr n104 k200)]; exact k200
  have ne104_q76 : q76 ≠ q104 := zg_fr n104 k201
  have k215 : G204 q76 = some (.inl (E.2.1 5, 64, .inr (.inr (.inr (.inr (fun _ => none)))))) := by rw [eG204, zg_up_ne (zg_fr n104 k201)]; exact k201
  have ne104_q85 : q85 ≠ q104 := zg_fr n104 k202
  have k216 : G204 q85 = some (.inl (E.2.1 5, 64, .inr (.inr (.inr (.inr (fun _ => none)))))) := by rw [eG204, zg_up_ne (zg_fr n104 k202)]; exact k202
  have ne104_q95 : q95 ≠ q104 := zg_fr n104 k203
  have k217 : G204 q95 = some (.inl (E.2.1 0, 512, .inl (fun _ => 0))) := by rw [eG204, zg_up_ne (zg_fr n104 k203)]; exact k203
  have k218 : G204 q104 = some (.inl (E.2.1 0, 4096, .inl (fun _ => 0))) := by rw [eG204]; exact zg_up_self _ _ _
  refine zg_putF (ci := 11) (v := .ref q104) (ty := .array .byte) (C := "ZoneAnswersModel") (T := T_Mo) (N := 21) hx hb hts zi_Mo t_Mo t_Mo_ok n_Mo hown hK hG hS k206 rfl 18 (by decide) (hts _ w_1299) (fun _ h9 => h9) rfl hnm rfl (by decide +kernel) rfl rfl (Nat.le_of_ble_eq_true rfl) d_Mo_init_106 (fun H locs hG hS => ?_)
  obtain ⟨G219, eG219⟩ : ∃ z : zg_G, z = zg_up G204 a (.inr (11, [.int 0, .ref q7, .int 0, .ref q14, .ref q27, .int 0, .ref q36, .ref q44, .ref q52, .ref q60, .ref q68, .ref q76, .ref q85, .int 0, .int 0, .ref q95, .int 0, .int 0, .ref q104, .null, .null])) := ⟨_, rfl⟩
  have hG : zP E G219 H := by rw [eG219]; exact hG
  have hx220 : zx (fun q => q = a) G G219 := hx205.tr (by rw [eG219]; exact zx.up (rfl))
  have k221 : G219 a = some (.inr (11, [.int 0, .ref q7, .int 0, .ref q14, .ref q27, .int 0, .ref q36, .ref q44, .ref q52, .ref q60, .ref q68, .ref q76, .ref q85, .int 0, .int 0, .ref q95, .int 0, .int 0, .ref q104, .null, .null])) := by rw [eG219]; exact zg_up_self _ _ _
  have k222 : G219 q7 = some (.inl (E.2.1 0, 65536, .inl (fun _ => 0))) := by rw [eG219, zg_up_ne (Ne.symm ne7_a)]; exact k207
  have k223 : G219 q14 = some (.inl (E.2.1 0, 1, .inl (upd (fun _ => 0) 0 (vp_nar .byte 0)))) := by rw [eG219, zg_up_ne (Ne.symm ne14_a)]; exact k208
  have k224 : G219 q27 = some (.inl (E.2.1 4, 2000, .inr (.inr (.inr (.inr (fun _ => none)))))) := by rw [eG219, zg_up_ne (Ne.symm ne27_a)]; exact k209
  have k225 : G219 q36 = some (.inl (E.2.1 1, 64, .inl (fun _ => 0))) := by rw [eG219, zg_up_ne (Ne.symm ne36_a)]; exact k210
  have k226 : G219 q44 = some (.inl (E.2.1 1, 64, .inl (fun _ => 0))) := by rw [eG219, zg_up_ne (Ne.symm ne44_a)]; exact k211
  have k227 : G219 q52 = some (.inl (E.2.1 1, 64, .inl (fun _ => 0))) := by rw [eG219, zg_up_ne (Ne.symm ne52_a)]; exact k212
  have k228 : G219 q60 = some (.inl (E.2.1 1, 64, .inl (fun _ => 0))) := by rw [eG219, zg_up_ne (Ne.symm ne60_a)]; exact k213
  have k229 : G219 q68 = some (.inl (E.2.1 1, 64, .inl (fun _ => 0))) := by rw [eG219, zg_up_ne (Ne.symm ne68_a)]; exact k214
  have k230 : G219 q76 = some (.inl (E.2.1 5, 64, .inr (.inr (.inr (.inr (fun _ => none)))))) := by rw [eG219, zg_up_ne (Ne.symm ne76_a)]; exact k215
  have k231 : G219 q85 = some (.inl (E.2.1 5, 64, .inr (.inr (.inr (.inr (fun _ => none)))))) := by rw [eG219, zg_up_ne (Ne.symm ne85_a)]; exact k216
  have k232 : G219 q95 = some (.inl (E.2.1 0, 512, .inl (fun _ => 0))) := by rw [eG219, zg_up_ne (Ne.symm ne95_a)]; exact k217
  have k233 : G219 q104 = some (.inl (E.2.1 0, 4096, .inl (fun _ => 0))) := by rw [eG219, zg_up_ne (Ne.symm ne104_a)]; exact k218
  refine lv_bipush (v := 22) hx hb d_Mo_init_109 (by decide) ?_
  refine zg_newp (atype := .byte) (ty := .byte) (N' := 22) (a0 := (22, .inl (fun _ => 0))) hx hb (hts _ w_58) rfl hK hG hS hbase (fun _ => rfl) (by decide) (by decide) (by show _ * _ ≤ _; simp only [componentBytes]; omega) (by decide) (by decide) d_Mo_init_111 0 rfl (fun _ h => h) (fun q111 H n111 hG hS => ?_)
  obtain ⟨G234, eG234⟩ : ∃ z : zg_G, z = zg_up G219 q111 (.inl (E.2.1 0, 22, .inl (fun _ => 0))) := ⟨_, rfl⟩
  have hG : zP E G234 H := by rw [eG234]; exact hG
  have nf111 : G q111 = none := zx.fr hx220 n111 (fun h => by (rw [h] at n111; first | (rw [n111] at k221; cases k221)))
  have hx235 : zx (fun q => q = a) G G234 := hx220.tr (by rw [eG234]; exact zx.nw n111)
  have ne111_a : a ≠ q111 := zg_fr n111 k221
  have k236 : G234 a = some (.inr (11, [.int 0, .ref q7, .int 0, .ref q14, .ref q27, .int 0, .ref q36, .ref q44, .ref q52, .ref q60, .ref q68, .ref q76, .ref q85, .int 0, .int 0, .ref q95, .int 0, .int 0, .ref q104, .null, .null])) := by rw [eG234, zg_up_ne (zg_fr n111 k221)]; exact k221
  have ne111_q7 : q7 ≠ q111 := zg_fr n111 k222
  have k237 : G234 q7 = some (.inl (E.2.1 0, 65536, .inl (fun _ => 0))) := by rw [eG234, zg_up_ne (zg_fr n111 k222)]; exact k222
  have ne111_q14 : q14 ≠ q111 := zg_fr n111 k223
  have k238 : G234 q14 = some (.inl (E.2.1 0, 1, .inl (upd (fun _ => 0) 0 (vp_nar .byte 0)))) := by rw [eG234, zg_up_ne (zg_fr n111 k223)]; exact k223
  have ne111_q27 : q27 ≠ q111 := zg_fr n111 k224
  have k239 : G234 q27 = some (.inl (E.2.1 4, 2000, .inr (.inr (.inr (.inr (fun _ => none)))))) := by rw [eG234, zg_up_ne (zg_fr n111 k224)]; exact k224
  have ne111_q36 : q36 ≠ q111 := zg_fr n111 k225
  have k240 : G234 q36 = some (.inl (E.2.1 1, 64, .inl (fun _ => 0))) := by rw [eG234, zg_up_ne (zg_fr n111 k225)]; exact k225
  have ne111_q44 : q44 ≠ q111 := zg_fr n111 k226
  have k241 : G234 q44 = some (.inl (E.2.1 1, 64, .inl (fun _ => 0))) := by rw [eG234, zg_up_ne (zg_fr n111 k226)]; exact k226
  have ne111_q52 : q52 ≠ q111 := zg_fr n111 k227
  have k242 : G234 q52 = some (.inl (E.2.1 1, 64, .inl (fun _ => 0))) := by rw [eG234, zg_up_ne (zg_fr n111 k227)]; exact k227
  have ne111_q60 : q60 ≠ q111 := zg_fr n111 k228
  have k243 : G234 q60 = some (.inl (E.2.1 1, 64, .inl (fun _ => 0))) := by rw [eG234, zg_up_ne (zg_fr n111 k228)]; exact k228
  have ne111_q68 : q68 ≠ q111 := zg_fr n111 k229
  have k244 : G234 q68 = some (.inl (E.2.1 1, 64, .inl (fun _ => 0))) := by rw [eG234, zg_up_ne (zg_fr n111 k229)]; exact k229
  have ne111_q76 : q76 ≠ q111 := zg_fr n111 k230
  have k245 : G234 q76 = some (.inl (E.2.1 5, 64, .inr (.inr (.inr (.inr (fun _ => none)))))) := by rw [eG234, zg_up_ne (zg_fr n111 k230)]; exact k230
  have ne111_q85 : q85 ≠ q111 := zg_fr n111 k231
  have k246 : G234 q85 = some (.inl (E.2.1 5, 64, .inr (.inr (.inr (.inr (fun _ => none)))))) := by rw [eG234, zg_up_ne (zg_fr n111 k231)]; exact k231
  have ne111_q95 : q95 ≠ q111 := zg_fr n111 k232
  have k247 : G234 q95 = some (.inl (E.2.1 0, 512, .inl (fun _ => 0))) := by rw [eG234, zg_up_ne (zg_fr n111 k232)]; exact k232
  have ne111_q104 : q104 ≠ q111 := zg_fr n111 k233
  have k248 : G234 q104 = some (.inl (E.2.1 0, 4096, .inl (fun _ => 0))) := by rw [eG234, zg_up_ne (zg_fr n111 k233)]; exact k233
  have k249 : G234 q111 = some (.inl (E.2.1 0, 22, .inl (fun _ => 0))) := by rw [eG234]; exact zg_up_self _ _ _
  refine lv_astore_n (lv' := [(1, .ref q111), (0, .ref a)]) hx hb d_Mo_init_113 rfl hl (by decide) rfl (fun ls hl => ?_)
  refine lv_aload_n hx hb d_Mo_init_114 rfl (lv_at hl 0 rfl) ?_
  refine lv_iconst (v := 5) hx hb d_Mo_init_115 (by decide) ?_
  refine zi_as (y := nI 5) (by decide) ?_
  refine lv_iconst (v := 1) hx hb d_Mo_init_116 (by decide) ?_
  refine zg_bast hx hb hK hG hS 0 k249 rfl (vp_in_nI (by omega) (by omega)) d_Mo_init_117 (fun H locs hG hS => ?_)
  rw [zi_n 5 (by omega)] at hG
  obtain ⟨G250, eG250⟩ : ∃ z : zg_G, z = zg_up G234 q111 (.inl (E.2.1 0, 22, .inl (upd (fun _ => 0) 5 (vp_nar .byte 1)))) := ⟨_, rfl⟩
  have hG : zP E G250 H := by rw [eG250]; exact hG
  have hx251 : zx (fun q => q = a) G G250 := by rw [eG250]; exact hx235.upn nf111
  have k252 : G250 a = some (.inr (11, [.int 0, .ref q7, .int 0, .ref q14, .ref q27, .int 0, .ref q36, .ref q44, .ref q52, .ref q60, .ref q68, .ref q76, .ref q85, .int 0, .int 0, .ref q95, .int 0, .int 0, .ref q104, .null, .null])) := by rw [eG250, zg_up_ne (ne111_a)]; exact k236
  have k253 : G250 q7 = some (.inl (E.2.1 0, 65536, .inl (fun _ => 0))) := by rw [eG250, zg_up_ne (ne111_q7)]; exact k237
  have k254 : G250 q14 = some (.inl (E.2.1 0, 1, .inl (upd (fun _ => 0) 0 (vp_nar .byte 0)))) := by rw [eG250, zg_up_ne (ne111_q14)]; exact k238
  have k255 : G250 q27 = some (.inl (E.2.1 4, 2000, .inr (.inr (.inr (.inr (fun _ => none)))))) := by rw [eG250, zg_up_ne (ne111_q27)]; exact k239
  have k256 : G250 q36 = some (.inl (E.2.1 1, 64, .inl (fun _ => 0))) := by rw [eG250, zg_up_ne (ne111_q36)]; exact k240
  have k257 : G250 q44 = some (.inl (E.2.1 1, 64, .inl (fun _ => 0))) := by rw [eG250, zg_up_ne (ne111_q44)]; exact k241
  have k258 : G250 q52 = some (.inl (E.2.1 1, 64, .inl (fun _ => 0))) := by rw [eG250, zg_up_ne (ne111_q52)]; exact k242
  have k259 : G250 q60 = some (.inl (E.2.1 1, 64, .inl (fun _ => 0))) := by rw [eG250, zg_up_ne (ne111_q60)]; exact k243
  have k260 : G250 q68 = some (.inl (E.2.1 1, 64, .inl (fun _ => 0))) := by rw [eG250, zg_up_ne (ne111_q68)]; exact k244
  have k261 : G250 q76 = some (.inl (E.2.1 5, 64, .inr (.inr (.inr (.inr (fun _ => none)))))) := by rw [eG250, zg_up_ne (ne111_q76)]; exact k245
  have k262 : G250 q85 = some (.inl (E.2.1 5, 64, .inr (.inr (.inr (.inr (fun _ => none)))))) := by rw [eG250, zg_up_ne (ne111_q85)]; exact k246
  have k263 : G250 q95 = some (.inl (E.2.1 0, 512, .inl (fun _ => 0))) := by rw [eG250, zg_up_ne (ne111_q95)]; exact k247
  have k264 : G250 q104 = some (.inl (E.2.1 0, 4096, .inl (fun _ => 0))) := by rw [eG250, zg_up_ne (ne111_q104)]; exact k248
  have k265 : G250 q111 = some (.inl (E.2.1 0, 22, .inl (upd (fun _ => 0) 5 (vp_nar .byte 1)))) := by rw [eG250]; exact zg_up_self _ _ _
  refine lv_aload_n hx hb d_Mo_init_118 rfl (lv_at hl 1 rfl) ?_
  refine lv_iconst (v := 1) hx hb d_Mo_init_119 (by decide) ?_
  refine zg_newp (atype := .byte) (ty := .byte) (N' := 1) (a0 := (1, .inl (fun _ => 0))) hx hb (hts _ w_58) rfl hK hG hS hbase (fun _ => rfl) (by decide) (by decide) (by show _ * _ ≤ _; simp only [componentBytes]; omega) (by decide) (by decide) d_Mo_init_120 0 rfl (fun _ h => h) (fun q120 H n120 hG hS => ?_)
  obtain ⟨G266, eG266⟩ : ∃ z : zg_G, z = zg_up G250 q120 (.inl (E.2.1 0, 1, .inl (fun _ => 0))) := ⟨_, rfl⟩
  have hG : zP E G266 H := by rw [eG266]; exact hG
  have nf120 : G q120 = none := zx.fr hx251 n120 (fun h => by (rw [h] at n120; first | (rw [n120] at k252; cases k252)))
  have hx267 : zx (fun q => q = a) G G266 := hx251.tr (by rw [eG266]; exact zx.nw n120)
  have ne120_a : a ≠ q120 := zg_fr n120 k252
  have k268 : G266 a = some (.inr (11, [.int 0, .ref q7, .int 0, .ref q14, .ref q27, .int 0, .ref q36, .ref q44, .ref q52, .ref q60, .ref q68, .ref q76, .ref q85, .int 0, .int 0, .ref q95, .int 0, .int 0, .ref q104, .null, .null])) := by rw [eG266, zg_up_ne (zg_fr n120 k252)]; exact k252
  have ne120_q7 : q7 ≠ q120 := zg_fr n120 k253
  have k269 : G266 q7 = some (.inl (E.2.1 0, 65536, .inl (fun _ => 0))) := by rw [eG266, zg_up_ne (zg_fr n120 k253)]; exact k253
  have ne120_q14 : q14 ≠ q120 := zg_fr n120 k254
  have k270 : G266 q14 = some (.inl (E.2.1 0, 1, .inl (upd (fun _ => 0) 0 (vp_nar .byte 0)))) := by rw [eG266, zg_up_ne (zg_fr n120 k254)]; exact k254
  have ne120_q27 : q27 ≠ q120 := zg_fr n120 k255
  have k271 : G266 q27 = some (.inl (E.2.1 4, 2000, .inr (.inr (.inr (.inr (fun _ => none)))))) := by rw [eG266, zg_up_ne (zg_fr n120 k255)]; exact k255
  have ne120_q36 : q36 ≠ q120 := zg_fr n120 k256
  have k272 : G266 q36 = some (.inl (E.2.1 1, 64, .inl (fun _ => 0))) := by rw [eG266, zg_up_ne (zg_fr n120 k256)]; exact k256
  have ne120_q44 : q44 ≠ q120 := zg_fr n120 k257
  have k273 : G266 q44 = some (.inl (E.2.1 1, 64, .inl (fun _ => 0))) := by rw [eG266, zg_up_ne (zg_fr n120 k257)]; exact k257
  have ne120_q52 : q52 ≠ q120 := zg_fr n120 k258
  have k274 : G266 q52 = some (.inl (E.2.1 1, 64, .inl (fun _ => 0))) := by rw [eG266, zg_up_ne (zg_fr n120 k258)]; exact k258
  have ne120_q60 : q60 ≠ q120 := zg_fr n120 k259
  have k275 : G266 q60 = some (.inl (E.2.1 1, 64, .inl (fun _ => 0))) := by rw [eG266, zg_up_ne (zg_fr n120 k259)]; exact k259
  have ne120_q68 : q68 ≠ q120 := zg_fr n120 k260
  have k276 : G266 q68 = some (.inl (E.2.1 1, 64, .inl (fun _ => 0))) := by rw [eG266, zg_up_ne (zg_fr n120 k260)]; exact k260
  have ne120_q76 : q76 ≠ q120 := zg_fr n120 k261
  have k277 : G266 q76 = some (.inl (E.2.1 5, 64, .inr (.inr (.inr (.inr (fun _ => none)))))) := by rw [eG266, zg_up_ne (zg_fr n120 k261)]; exact k261
  have ne120_q85 : q85 ≠ q120 := zg_fr n120 k262
  have k278 : G266 q85 = some (.inl (E.2.1 5, 64, .inr (.inr (.inr (.inr (fun _ => none)))))) := by rw [eG266, zg_up_ne (zg_fr n120 k262)]; exact k262
  have ne120_q95 : q95 ≠ q120 := zg_fr n120 k263
  have k279 : G266 q95 = some (.inl (E.2.1 0, 512, .inl (fun _ => 0))) := by rw [eG266, zg_up_ne (zg_fr n120 k263)]; exact k263
  have ne120_q104 : q104 ≠ q120 := zg_fr n120 k264
  have k280 : G266 q104 = some (.inl (E.2.1 0, 4096, .inl (fun _ => 0))) := by rw [eG266, zg_up_ne (zg_fr n120 k264)]; exact k264
  have ne120_q111 : q111 ≠ q120 := zg_fr n120 k265
  have k281 : G266 q111 = some (.inl (E.2.1 0, 22, .inl (upd (fun _ => 0) 5 (vp_nar .byte 1)))) := by rw [eG266, zg_up_ne (zg_fr n120 k265)]; exact k265
  have k282 : G266 q120 = some (.inl (E.2.1 0, 1, .inl (fun _ => 0))) := by rw [eG266]; exact zg_up_self _ _ _
  refine lv_aload_n hx hb d_Mo_init_122 rfl (lv_at hl 0 rfl) ?_
  refine lv_iconst (v := 0) hx hb d_Mo_init_123 (by decide) ?_
  have hGo124 := hG
  refine zk_v (va_runV (As := [.ref q120, .ref q111, .int 0]) (rest := []) ⟨hx, hb, hml, hown, hts⟩ (t_Mo_begin l E G266 a q7 q14 q27 q36 q44 q52 q60 q68 q76 q85 q95 q104 0 0 0 0 0 0 0 .null .null k268 (fun _ => none) k271 q120 q111 0) (zcV 3 hts w_1256 w_1258 wp_25 w_30 w_1259 (by decide +kernel) ⟨Nat.le_of_ble_eq_true rfl, Nat.le_of_ble_eq_true rfl⟩) (zc_preV hbase hK hN hQ hG hS k268 rfl) rfl rfl hl.1 rfl (lv_room (Nat.le_of_ble_eq_true rfl)) d_Mo_init_124 ⟨(by decide), (by decide)⟩) hS (fun G124 H locs hp124 hG hS => ?_)
  obtain ⟨rq, nrq, hx124, hya, hy4, hyq⟩ := hp124
  have nf_rq : G rq = none := zx.fr hx267 nrq (fun h => by (have n9 := nrq; rw [h] at n9; first | (rw [k268] at n9; cases n9)))
  have ne_rq_a : a ≠ rq := zg_fr nrq k268
  have ne_rq_q7 : q7 ≠ rq := zg_fr nrq k269
  have ne_rq_q14 : q14 ≠ rq := zg_fr nrq k270
  have ne_rq_q27 : q27 ≠ rq := zg_fr nrq k271
  have ne_rq_q36 : q36 ≠ rq := zg_fr nrq k272
  have ne_rq_q44 : q44 ≠ rq := zg_fr nrq k273
  have ne_rq_q52 : q52 ≠ rq := zg_fr nrq k274
  have ne_rq_q60 : q60 ≠ rq := zg_fr nrq k275
  have ne_rq_q68 : q68 ≠ rq := zg_fr nrq k276
  have ne_rq_q76 : q76 ≠ rq := zg_fr nrq k277
  have ne_rq_q85 : q85 ≠ rq := zg_fr nrq k278
  have ne_rq_q95 : q95 ≠ rq := zg_fr nrq k279
  have ne_rq_q104 : q104 ≠ rq := zg_fr nrq k280
  have ne_rq_q111 : q111 ≠ rq := zg_fr nrq k281
  have ne_rq_q120 : q120 ≠ rq := zg_fr nrq k282
  have k283 : G124 q7 = some (.inl (E.2.1 0, 65536, .inl (fun _ => 0))) := hx124 q7 _ (fun z => z.elim (Ne.symm ne7_a) (ne27_q7)) k269
  have k284 : G124 q14 = some (.inl (E.2.1 0, 1, .inl (upd (fun _ => 0) 0 (vp_nar .byte 0)))) := hx124 q14 _ (fun z => z.elim (Ne.symm ne14_a) (ne27_q14)) k270
  have k285 : G124 q36 = some (.inl (E.2.1 1, 64, .inl (fun _ => 0))) := hx124 q36 _ (fun z => z.elim (Ne.symm ne36_a) (Ne.symm ne36_q27)) k272
  have k286 : G124 q44 = some (.inl (E.2.1 1, 64, .inl (fun _ => 0))) := hx124 q44 _ (fun z => z.elim (Ne.symm ne44_a) (Ne.symm ne44_q27)) k273
  have k287 : G124 q52 = some (.inl (E.2.1 1, 64, .inl (fun _ => 0))) := hx124 q52 _ (fun z => z.elim (Ne.symm ne52_a) (Ne.symm ne52_q27)) k274
  have k288 : G124 q60 = some (.inl (E.2.1 1, 64, .inl (fun _ => 0))) := hx124 q60 _ (fun z => z.elim (Ne.symm ne60_a) (Ne.symm ne60_q27)) k275
  have k289 : G124 q68 = some (.inl (E.2.1 1, 64, .inl (fun _ => 0))) := hx124 q68 _ (fun z => z.elim (Ne.symm ne68_a) (Ne.symm ne68_q27)) k276
  have k290 : G124 q76 = some (.inl (E.2.1 5, 64, .inr (.inr (.inr (.inr (fun _ => none)))))) := hx124 q76 _ (fun z => z.elim (Ne.symm ne76_a) (Ne.symm ne76_q27)) k277
  have k291 : G124 q85 = some (.inl (E.2.1 5, 64, .inr (.inr (.inr (.inr (fun _ => none)))))) := hx124 q85 _ (fun z => z.elim (Ne.symm ne85_a) (Ne.symm ne85_q27)) k278
  have k292 : G124 q95 = some (.inl (E.2.1 0, 512, .inl (fun _ => 0))) := hx124 q95 _ (fun z => z.elim (Ne.symm ne95_a) (Ne.symm ne95_q27)) k279
  have k293 : G124 q104 = some (.inl (E.2.1 0, 4096, .inl (fun _ => 0))) := hx124 q104 _ (fun z => z.elim (Ne.symm ne104_a) (Ne.symm ne104_q27)) k280
  have k294 : G124 q111 = some (.inl (E.2.1 0, 22, .inl (upd (fun _ => 0) 5 (vp_nar .byte 1)))) := hx124 q111 _ (fun z => z.elim (Ne.symm ne111_a) (Ne.symm ne111_q27)) k281
  have k295 : G124 q120 = some (.inl (E.2.1 0, 1, .inl (fun _ => 0))) := hx124 q120 _ (fun z => z.elim (Ne.symm ne120_a) (Ne.symm ne120_q27)) k282
  have hx296 : zx (fun q => q = a) G G124 := fun q x hs hq => hx124 q x (fun z => z.elim (fun z => absurd (show (fun q => q = a) q from by subst z; exact rfl) hs) (fun z => by rw [z, nf27] at hq; cases hq)) (hx267 q x hs hq)
  have hnd9 : [q7, q120, q27, q36, q44, q52, q60, q68, q76, q85, q95, q104, rq, q111].Nodup := (List.nodup_cons.mpr ⟨(nm_c ne120_q7 (nm_c ne27_q7 (nm_c ne36_q7 (nm_c ne44_q7 (nm_c ne52_q7 (nm_c ne60_q7 (nm_c ne68_q7 (nm_c ne76_q7 (nm_c ne85_q7 (nm_c ne95_q7 (nm_c ne104_q7 (nm_c ne_rq_q7 (nm_c ne111_q7 List.not_mem_nil))))))))))))), (List.nodup_cons.mpr ⟨(nm_c (Ne.symm ne120_q27) (nm_c (Ne.symm ne120_q36) (nm_c (Ne.symm ne120_q44) (nm_c (Ne.symm ne120_q52) (nm_c (Ne.symm ne120_q60) (nm_c (Ne.symm ne120_q68) (nm_c (Ne.symm ne120_q76) (nm_c (Ne.symm ne120_q85) (nm_c (Ne.symm ne120_q95) (nm_c (Ne.symm ne120_q104) (nm_c ne_rq_q120 (nm_c (Ne.symm ne120_q111) List.not_mem_nil)))))))))))), (List.nodup_cons.mpr ⟨(nm_c ne36_q27 (nm_c ne44_q27 (nm_c ne52_q27 (nm_c ne60_q27 (nm_c ne68_q27 (nm_c ne76_q27 (nm_c ne85_q27 (nm_c ne95_q27 (nm_c ne104_q27 (nm_c ne_rq_q27 (nm_c ne111_q27 List.not_mem_nil))))))))))), (List.nodup_cons.mpr ⟨(nm_c ne44_q36 (nm_c ne52_q36 (nm_c ne60_q36 (nm_c ne68_q36 (nm_c ne76_q36 (nm_c ne85_q36 (nm_c ne95_q36 (nm_c ne104_q36 (nm_c ne_rq_q36 (nm_c ne111_q36 List.not_mem_nil)))))))))), (List.nodup_cons.mpr ⟨(nm_c ne52_q44 (nm_c ne60_q44 (nm_c ne68_q44 (nm_c ne76_q44 (nm_c ne85_q44 (nm_c ne95_q44 (nm_c ne104_q44 (nm_c ne_rq_q44 (nm_c ne111_q44 List.not_mem_nil))))))))), (List.nodup_cons.mpr ⟨(nm_c ne60_q52 (nm_c ne68_q52 (nm_c ne76_q52 (nm_c ne85_q52 (nm_c ne95_q52 (nm_c ne104_q52 (nm_c ne_rq_q52 (nm_c ne111_q52 List.not_mem_nil)))))))), (List.nodup_cons.mpr ⟨(nm_c ne68_q60 (nm_c ne76_q60 (nm_c ne85_q60 (nm_c ne95_q60 (nm_c ne104_q60 (nm_c ne_rq_q60 (nm_c ne111_q60 List.not_mem_nil))))))), (List.nodup_cons.mpr ⟨(nm_c ne76_q68 (nm_c ne85_q68 (nm_c ne95_q68 (nm_c ne104_q68 (nm_c ne_rq_q68 (nm_c ne111_q68 List.not_mem_nil)))))), (List.nodup_cons.mpr ⟨(nm_c ne85_q76 (nm_c ne95_q76 (nm_c ne104_q76 (nm_c ne_rq_q76 (nm_c ne111_q76 List.not_mem_nil))))), (List.nodup_cons.mpr ⟨(nm_c ne95_q85 (nm_c ne104_q85 (nm_c ne_rq_q85 (nm_c ne111_q85 List.not_mem_nil)))), (List.nodup_cons.mpr ⟨(nm_c ne104_q95 (nm_c ne_rq_q95 (nm_c ne111_q95 List.not_mem_nil))), (List.nodup_cons.mpr ⟨(nm_c ne_rq_q104 (nm_c ne111_q104 List.not_mem_nil)), (List.nodup_cons.mpr ⟨(nm_c (Ne.symm ne_rq_q111) List.not_mem_nil), (List.nodup_cons.mpr ⟨List.not_mem_nil, List.nodup_nil⟩)⟩)⟩)⟩)⟩)⟩)⟩)⟩)⟩)⟩)⟩)⟩)⟩)⟩)
  have hal9 : ∀ q ∈ [q7, q120, q27, q36, q44, q52, q60, q68, q76, q85, q95, q104, rq, q111], a ≠ q ∧ G q = none := (al_c ⟨ne7_a, n7⟩ (al_c ⟨ne120_a, nf120⟩ (al_c ⟨ne27_a, nf27⟩ (al_c ⟨ne36_a, nf36⟩ (al_c ⟨ne44_a, nf44⟩ (al_c ⟨ne52_a, nf52⟩ (al_c ⟨ne60_a, nf60⟩ (al_c ⟨ne68_a, nf68⟩ (al_c ⟨ne76_a, nf76⟩ (al_c ⟨ne85_a, nf85⟩ (al_c ⟨ne95_a, nf95⟩ (al_c ⟨ne104_a, nf104⟩ (al_c ⟨ne_rq_a, nf_rq⟩ (al_c ⟨ne111_a, nf111⟩ (fun q hq => absurd hq List.not_mem_nil)))))))))))))))
  obtain ⟨hO9, hZ9⟩ := rO_new hra hnd9 hal9 hx296 (by rw [nI_0]; exact hya) k283 k295 hy4 hyq k294 k285 k286 k287 k288 k289 k290 k291 k292 k293
  exact hret _ _ _ _ _ _ _ (⟨_, _, rVf_1 _ _ _ _ _ _ _, rfl, rfl, hO9, hZ9⟩) hG hS (by decide) (by decide) d_Mo_init_127
