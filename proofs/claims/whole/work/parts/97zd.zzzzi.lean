theorem zb_or {a b : Int32} {P Q : Prop} (h : zb a P) (h2 : zb b Q) : zb (a ||| b) (P ∨ Q) := by
  rcases h with ⟨rfl, p⟩ | ⟨rfl, p⟩ <;> rcases h2 with ⟨rfl, q⟩ | ⟨rfl, q⟩
  · exact Or.inl ⟨by decide, Or.inl p⟩
  · exact Or.inl ⟨by decide, Or.inl p⟩
  · exact Or.inl ⟨by decide, Or.inr q⟩
  · exact Or.inr ⟨by decide, fun z => z.elim p q⟩
theorem ex_s {P : Nat → Prop} {j : Nat} : ((∃ q, q < j ∧ P q) ∨ P j) ↔ ∃ q, q < j + 1 ∧ P q := by
  constructor
  · rintro (⟨q, h1, h2⟩ | h)
    · exact ⟨q, by omega, h2⟩
    · exact ⟨j, by omega, h⟩
  · rintro ⟨q, h1, h2⟩
    rcases Nat.lt_or_ge q j with w | w
    · exact Or.inl ⟨q, w, h2⟩
    · rw [show q = j by omega] at h2; exact Or.inr h2
theorem cs_n {α : Type} {P P2 : α → Prop} {n : Nat} (h : isCnt P n) (he : ∀ x, P2 x ↔ P x) : isCnt P2 n := by
  obtain ⟨L, h1, h2, h3⟩ := h
  exact ⟨L, h1, fun x => (h2 x).trans (he x).symm, h3⟩
theorem cs_l {α : Type} {P P2 : α → Prop} {n : Nat} (h : isCnt P n) (M : List α) (hM : M.Nodup) (hn : ∀ x ∈ M, ¬ P x) (he : ∀ x, P2 x ↔ P x ∨ x ∈ M) : isCnt P2 (n + M.length) := by
  obtain ⟨L, h1, h2, h3⟩ := h
  refine ⟨L ++ M, List.nodup_append.mpr ⟨h1, hM, fun x hx y hy e => hn y hy ((h2 y).mp (e ▸ hx))⟩, fun x => ?_, by rw [List.length_append, h3]⟩
  rw [List.mem_append, h2, he]
theorem cs_y {α : Type} {P P2 : α → Prop} {n : Nat} {a : α} (h : isCnt P n) (hn : ¬ P a) (he : ∀ x, P2 x ↔ P x ∨ x = a) : isCnt P2 (n + 1) :=
  cs_l h [a] (List.nodup_cons.mpr ⟨List.not_mem_nil, List.nodup_nil⟩) (fun x hx => by rw [List.mem_singleton.mp hx]; exact hn) (fun x => by rw [he, List.mem_singleton])
theorem cs_0 {α : Type} {P : α → Prop} (h : ∀ x, ¬ P x) : isCnt P 0 := ⟨[], List.nodup_nil, fun x => ⟨fun z => absurd z List.not_mem_nil, fun z => absurd z (h x)⟩, rfl⟩
theorem rc2_y {rs : List zRt} {i n : Nat} (h : isCnt (fun p : np_N × Int32 => ∃ q, q < i ∧ rM (re rs q) = p.1 ∧ rT (re rs q) = p.2) n) (hn : ¬ ∃ q, q < i ∧ rM (re rs i) = rM (re rs q) ∧ rT (re rs i) = rT (re rs q)) : isCnt (fun p : np_N × Int32 => ∃ q, q < (i + 1) ∧ rM (re rs q) = p.1 ∧ rT (re rs q) = p.2) (n + 1) :=
  cs_y (a := (rM (re rs i), rT (re rs i))) h (fun ⟨q, h1, h2, h3⟩ => hn ⟨q, h1, h2.symm, h3.symm⟩) (fun x => by
    rw [← ex_s]
    exact or_congr Iff.rfl ⟨fun ⟨z1, z2⟩ => Prod.ext z1.symm z2.symm, fun z => by rw [z]; exact ⟨rfl, rfl⟩⟩)
theorem rc2_n {rs : List zRt} {i n : Nat} (h : isCnt (fun p : np_N × Int32 => ∃ q, q < i ∧ rM (re rs q) = p.1 ∧ rT (re rs q) = p.2) n) (hn : ∃ q, q < i ∧ rM (re rs i) = rM (re rs q) ∧ rT (re rs i) = rT (re rs q)) : isCnt (fun p : np_N × Int32 => ∃ q, q < (i + 1) ∧ rM (re rs q) = p.1 ∧ rT (re rs q) = p.2) n := cs_n h (fun x => by
    rw [← ex_s]
    refine ⟨fun z => z.elim id (fun z => ?_), Or.inl⟩
    obtain ⟨q, h1, h2, h3⟩ := hn
    exact ⟨q, h1, h2.symm.trans z.1, h3.symm.trans z.2⟩)
theorem rc3_y {rs : List zRt} {i n : Nat} (h : isCnt (fun x : np_N => ∃ q, q < i ∧ rM (re rs q) = x) n) (hn : ¬ ∃ q, q < i ∧ rM (re rs i) = rM (re rs q)) : isCnt (fun x : np_N => ∃ q, q < (i + 1) ∧ rM (re rs q) = x) (n + 1) :=
  cs_y (a := rM (re rs i)) h (fun ⟨q, h1, h2⟩ => hn ⟨q, h1, h2.symm⟩) (fun x => by
    rw [← ex_s]
    exact or_congr Iff.rfl ⟨fun z => z.symm, fun z => z.symm⟩)
theorem rc3_n {rs : List zRt} {i n : Nat} (h : isCnt (fun x : np_N => ∃ q, q < i ∧ rM (re rs q) = x) n) (hn : ∃ q, q < i ∧ rM (re rs i) = rM (re rs q)) : isCnt (fun x : np_N => ∃ q, q < (i + 1) ∧ rM (re rs q) = x) n := cs_n h (fun x => by
    rw [← ex_s]
    refine ⟨fun z => z.elim id (fun z => ?_), Or.inl⟩
    obtain ⟨q, h1, h2⟩ := hn
    exact ⟨q, h1, h2.symm.trans z⟩)
theorem rcP_y {rs : List zRt} {i n : Nat} {R : np_N → Prop} (h : isCnt (fun x : np_N => (∃ q, q < i ∧ rM (re rs q) = x) ∧ R x) n) (hn : ¬ ∃ q, q < i ∧ rM (re rs i) = rM (re rs q)) (hR : R (rM (re rs i))) : isCnt (fun x : np_N => (∃ q, q < i + 1 ∧ rM (re rs q) = x) ∧ R x) (n + 1) :=
  cs_y (a := rM (re rs i)) h (fun ⟨⟨q, h1, h2⟩, _⟩ => hn ⟨q, h1, h2.symm⟩) (fun x => by
    rw [← ex_s]
    constructor
    · rintro ⟨z | z, w⟩
      · exact Or.inl ⟨z, w⟩
      · exact Or.inr z.symm
    · rintro (⟨z, w⟩ | z)
      · exact ⟨Or.inl z, w⟩
      · rw [z]; exact ⟨Or.inr rfl, hR⟩)
theorem rcP_n {rs : List zRt} {i n : Nat} {R : np_N → Prop} (h : isCnt (fun x : np_N => (∃ q, q < i ∧ rM (re rs q) = x) ∧ R x) n) (hR : ¬ R (rM (re rs i)) ∨ ∃ q, q < i ∧ rM (re rs i) = rM (re rs q)) : isCnt (fun x : np_N => (∃ q, q < i + 1 ∧ rM (re rs q) = x) ∧ R x) n := cs_n h (fun x => by
    rw [← ex_s]
    constructor
    · rintro ⟨z | z, w⟩
      · exact ⟨z, w⟩
      · rcases hR with hR | ⟨q, h1, h2⟩
        · rw [z] at hR; exact absurd w hR
        · exact ⟨⟨q, h1, h2.symm.trans z⟩, w⟩
    · rintro ⟨z, w⟩; exact ⟨Or.inl z, w⟩)
theorem rc4_n {rs : List zRt} {lo : np_N} {i n : Nat} (h : isCnt (fun x : np_N => lo <:+ x ∧ ∃ q, q < i ∧ x <:+ rM (re rs q)) n) (hn : ∃ q, q < i ∧ rM (re rs i) = rM (re rs q)) : isCnt (fun x : np_N => lo <:+ x ∧ ∃ q, q < (i + 1) ∧ x <:+ rM (re rs q)) n := cs_n h (fun x => by
    rw [← ex_s]
    refine ⟨fun ⟨w, z⟩ => ⟨w, z.elim id (fun z => ?_)⟩, fun ⟨w, z⟩ => ⟨w, Or.inl z⟩⟩
    obtain ⟨q, h1, h2⟩ := hn
    exact ⟨q, h1, by rw [← h2]; exact z⟩)
theorem rc4_y {rs : List zRt} {lo : np_N} {i n : Nat} {k : Nat} (h : isCnt (fun x : np_N => lo <:+ x ∧ ∃ q, q < i ∧ x <:+ rM (re rs q)) n) (hf : rFs rs lo i k) : isCnt (fun x : np_N => lo <:+ x ∧ ∃ q, q < (i + 1) ∧ x <:+ rM (re rs q)) (n + k) := by
  obtain ⟨f1, f2, f3⟩ := hf
  have hl : ((List.range k).map (fun m => (rM (re rs i)).drop m)).length = k := by rw [List.length_map, List.length_range]
  have q := cs_l (P2 := (fun x : np_N => lo <:+ x ∧ ∃ q, q < (i + 1) ∧ x <:+ rM (re rs q))) h ((List.range k).map (fun m => (rM (re rs i)).drop m)) ?_ ?_ ?_
  · rw [hl] at q; exact q
  · refine List.pairwise_iff_getElem.mpr (fun a b ha hb hab e => ?_)
    rw [hl] at ha hb
    rw [List.getElem_map, List.getElem_map, List.getElem_range, List.getElem_range] at e
    have := congrArg List.length e
    rw [List.length_drop, List.length_drop] at this
    omega
  · intro x hx
    obtain ⟨m, hm, rfl⟩ := List.mem_map.mp hx
    exact fun z => (f2 m (List.mem_range.mp hm)).2 z.2
  · intro x
    rw [← ex_s]
    constructor
    · rintro ⟨w, z | z⟩
      · exact Or.inl ⟨w, z⟩
      · have e := suf_drop z
        by_cases c : (rM (re rs i)).length - x.length < k
        · exact Or.inr (List.mem_map.mpr ⟨_, List.mem_range.mpr c, e.symm⟩)
        · have w2 := w
          rw [e] at w2
          have q := f3 _ (by omega) (by omega) w2
          rw [← e] at q
          exact Or.inl ⟨w, q⟩
    · rintro (⟨w, z⟩ | z)
      · exact ⟨w, Or.inl z⟩
      · obtain ⟨m, hm, rfl⟩ := List.mem_map.mp z
        exact ⟨(f2 m (List.mem_range.mp hm)).1, Or.inr (List.drop_suffix _ _)⟩
theorem rix {rs : List zRt} {P : zRt → Prop} : (∃ q, q < rs.length ∧ P (re rs q)) ↔ ∃ e ∈ rs, P e := ⟨fun ⟨q, h1, h2⟩ => ⟨_, re_mem h1, h2⟩, fun ⟨e, h1, h2⟩ => by
  obtain ⟨j, hj, rfl⟩ := re_ix h1
  exact ⟨j, hj, h2⟩⟩
theorem rce2 {rs : List zRt} {n : Nat} (h : isCnt (fun p : np_N × Int32 => ∃ q, q < rs.length ∧ rM (re rs q) = p.1 ∧ rT (re rs q) = p.2) n) : isCnt (fun p : np_N × Int32 => rVf rs p.1 p.2 ≠ []) n := cs_n h (fun x => (rVf_ne.trans ⟨fun ⟨e, h1, h2, h3⟩ => ⟨e, h1, h3, h2⟩, fun ⟨e, h1, h2, h3⟩ => ⟨e, h1, h3, h2⟩⟩).trans (rix (P := fun e => rM e = x.1 ∧ rT e = x.2)).symm)
theorem rce3 {rs : List zRt} {n : Nat} (h : isCnt (fun x : np_N => ∃ q, q < rs.length ∧ rM (re rs q) = x) n) : isCnt (vD (rVf rs)) n := cs_n h (fun x => by
  rw [rVf_D, rix (P := fun e => rM e = x)])
theorem rce4 {rs : List zRt} {lo : np_N} {n : Nat} (h : isCnt (fun x : np_N => lo <:+ x ∧ ∃ q, q < rs.length ∧ x <:+ rM (re rs q)) n) : isCnt (fun x => lo <:+ x ∧ vth (rVf rs) x) n := cs_n h (fun x => by
  rw [rVf_th, rix (P := fun e => x <:+ rM e)])
theorem rce5 {rs : List zRt} {lo : np_N} {n : Nat} (h : isCnt (fun x : np_N => (∃ q, q < rs.length ∧ rM (re rs q) = x) ∧ ¬ vaw (rVf rs) lo x) n) : isCnt (vch (rVf rs) lo) n := cs_n h (fun x => by
  unfold vch
  rw [rVf_D, rix (P := fun e => rM e = x)])
theorem rce6 {rs : List zRt} {lo : np_N} {n : Nat} (h : isCnt (fun x : np_N => (∃ q, q < rs.length ∧ rM (re rs q) = x) ∧ zcut lo rs x) n) : isCnt (fun x => x ≠ lo ∧ rVf rs x 2 ≠ []) n := cs_n h (fun x => by
  rw [zcut_V, rix (P := fun e => rM e = x)]
  exact ⟨fun z => ⟨rVf_D.mp ⟨2, z.2⟩, z⟩, fun z => z.2⟩)

abbrev rm_Mo_count : Room := { frames := 7, cells := 0, slots := 0, locals := 200 }
set_option maxHeartbeats 4000000 in
set_option maxRecDepth 100000 in
/-- count(w), of the reference -/
theorem t_Mo_count (l : Launch) (E : zc_E) (G : zg_G) (a c1 c2 : Nat) (ro : zRo) (lo : np_N) (rs : List zRt) (Wz : zW) (th co se : Int32) (hse : se = 0 ∨ se = 1) (tp : List Int32) (v19 v20 : Value) (hst : rSt E G ro a c1 c2 lo rs Wz [] False (0, 0, [], []) th tp co se v19 v20) (w : Int32) : zMi l E y_Mo_count c_Mo_count 8 (some .int) rm_Mo_count [.ref a, .int w] G (fun (r : Int32) (G2 : zg_G) => ((w = 0 ∧ r = nI tp.length) ∨ (w = 1 ∧ r = nI rs.length) ∨ (w = 2 ∧ ∃ n, isCnt (fun p : np_N × Int32 => rVf rs p.1 p.2 ≠ []) n ∧ r = nI n) ∨ (w = 3 ∧ ∃ n, isCnt (vD (rVf rs)) n ∧ r = nI n) ∨ (w = 4 ∧ ∃ n, isCnt (fun x => lo <:+ x ∧ vth (rVf rs) x) n ∧ r = nI n) ∨ (w = 5 ∧ ∃ n, isCnt (vch (rVf rs) lo) n ∧ r = nI n) ∨ (w = 6 ∧ ∃ n, isCnt (fun x => x ≠ lo ∧ rVf rs x 2 ≠ []) n ∧ r = nI n) ∨ (w = 7 ∧ r = vse (rVf rs) lo) ∨ (¬ w = 0 ∧ ¬ w = 1 ∧ ¬ w = 2 ∧ ¬ w = 3 ∧ ¬ w = 4 ∧ ¬ w = 5 ∧ ¬ w = 6 ∧ ¬ w = 7 ∧ r = -1)) ∧ rO E G2 ro a c1 c2 lo rs Wz tp 0 ∧ zfr ro zKr G ro G2) := by
  refine zMi.of (by decide) (Nat.le_of_ble_eq_true rfl) ?_
  intro p e s m args below meth c Q hZ hG hret ls hl
  obtain ⟨hx, hb, hr, hts, hown, hlocks, hml, hnm, hbase, hK, hN, hQ⟩ := hZ
  have hl : lv_has ls 8 [(0, .ref a), (1, .int w)] := hl
  have hS : zg_S (zc_b E) s.heap s.heap [] := va_S.rf
  obtain ⟨h, eh0, eh1, eh2, hc⟩ := id hst
  obtain ⟨ra, rb, ⟨fm, rt1, rt2, rt3, rt4⟩, rtl, ⟨fo, rn1, rn2, rn3, rn4, rn5⟩, rr, rg, ras⟩ := id hc
  rw [eh0] at ra
  obtain ⟨⟨fr, rm4, hfr⟩, hn2, hRs⟩ := id rr.1
  rcases zw8 w with h9 | h9 | h9 | h9 | h9 | h9 | h9 | h9 | h9
  · refine lv_aload_n hx hb d_Mo_count_0 rfl (lv_at hl 0 rfl) ?_
    refine lv_iconst (v := 0) hx hb d_Mo_count_1 (by decide) ?_
    refine zg_put (ci := 11) (v := .int 0) (ty := .int) (C := "ZoneAnswersModel") (T := T_Mo) (N := 21) hx hb hts zi_Mo t_Mo t_Mo_ok n_Mo hown hK hG hS ra rfl 0 (by decide) (hts _ w_1281) (fun _ h9 => h9) rfl (by decide +kernel) rfl rfl (Nat.le_of_ble_eq_true rfl) d_Mo_count_2 (fun H locs hG hS => ?_)
    obtain ⟨G1, eG1⟩ : ∃ z : zg_G, z = zg_up G a (.inr (11, [.int 0, .ref (h 1), .int (nI tp.length), .ref (h 3), .ref (h 4), .int (nI rs.length), .ref (h 6), .ref (h 7), .ref (h 8), .ref (h 9), .ref (h 10), .ref (h 11), .ref (h 12), .int (nI (wln Wz)), .int co, .ref (h 15), .int (nI (rPw Wz + ([] : List Int32).length)), .int se, .ref (h 18), v19, v20])) := ⟨_, rfl⟩
    have hG : zP E G1 H := by rw [eG1]; exact hG
    have k2 : G1 a = some (.inr (11, [.int 0, .ref (h 1), .int (nI tp.length), .ref (h 3), .ref (h 4), .int (nI rs.length), .ref (h 6), .ref (h 7), .ref (h 8), .ref (h 9), .ref (h 10), .ref (h 11), .ref (h 12), .int (nI (wln Wz)), .int co, .ref (h 15), .int (nI (rPw Wz + ([] : List Int32).length)), .int se, .ref (h 18), v19, v20])) := by rw [eG1]; exact zg_up_self _ _ _
    have k3 : G1 (h 4) = some (.inl (E.2.1 4, 2000, .inr (.inr (.inr (.inr fr))))) := by rw [eG1, zg_up_ne (zg_ne rm4 ra (by intro h; simp at h))]; exact rm4
    have k4 : G1 (h 3) = some (.inl (E.2.1 0, np_len lo, .inl fo)) := by rw [eG1, zg_up_ne (zg_ne rn1 ra (by intro h; simp at h))]; exact rn1
    have k5 : G1 (h 1) = some (.inl (E.2.1 0, 65536, .inl fm)) := by rw [eG1, zg_up_ne (zg_ne rt1 ra (by intro h; simp at h))]; exact rt1
    obtain ⟨hst1, hs1⟩ := rSt.set hst 0 co se v19 v20 ra
    rw [← eG1] at hst1 hs1
    have hf1 := hs1
    obtain ⟨h1, eh01, eh11, eh21, hc1⟩ := id hst1
    obtain ⟨ra1, rb1, ⟨fm1, rt11, rt21, rt31, rt41⟩, rtl1, ⟨fo1, rn11, rn21, rn31, rn41, rn51⟩, rr1, rg1, ras1⟩ := id hc1
    rw [eh01] at ra1
    obtain ⟨⟨fr1, rm41, hfr1⟩, hn21, hRs1⟩ := id rr1.1
    have hgd := hst1.gd
    refine lv_iload_n hx hb d_Mo_count_5 rfl (lv_at hl 1 rfl) ?_
    refine lv_if_ne (tgt := 14) hx hb d_Mo_count_6 (by decide) (fun c6 => ?_) (fun c6 => ?_)
    · rw [h9] at c6
      exact absurd c6 (by decide)
    · refine lv_aload_n hx hb d_Mo_count_9 rfl (lv_at hl 0 rfl) ?_
      refine zg_get (ci := 11) (C := "ZoneAnswersModel") (T := T_Mo) (N := 21) hx hb hts zi_Mo hown hK hG ra1 rfl 2 (by decide) (hts _ w_1283) (fun _ h9 => h9) rfl d_Mo_count_10 ?_
      exact hret _ _ _ _ _ _ _ _ _ hr (rfl) (⟨Or.inl ⟨h9, rfl⟩, hst1.o hse, hf1⟩) hG hS (by decide) (by decide) d_Mo_count_13
  · refine lv_aload_n hx hb d_Mo_count_0 rfl (lv_at hl 0 rfl) ?_
    refine lv_iconst (v := 0) hx hb d_Mo_count_1 (by decide) ?_
    refine zg_put (ci := 11) (v := .int 0) (ty := .int) (C := "ZoneAnswersModel") (T := T_Mo) (N := 21) hx hb hts zi_Mo t_Mo t_Mo_ok n_Mo hown hK hG hS ra rfl 0 (by decide) (hts _ w_1281) (fun _ h9 => h9) rfl (by decide +kernel) rfl rfl (Nat.le_of_ble_eq_true rfl) d_Mo_count_2 (fun H locs hG hS => ?_)
    obtain ⟨G6, eG6⟩ : ∃ z : zg_G, z = zg_up G a (.inr (11, [.int 0, .ref (h 1), .int (nI tp.length), .ref (h 3), .ref (h 4), .int (nI rs.length), .ref (h 6), .ref (h 7), .ref (h 8), .ref (h 9), .ref (h 10), .ref (h 11), .ref (h 12), .int (nI (wln Wz)), .int co, .ref (h 15), .int (nI (rPw Wz + ([] : List Int32).length)), .int se, .ref (h 18), v19, v20])) := ⟨_, rfl⟩
    have hG : zP E G6 H := by rw [eG6]; exact hG
    have k7 : G6 a = some (.inr (11, [.int 0, .ref (h 1), .int (nI tp.length), .ref (h 3), .ref (h 4), .int (nI rs.length), .ref (h 6), .ref (h 7), .ref (h 8), .ref (h 9), .ref (h 10), .ref (h 11), .ref (h 12), .int (nI (wln Wz)), .int co, .ref (h 15), .int (nI (rPw Wz + ([] : List Int32).length)), .int se, .ref (h 18), v19, v20])) := by rw [eG6]; exact zg_up_self _ _ _
    have k8 : G6 (h 4) = some (.inl (E.2.1 4, 2000, .inr (.inr (.inr (.inr fr))))) := by rw [eG6, zg_up_ne (zg_ne rm4 ra (by intro h; simp at h))]; exact rm4
    have k9 : G6 (h 3) = some (.inl (E.2.1 0, np_len lo, .inl fo)) := by rw [eG6, zg_up_ne (zg_ne rn1 ra (by intro h; simp at h))]; exact rn1
    have k10 : G6 (h 1) = some (.inl (E.2.1 0, 65536, .inl fm)) := by rw [eG6, zg_up_ne (zg_ne rt1 ra (by intro h; simp at h))]; exact rt1
    obtain ⟨hst1, hs1⟩ := rSt.set hst 0 co se v19 v20 ra
    rw [← eG6] at hst1 hs1
    have hf1 := hs1
    obtain ⟨h1, eh01, eh11, eh21, hc1⟩ := id hst1
    obtain ⟨ra1, rb1, ⟨fm1, rt11, rt21, rt31, rt41⟩, rtl1, ⟨fo1, rn11, rn21, rn31, rn41, rn51⟩, rr1, rg1, ras1⟩ := id hc1
    rw [eh01] at ra1
    obtain ⟨⟨fr1, rm41, hfr1⟩, hn21, hRs1⟩ := id rr1.1
    have hgd := hst1.gd
    refine lv_iload_n hx hb d_Mo_count_5 rfl (lv_at hl 1 rfl) ?_
    refine lv_if_ne (tgt := 14) hx hb d_Mo_count_6 (by decide) (fun c6 => ?_) (fun c6 => ?_)
    · refine lv_iload_n hx hb d_Mo_count_14 rfl (lv_at hl 1 rfl) ?_
      refine lv_iconst (v := 1) hx hb d_Mo_count_15 (by decide) ?_
      refine lv_icmp_ne (tgt := 24) hx hb d_Mo_count_16 (by decide) (fun c16 => ?_) (fun c16 => ?_)
      · rw [h9] at c16
        exact absurd c16 (by decide)
      · refine lv_aload_n hx hb d_Mo_count_19 rfl (lv_at hl 0 rfl) ?_
        refine zg_get (ci := 11) (C := "ZoneAnswersModel") (T := T_Mo) (N := 21) hx hb hts zi_Mo hown hK hG ra1 rfl 5 (by decide) (hts _ w_1286) (fun _ h9 => h9) rfl d_Mo_count_20 ?_
        exact hret _ _ _ _ _ _ _ _ _ hr (rfl) (⟨Or.inr (Or.inl ⟨h9, rfl⟩), hst1.o hse, hf1⟩) hG hS (by decide) (by decide) d_Mo_count_23
    · rw [h9] at c6
      exact absurd c6 (by decide)
  · refine lv_aload_n hx hb d_Mo_count_0 rfl (lv_at hl 0 rfl) ?_
    refine lv_iconst (v := 0) hx hb d_Mo_count_1 (by decide) ?_
    refine zg_put (ci := 11) (v := .int 0) (ty := .int) (C := "ZoneAnswersModel") (T := T_Mo) (N := 21) hx hb hts zi_Mo t_Mo t_Mo_ok n_Mo hown hK hG hS ra rfl 0 (by decide) (hts _ w_1281) (fun _ h9 => h9) rfl (by decide +kernel) rfl rfl (Nat.le_of_ble_eq_true rfl) d_Mo_count_2 (fun H locs hG hS => ?_)
    obtain ⟨G11, eG11⟩ : ∃ z : zg_G, z = zg_up G a (.inr (11, [.int 0, .ref (h 1), .int (nI tp.length), .ref (h 3), .ref (h 4), .int (nI rs.length), .ref (h 6), .ref (h 7), .ref (h 8), .ref (h 9), .ref (h 10), .ref (h 11), .ref (h 12), .int (nI (wln Wz)), .int co, .ref (h 15), .int (nI (rPw Wz + ([] : List Int32).length)), .int se, .ref (h 18), v19, v20])) := ⟨_, rfl⟩
    have hG : zP E G11 H := by rw [eG11]; exact hG
    have k12 : G11 a = some (.inr (11, [.int 0, .ref (h 1), .int (nI tp.length), .ref (h 3), .ref (h 4), .int (nI rs.length), .ref (h 6), .ref (h 7), .ref (h 8), .ref (h 9), .ref (h 10), .ref (h 11), .ref (h 12), .int (nI (wln Wz)), .int co, .ref (h 15), .int (nI (rPw Wz + ([] : List Int32).length)), .int se, .ref (h 18), v19, v20])) := by rw [eG11]; exact zg_up_self _ _ _
    have k13 : G11 (h 4) = some (.inl (E.2.1 4, 2000, .inr (.inr (.inr (.inr fr))))) := by rw [eG11, zg_up_ne (zg_ne rm4 ra (by intro h; simp at h))]; exact rm4
    have k14 : G11 (h 3) = some (.inl (E.2.1 0, np_len lo, .inl fo)) := by rw [eG11, zg_up_ne (zg_ne rn1 ra (by intro h; simp at h))]; exact rn1
    have k15 : G11 (h 1) = some (.inl (E.2.1 0, 65536, .inl fm)) := by rw [eG11, zg_up_ne (zg_ne rt1 ra (by intro h; simp at h))]; exact rt1
    obtain ⟨hst1, hs1⟩ := rSt.set hst 0 co se v19 v20 ra
    rw [← eG11] at hst1 hs1
    have hf1 := hs1
    obtain ⟨h1, eh01, eh11, eh21, hc1⟩ := id hst1
    obtain ⟨ra1, rb1, ⟨fm1, rt11, rt21, rt31, rt41⟩, rtl1, ⟨fo1, rn11, rn21, rn31, rn41, rn51⟩, rr1, rg1, ras1⟩ := id hc1
    rw [eh01] at ra1
    obtain ⟨⟨fr1, rm41, hfr1⟩, hn21, hRs1⟩ := id rr1.1
    have hgd := hst1.gd
    refine lv_iload_n hx hb d_Mo_count_5 rfl (lv_at hl 1 rfl) ?_
    refine lv_if_ne (tgt := 14) hx hb d_Mo_count_6 (by decide) (fun c6 => ?_) (fun c6 => ?_)
    · refine lv_iload_n hx hb d_Mo_count_14 rfl (lv_at hl 1 rfl) ?_
      refine lv_iconst (v := 1) hx hb d_Mo_count_15 (by decide) ?_
      refine lv_icmp_ne (tgt := 24) hx hb d_Mo_count_16 (by decide) (fun c16 => ?_) (fun c16 => ?_)
      · refine lv_iload_n hx hb d_Mo_count_24 rfl (lv_at hl 1 rfl) ?_
        refine lv_bipush (v := 7) hx hb d_Mo_count_25 (by decide) ?_
        refine lv_icmp_ne (tgt := 48) hx hb d_Mo_count_27 (by decide) (fun c27 => ?_) (fun c27 => ?_)
        · refine lv_iload_n hx hb d_Mo_count_48 rfl (lv_at hl 1 rfl) ?_
          refine lv_if_lt (tgt := 58) hx hb d_Mo_count_49 (by decide) (fun c49 => ?_) (fun c49 => ?_)
          · rw [h9] at c49
            exact absurd c49 (by decide)
          · refine lv_iload_n hx hb d_Mo_count_52 rfl (lv_at hl 1 rfl) ?_
            refine lv_bipush (v := 7) hx hb d_Mo_count_53 (by decide) ?_
            refine lv_icmp_le (tgt := 60) hx hb d_Mo_count_55 (by decide) (fun c55 => ?_) (fun c55 => ?_)
            · refine lv_iconst (v := 0) hx hb d_Mo_count_60 (by decide) ?_
              refine zi_as (y := nI 0) (nI_0.symm) ?_
              refine lv_istore_n (lv' := [(2, .int (nI 0)), (0, .ref a), (1, .int w)]) hx hb d_Mo_count_61 rfl hl (by decide) rfl (fun ls hl => ?_)
              refine lv_iconst (v := 0) hx hb d_Mo_count_62 (by decide) ?_
              refine zi_as (y := nI 0) (nI_0.symm) ?_
              refine lv_istore_n (lv' := [(3, .int (nI 0)), (2, .int (nI 0)), (0, .ref a), (1, .int w)]) hx hb d_Mo_count_63 rfl hl (by decide) rfl (fun ls hl => ?_)
              have loop64 : ∀ (N : Nat) (i : Nat) (cn : Nat) (H : Heap) (locs : List Loc), (rs.length - i) < N → (i ≤ rs.length) → (isCnt (fun p : np_N × Int32 => ∃ q, q < i ∧ rM (re rs q) = p.1 ∧ rT (re rs q) = p.2) cn) → zP E G11 H → zg_S (zc_b E) s.heap H locs → ∀ (ls : Array Slot), lv_has ls 8 [(0, .ref a), (1, .int w), (2, .int (nI cn)), (3, .int (nI i))] → W p l e rm_Mo_count s m args below meth c H locs 0 0 Q (F0 m 64 ls []) := by
                intro N
                induction N with
                | zero =>
                  intro i cn H locs hlt
                  exact absurd hlt (Nat.not_lt_zero _)
                | succ N ih =>
                  intro i cn H locs hlt hi hcn hG hS ls hl
                  have ih64 := ih
                  refine lv_iload_n hx hb d_Mo_count_64 rfl (lv_at hl 3 rfl) ?_
                  refine lv_aload_n hx hb d_Mo_count_65 rfl (lv_at hl 0 rfl) ?_
                  refine zg_get (ci := 11) (C := "ZoneAnswersModel") (T := T_Mo) (N := 21) hx hb hts zi_Mo hown hK hG ra1 rfl 5 (by decide) (hts _ w_1286) (fun _ h9 => h9) rfl d_Mo_count_66 ?_
                  refine lv_icmp_ge (tgt := 253) hx hb d_Mo_count_69 (by decide) (fun c69 => ?_) (fun c69 => ?_)
                  · have b69 : rs.length ≤ i := (nI_leI (a := rs.length) (b := i) (by omega) (by omega)).mp c69
                    refine lv_iload_n hx hb d_Mo_count_253 rfl (lv_at hl 2 rfl) ?_
                    exact hret _ _ _ _ _ _ _ _ _ hr (rfl) (⟨Or.inr (Or.inr (Or.inl ⟨h9, cn, rce2 (by rw [show i = rs.length by omega] at hcn; exact hcn), rfl⟩)), hst1.o hse, hf1⟩) hG hS (by decide) (by decide) d_Mo_count_254
                  · have b69 : ¬ rs.length ≤ i := fun q => c69 ((nI_leI (a := rs.length) (b := i) (by omega) (by omega)).mpr q)
                    have hir : i < rs.length := by omega
                    obtain ⟨hx1, ⟨nx, hx2, hx3, hx4, hx5⟩, -⟩ := hRs1 _ (re_mem hir)
                    have smx := hx4.2
                    have hni := (hst1.nm hir).1
                    refine lv_iconst (v := 0) hx hb d_Mo_count_72 (by decide) ?_
                    refine lv_istore (lv' := [(4, .int 0), (0, .ref a), (1, .int w), (2, .int (nI cn)), (3, .int (nI i))]) hx hb d_Mo_count_73 hl (by decide) rfl (fun ls hl => ?_)
                    refine lv_iconst (v := 0) hx hb d_Mo_count_75 (by decide) ?_
                    refine lv_istore (lv' := [(5, .int 0), (4, .int 0), (0, .ref a), (1, .int w), (2, .int (nI cn)), (3, .int (nI i))]) hx hb d_Mo_count_76 hl (by decide) rfl (fun ls hl => ?_)
                    refine lv_iconst (v := 0) hx hb d_Mo_count_78 (by decide) ?_
                    refine zi_as (y := nI 0) (nI_0.symm) ?_
                    refine lv_istore (lv' := [(6, .int (nI 0)), (5, .int 0), (4, .int 0), (0, .ref a), (1, .int w), (2, .int (nI cn)), (3, .int (nI i))]) hx hb d_Mo_count_79 hl (by decide) rfl (fun ls hl => ?_)
                    have loop81 : ∀ (N : Nat) (j : Nat) (sv : Int32) (nv : Int32) (H : Heap) (locs : List Loc), (i - j) < N → (j ≤ i) → (zb sv (∃ q, q < j ∧ rM (re rs i) = rM (re rs q) ∧ rT (re rs i) = rT (re rs q))) → (zb nv (∃ q, q < j ∧ rM (re rs i) = rM (re rs q))) → zP E G11 H → zg_S (zc_b E) s.heap H locs → ∀ (ls : Array Slot), lv_has ls 8 [(0, .ref a), (1, .int w), (2, .int (nI cn)), (3, .int (nI i)), (4, .int sv), (5, .int nv), (6, .int (nI j))] → W p l e rm_Mo_count s m args below meth c H locs 0 0 Q (F0 m 81 ls []) := by
                      intro N
                      induction N with
                      | zero =>
                        intro j sv nv H locs hlt
                        exact absurd hlt (Nat.not_lt_zero _)
                      | succ N ih =>
                        intro j sv nv H locs hlt hji hsv hnv hG hS ls hl
                        refine lv_iload hx hb d_Mo_count_81 (lv_at hl 6 rfl) ?_
                        refine lv_iload_n hx hb d_Mo_count_83 rfl (lv_at hl 3 rfl) ?_
                        refine lv_icmp_ge (tgt := 161) hx hb d_Mo_count_84 (by decide) (fun c84 => ?_) (fun c84 => ?_)
                        · have b84 : i ≤ j := (nI_leI (a := i) (b := j) (by omega) (by omega)).mp c84
                          have hjE : j = i := by omega
                          have hsv9 : zb sv (∃ q, q < i ∧ rM (re rs i) = rM (re rs q) ∧ rT (re rs i) = rT (re rs q)) := by have q := hsv; rw [hjE] at q; exact q
                          have hnv9 : zb nv (∃ q, q < i ∧ rM (re rs i) = rM (re rs q)) := by have q := hnv; rw [hjE] at q; exact q
                          refine lv_iload_n hx hb d_Mo_count_161 rfl (lv_at hl 1 rfl) ?_
                          refine lv_iconst (v := 2) hx hb d_Mo_count_162 (by decide) ?_
                          refine lv_icmp_ne (tgt := 174) hx hb d_Mo_count_163 (by decide) (fun c163 => ?_) (fun c163 => ?_)
                          · rw [h9] at c163
                            exact absurd c163 (by decide)
                          · refine lv_iload hx hb d_Mo_count_166 (lv_at hl 4 rfl) ?_
                            refine lv_if_ne (tgt := 174) hx hb d_Mo_count_168 (by decide) (fun c168 => ?_) (fun c168 => ?_)
                            · refine lv_iload hx hb d_Mo_count_174 (lv_at hl 5 rfl) ?_
                              refine lv_if_eq (tgt := 182) hx hb d_Mo_count_176 (by decide) (fun c176 => ?_) (fun c176 => ?_)
                              · refine lv_iload_n hx hb d_Mo_count_182 rfl (lv_at hl 1 rfl) ?_
                                refine lv_iconst (v := 3) hx hb d_Mo_count_183 (by decide) ?_
                                refine lv_icmp_eq (tgt := 231) hx hb d_Mo_count_184 (by decide) (fun c184 => ?_) (fun c184 => ?_)
                                · rw [h9] at c184
                                  exact absurd c184 (by decide)
                                · refine lv_iload_n hx hb d_Mo_count_187 rfl (lv_at hl 1 rfl) ?_
                                  refine lv_iconst (v := 5) hx hb d_Mo_count_188 (by decide) ?_
                                  refine lv_icmp_ne (tgt := 208) hx hb d_Mo_count_189 (by decide) (fun c189 => ?_) (fun c189 => ?_)
                                  · refine lv_iload_n hx hb d_Mo_count_208 rfl (lv_at hl 1 rfl) ?_
                                    refine lv_bipush (v := 6) hx hb d_Mo_count_209 (by decide) ?_
                                    refine lv_icmp_ne (tgt := 234) hx hb d_Mo_count_211 (by decide) (fun c211 => ?_) (fun c211 => ?_)
                                    · refine lv_iload_n hx hb d_Mo_count_234 rfl (lv_at hl 1 rfl) ?_
                                      refine lv_iconst (v := 4) hx hb d_Mo_count_235 (by decide) ?_
                                      refine lv_icmp_ne (tgt := 247) hx hb d_Mo_count_236 (by decide) (fun c236 => ?_) (fun c236 => ?_)
                                      · refine lv_iinc (v := nI (i + 1)) (lv' := [(3, .int (nI (i + 1))), (0, .ref a), (1, .int w), (2, .int (nI cn)), (4, .int sv), (5, .int nv), (6, .int (nI j))]) hx hb d_Mo_count_247 hl (k := 3) rfl (nI_add i 1) (by decide) rfl (fun ls hl => ?_)
                                        refine lv_goto (tgt := 64) hx hb d_Mo_count_250 (by decide) ?_
                                        exact ih64 (i + 1) cn _ _ (by omega) (by omega) (rc2_n hcn (hsv9.nz c168)) hG hS ls (lv_sub hl [1, 2, 3, 0] rfl)
                                      · rw [h9] at c236
                                        exact absurd c236 (by decide)
                                    · rw [h9] at c211
                                      exact absurd c211 (by decide)
                                  · rw [h9] at c189
                                    exact absurd c189 (by decide)
                              · refine lv_goto (tgt := 247) hx hb d_Mo_count_179 (by decide) ?_
                                refine lv_iinc (v := nI (i + 1)) (lv' := [(3, .int (nI (i + 1))), (0, .ref a), (1, .int w), (2, .int (nI cn)), (4, .int sv), (5, .int nv), (6, .int (nI j))]) hx hb d_Mo_count_247 hl (k := 3) rfl (nI_add i 1) (by decide) rfl (fun ls hl => ?_)
                                refine lv_goto (tgt := 64) hx hb d_Mo_count_250 (by decide) ?_
                                exact ih64 (i + 1) cn _ _ (by omega) (by omega) (rc2_n hcn (hsv9.nz c168)) hG hS ls (lv_sub hl [1, 2, 3, 0] rfl)
                            · refine lv_iinc (v := nI (cn + 1)) (lv' := [(2, .int (nI (cn + 1))), (0, .ref a), (1, .int w), (3, .int (nI i)), (4, .int sv), (5, .int nv), (6, .int (nI j))]) hx hb d_Mo_count_171 hl (k := 2) rfl (nI_add cn 1) (by decide) rfl (fun ls hl => ?_)
                              refine lv_iload hx hb d_Mo_count_174 (lv_at hl 5 rfl) ?_
                              refine lv_if_eq (tgt := 182) hx hb d_Mo_count_176 (by decide) (fun c176 => ?_) (fun c176 => ?_)
                              · refine lv_iload_n hx hb d_Mo_count_182 rfl (lv_at hl 2 rfl) ?_
                                refine lv_iconst (v := 3) hx hb d_Mo_count_183 (by decide) ?_
                                refine lv_icmp_eq (tgt := 231) hx hb d_Mo_count_184 (by decide) (fun c184 => ?_) (fun c184 => ?_)
                                · rw [h9] at c184
                                  exact absurd c184 (by decide)
                                · refine lv_iload_n hx hb d_Mo_count_187 rfl (lv_at hl 2 rfl) ?_
                                  refine lv_iconst (v := 5) hx hb d_Mo_count_188 (by decide) ?_
                                  refine lv_icmp_ne (tgt := 208) hx hb d_Mo_count_189 (by decide) (fun c189 => ?_) (fun c189 => ?_)
                                  · refine lv_iload_n hx hb d_Mo_count_208 rfl (lv_at hl 2 rfl) ?_
                                    refine lv_bipush (v := 6) hx hb d_Mo_count_209 (by decide) ?_
                                    refine lv_icmp_ne (tgt := 234) hx hb d_Mo_count_211 (by decide) (fun c211 => ?_) (fun c211 => ?_)
                                    · refine lv_iload_n hx hb d_Mo_count_234 rfl (lv_at hl 2 rfl) ?_
                                      refine lv_iconst (v := 4) hx hb d_Mo_count_235 (by decide) ?_
                                      refine lv_icmp_ne (tgt := 247) hx hb d_Mo_count_236 (by decide) (fun c236 => ?_) (fun c236 => ?_)
                                      · refine lv_iinc (v := nI (i + 1)) (lv' := [(3, .int (nI (i + 1))), (2, .int (nI (cn + 1))), (0, .ref a), (1, .int w), (4, .int sv), (5, .int nv), (6, .int (nI j))]) hx hb d_Mo_count_247 hl (k := 3) rfl (nI_add i 1) (by decide) rfl (fun ls hl => ?_)
                                        refine lv_goto (tgt := 64) hx hb d_Mo_count_250 (by decide) ?_
                                        exact ih64 (i + 1) (cn + 1) _ _ (by omega) (by omega) (rc2_y hcn (hsv9.z c168)) hG hS ls (lv_sub hl [2, 3, 1, 0] rfl)
                                      · rw [h9] at c236
                                        exact absurd c236 (by decide)
                                    · rw [h9] at c211
                                      exact absurd c211 (by decide)
                                  · rw [h9] at c189
                                    exact absurd c189 (by decide)
                              · refine lv_goto (tgt := 247) hx hb d_Mo_count_179 (by decide) ?_
                                refine lv_iinc (v := nI (i + 1)) (lv' := [(3, .int (nI (i + 1))), (2, .int (nI (cn + 1))), (0, .ref a), (1, .int w), (4, .int sv), (5, .int nv), (6, .int (nI j))]) hx hb d_Mo_count_247 hl (k := 3) rfl (nI_add i 1) (by decide) rfl (fun ls hl => ?_)
                                refine lv_goto (tgt := 64) hx hb d_Mo_count_250 (by decide) ?_
                                exact ih64 (i + 1) (cn + 1) _ _ (by omega) (by omega) (rc2_y hcn (hsv9.z c168)) hG hS ls (lv_sub hl [2, 3, 1, 0] rfl)
                        · have b84 : ¬ i ≤ j := fun q => c84 ((nI_leI (a := i) (b := j) (by omega) (by omega)).mpr q)
                          have hjr : j < rs.length := by omega
                          obtain ⟨hr1, ⟨nf, hr2, hr3, hr4, hr5⟩, -⟩ := hRs1 _ (re_mem hjr)
                          have sm := hr4.2
                          refine lv_aload_n hx hb d_Mo_count_87 rfl (lv_at hl 0 rfl) ?_
                          refine zg_get (ci := 11) (C := "ZoneAnswersModel") (T := T_Mo) (N := 21) hx hb hts zi_Mo hown hK hG ra1 rfl 4 (by decide) (hts _ w_1285) (fun _ h9 => h9) rfl d_Mo_count_88 ?_
                          refine lv_iload_n hx hb d_Mo_count_91 rfl (lv_at hl 3 rfl) ?_
                          refine zg_aldq hx hb hK hG 4 rm41 rfl (vp_in_nI (by omega) (by omega)) d_Mo_count_92 ?_
                          refine zr_as (y := fr1 i) (by rw [zi_n _ (by omega)]) ?_
                          refine zr_some (a := rA (re rs i)) (hfr1 i hir) ?_
                          refine zg_get (ci := 12) (C := "ZoneAnswersModel$Rec") (T := T_Re) (N := 5) hx hb hts zi_Re hown hK hG hx1 rfl 0 (by decide) (hts _ w_1265) (fun _ h9 => h9) rfl d_Mo_count_93 ?_
                          refine lv_aload_n hx hb d_Mo_count_96 rfl (lv_at hl 0 rfl) ?_
                          refine zg_get (ci := 11) (C := "ZoneAnswersModel") (T := T_Mo) (N := 21) hx hb hts zi_Mo hown hK hG ra1 rfl 4 (by decide) (hts _ w_1285) (fun _ h9 => h9) rfl d_Mo_count_97 ?_
                          refine lv_iload hx hb d_Mo_count_100 (lv_at hl 6 rfl) ?_
                          refine zg_aldq hx hb hK hG 4 rm41 rfl (vp_in_nI (by omega) (by omega)) d_Mo_count_102 ?_
                          refine zr_as (y := fr1 j) (by rw [zi_n _ (by omega)]) ?_
                          refine zr_some (a := rA (re rs j)) (hfr1 j hjr) ?_
                          refine zg_get (ci := 12) (C := "ZoneAnswersModel$Rec") (T := T_Re) (N := 5) hx hb hts zi_Re hown hK hG hr1 rfl 0 (by decide) (hts _ w_1265) (fun _ h9 => h9) rfl d_Mo_count_103 ?_
                          have hGo106 := hG
                          refine zk_i (va_runS (As := [.ref (rN (re rs i)), .ref (rN (re rs j))]) (rest := []) ⟨hx, hb, hml, hown, hts⟩ (t_Ns_same l E G11 (rN (re rs i)) (np_len (rM (re rs i))) nx hx2 (rN (re rs j)) (np_len (rM (re rs j))) nf hr2 (by omega) (by omega)) (zcS 2 hts w_1405 w_1406 w_33 w_1407 (by decide +kernel) ⟨Nat.le_of_ble_eq_true rfl, Nat.le_of_ble_eq_true rfl⟩) (zc_pre hbase hK hN hQ hG hS) rfl rfl hl.1 rfl (lv_room (Nat.le_of_ble_eq_true rfl)) d_Mo_count_106 ⟨(by decide), (by decide)⟩) hS (fun r106 G106 H locs hp106 hG hS => ?_)
                          have hG : zP E G11 H := hp106.2 ▸ hG
                          have hsame : zb r106 (rM (re rs i) = rM (re rs j)) := hp106.1.iff (zsm_n hx3 hr3 hx4 hr4)
                          refine lv_istore (lv' := [(7, .int r106), (0, .ref a), (1, .int w), (2, .int (nI cn)), (3, .int (nI i)), (4, .int sv), (5, .int nv), (6, .int (nI j))]) hx hb d_Mo_count_109 hl (by decide) rfl (fun ls hl => ?_)
                          refine lv_iload hx hb d_Mo_count_111 (lv_at hl 6 rfl) ?_
                          refine lv_iload hx hb d_Mo_count_113 (lv_at hl 0 rfl) ?_
                          refine lv_ior hx hb d_Mo_count_115 ?_
                          refine lv_istore (lv' := [(5, .int (nv ||| r106)), (7, .int r106), (0, .ref a), (1, .int w), (2, .int (nI cn)), (3, .int (nI i)), (4, .int sv), (6, .int (nI j))]) hx hb d_Mo_count_116 hl (by decide) rfl (fun ls hl => ?_)
                          refine lv_iload hx hb d_Mo_count_118 (lv_at hl 6 rfl) ?_
                          refine lv_iload hx hb d_Mo_count_120 (lv_at hl 1 rfl) ?_
                          refine lv_if_eq (tgt := 151) hx hb d_Mo_count_122 (by decide) (fun c122 => ?_) (fun c122 => ?_)
                          · refine lv_iconst (v := 0) hx hb d_Mo_count_151 (by decide) ?_
                            refine lv_ior hx hb d_Mo_count_152 ?_
                            refine lv_istore (lv' := [(4, .int (sv ||| 0)), (5, .int (nv ||| r106)), (7, .int r106), (0, .ref a), (1, .int w), (2, .int (nI cn)), (3, .int (nI i)), (6, .int (nI j))]) hx hb d_Mo_count_153 hl (by decide) rfl (fun ls hl => ?_)
                            refine lv_iinc (v := nI (j + 1)) (lv' := [(6, .int (nI (j + 1))), (4, .int (sv ||| 0)), (5, .int (nv ||| r106)), (7, .int r106), (0, .ref a), (1, .int w), (2, .int (nI cn)), (3, .int (nI i))]) hx hb d_Mo_count_155 hl (k := 7) rfl (nI_add j 1) (by decide) rfl (fun ls hl => ?_)
                            refine lv_goto (tgt := 81) hx hb d_Mo_count_158 (by decide) ?_
                            exact ih (j + 1) (sv ||| 0) (nv ||| r106) _ _ (by omega) (by omega) (by first | exact (zb_or hsv (zb.f (fun z => hsame.z c122 z.1))).iff ex_s | exact (zb_or hsv (zb.f (fun z => c144 z.2))).iff ex_s | exact (zb_or hsv (zb.t ⟨hsame.nz c122, c144⟩)).iff ex_s) ((zb_or hnv hsame).iff ex_s) hG hS ls (lv_sub hl [4, 5, 6, 7, 1, 2, 0] rfl)
                          · refine lv_aload_n hx hb d_Mo_count_125 rfl (lv_at hl 2 rfl) ?_
                            refine zg_get (ci := 11) (C := "ZoneAnswersModel") (T := T_Mo) (N := 21) hx hb hts zi_Mo hown hK hG ra1 rfl 4 (by decide) (hts _ w_1285) (fun _ h9 => h9) rfl d_Mo_count_126 ?_
                            refine lv_iload_n hx hb d_Mo_count_129 rfl (lv_at hl 5 rfl) ?_
                            refine zg_aldq hx hb hK hG 4 rm41 rfl (vp_in_nI (by omega) (by omega)) d_Mo_count_130 ?_
                            refine zr_as (y := fr1 i) (by rw [zi_n _ (by omega)]) ?_
                            refine zr_some (a := rA (re rs i)) (hfr1 i hir) ?_
                            refine zg_get (ci := 12) (C := "ZoneAnswersModel$Rec") (T := T_Re) (N := 5) hx hb hts zi_Re hown hK hG hx1 rfl 3 (by decide) (hts _ w_1268) (fun _ h9 => h9) rfl d_Mo_count_131 ?_
                            refine lv_aload_n hx hb d_Mo_count_134 rfl (lv_at hl 2 rfl) ?_
                            refine zg_get (ci := 11) (C := "ZoneAnswersModel") (T := T_Mo) (N := 21) hx hb hts zi_Mo hown hK hG ra1 rfl 4 (by decide) (hts _ w_1285) (fun _ h9 => h9) rfl d_Mo_count_135 ?_
                            refine lv_iload hx hb d_Mo_count_138 (lv_at hl 7 rfl) ?_
                            refine zg_aldq hx hb hK hG 4 rm41 rfl (vp_in_nI (by omega) (by omega)) d_Mo_count_140 ?_
                            refine zr_as (y := fr1 j) (by rw [zi_n _ (by omega)]) ?_
                            refine zr_some (a := rA (re rs j)) (hfr1 j hjr) ?_
                            refine zg_get (ci := 12) (C := "ZoneAnswersModel$Rec") (T := T_Re) (N := 5) hx hb hts zi_Re hown hK hG hr1 rfl 3 (by decide) (hts _ w_1268) (fun _ h9 => h9) rfl d_Mo_count_141 ?_
                            refine lv_icmp_ne (tgt := 151) hx hb d_Mo_count_144 (by decide) (fun c144 => ?_) (fun c144 => ?_)
                            · refine lv_iconst (v := 0) hx hb d_Mo_count_151 (by decide) ?_
                              refine lv_ior hx hb d_Mo_count_152 ?_
                              refine lv_istore (lv' := [(4, .int (sv ||| 0)), (5, .int (nv ||| r106)), (7, .int r106), (0, .ref a), (1, .int w), (2, .int (nI cn)), (3, .int (nI i)), (6, .int (nI j))]) hx hb d_Mo_count_153 hl (by decide) rfl (fun ls hl => ?_)
                              refine lv_iinc (v := nI (j + 1)) (lv' := [(6, .int (nI (j + 1))), (4, .int (sv ||| 0)), (5, .int (nv ||| r106)), (7, .int r106), (0, .ref a), (1, .int w), (2, .int (nI cn)), (3, .int (nI i))]) hx hb d_Mo_count_155 hl (k := 7) rfl (nI_add j 1) (by decide) rfl (fun ls hl => ?_)
                              refine lv_goto (tgt := 81) hx hb d_Mo_count_158 (by decide) ?_
                              exact ih (j + 1) (sv ||| 0) (nv ||| r106) _ _ (by omega) (by omega) (by first | exact (zb_or hsv (zb.f (fun z => hsame.z c122 z.1))).iff ex_s | exact (zb_or hsv (zb.f (fun z => c144 z.2))).iff ex_s | exact (zb_or hsv (zb.t ⟨hsame.nz c122, c144⟩)).iff ex_s) ((zb_or hnv hsame).iff ex_s) hG hS ls (lv_sub hl [4, 5, 6, 7, 1, 2, 0] rfl)
                            · refine lv_iconst (v := 1) hx hb d_Mo_count_147 (by decide) ?_
                              refine lv_goto (tgt := 152) hx hb d_Mo_count_148 (by decide) ?_
                              refine lv_ior hx hb d_Mo_count_152 ?_
                              refine lv_istore (lv' := [(4, .int (sv ||| 1)), (5, .int (nv ||| r106)), (7, .int r106), (0, .ref a), (1, .int w), (2, .int (nI cn)), (3, .int (nI i)), (6, .int (nI j))]) hx hb d_Mo_count_153 hl (by decide) rfl (fun ls hl => ?_)
                              refine lv_iinc (v := nI (j + 1)) (lv' := [(6, .int (nI (j + 1))), (4, .int (sv ||| 1)), (5, .int (nv ||| r106)), (7, .int r106), (0, .ref a), (1, .int w), (2, .int (nI cn)), (3, .int (nI i))]) hx hb d_Mo_count_155 hl (k := 7) rfl (nI_add j 1) (by decide) rfl (fun ls hl => ?_)
                              refine lv_goto (tgt := 81) hx hb d_Mo_count_158 (by decide) ?_
                              exact ih (j + 1) (sv ||| 1) (nv ||| r106) _ _ (by omega) (by omega) (by first | exact (zb_or hsv (zb.f (fun z => hsame.z c122 z.1))).iff ex_s | exact (zb_or hsv (zb.f (fun z => c144 z.2))).iff ex_s | exact (zb_or hsv (zb.t ⟨hsame.nz c122, c144⟩)).iff ex_s) ((zb_or hnv hsame).iff ex_s) hG hS ls (lv_sub hl [4, 5, 6, 7, 1, 2, 0] rfl)
                    exact loop81 _ 0 0 0 _ _ (Nat.lt_succ_self _) (Nat.zero_le _) (zb.f (fun ⟨q, z, _⟩ => absurd z (Nat.not_lt_zero q))) (zb.f (fun ⟨q, z, _⟩ => absurd z (Nat.not_lt_zero q))) hG hS ls (lv_sub hl [3, 4, 5, 6, 2, 1, 0] rfl)
              exact loop64 _ 0 0 _ _ (Nat.lt_succ_self _) (Nat.zero_le _) (cs_0 (fun x ⟨q, z, _⟩ => absurd z (Nat.not_lt_zero q))) hG hS ls (lv_sub hl [2, 3, 1, 0] rfl)
            · rw [h9] at c55
              exact absurd c55 (by decide)
        · rw [h9] at c27
          exact absurd c27 (by decide)
      · rw [h9] at c16
        exact absurd c16 (by decide)
    · rw [h9] at c6
      exact absurd c6 (by decide)
  · refine lv_aload_n hx hb d_Mo_count_0 rfl (lv_at hl 0 rfl) ?_
    refine lv_iconst (v := 0) hx hb d_Mo_count_1 (by decide) ?_
    refine zg_put (ci := 11) (v := .int 0) (ty := .int) (C := "ZoneAnswersModel") (T := T_Mo) (N := 21) hx hb hts zi_Mo t_Mo t_Mo_ok n_Mo hown hK hG hS ra rfl 0 (by decide) (hts _ w_1281) (fun _ h9 => h9) rfl (by decide +kernel) rfl rfl (Nat.le_of_ble_eq_true rfl) d_Mo_count_2 (fun H locs hG hS => ?_)
    obtain ⟨G16, eG16⟩ : ∃ z : zg_G, z = zg_up G a (.inr (11, [.int 0, .ref (h 1), .int (nI tp.length), .ref (h 3), .ref (h 4), .int (nI rs.length), .ref (h 6), .ref (h 7), .ref (h 8), .ref (h 9), .ref (h 10), .ref (h 11), .ref (h 12), .int (nI (wln Wz)), .int co, .ref (h 15), .int (nI (rPw Wz + ([] : List Int32).length)), .int se, .ref (h 18), v19, v20])) := ⟨_, rfl⟩
    have hG : zP E G16 H := by rw [eG16]; exact hG
    have k17 : G16 a = some (.inr (11, [.int 0, .ref (h 1), .int (nI tp.length), .ref (h 3), .ref (h 4), .int (nI rs.length), .ref (h 6), .ref (h 7), .ref (h 8), .ref (h 9), .ref (h 10), .ref (h 11), .ref (h 12), .int (nI (wln Wz)), .int co, .ref (h 15), .int (nI (rPw Wz + ([] : List Int32).length)), .int se, .ref (h 18), v19, v20])) := by rw [eG16]; exact zg_up_self _ _ _
    have k18 : G16 (h 4) = some (.inl (E.2.1 4, 2000, .inr (.inr (.inr (.inr fr))))) := by rw [eG16, zg_up_ne (zg_ne rm4 ra (by intro h; simp at h))]; exact rm4
    have k19 : G16 (h 3) = some (.inl (E.2.1 0, np_len lo, .inl fo)) := by rw [eG16, zg_up_ne (zg_ne rn1 ra (by intro h; simp at h))]; exact rn1
    have k20 : G16 (h 1) = some (.inl (E.2.1 0, 65536, .inl fm)) := by rw [eG16, zg_up_ne (zg_ne rt1 ra (by intro h; simp at h))]; exact rt1
    obtain ⟨hst1, hs1⟩ := rSt.set hst 0 co se v19 v20 ra
    rw [← eG16] at hst1 hs1
    have hf1 := hs1
    obtain ⟨h1, eh01, eh11, eh21, hc1⟩ := id hst1
    obtain ⟨ra1, rb1, ⟨fm1, rt11, rt21, rt31, rt41⟩, rtl1, ⟨fo1, rn11, rn21, rn31, rn41, rn51⟩, rr1, rg1, ras1⟩ := id hc1
    rw [eh01] at ra1
    obtain ⟨⟨fr1, rm41, hfr1⟩, hn21, hRs1⟩ := id rr1.1
    have hgd := hst1.gd
    refine lv_iload_n hx hb d_Mo_count_5 rfl (lv_at hl 1 rfl) ?_
    refine lv_if_ne (tgt := 14) hx hb d_Mo_count_6 (by decide) (fun c6 => ?_) (fun c6 => ?_)
    · refine lv_iload_n hx hb d_Mo_count_14 rfl (lv_at hl 1 rfl) ?_
      refine lv_iconst (v := 1) hx hb d_Mo_count_15 (by decide) ?_
      refine lv_icmp_ne (tgt := 24) hx hb d_Mo_count_16 (by decide) (fun c16 => ?_) (fun c16 => ?_)
      · refine lv_iload_n hx hb d_Mo_count_24 rfl (lv_at hl 1 rfl) ?_
        refine lv_bipush (v := 7) hx hb d_Mo_count_25 (by decide) ?_
        refine lv_icmp_ne (tgt := 48) hx hb d_Mo_count_27 (by decide) (fun c27 => ?_) (fun c27 => ?_)
        · refine lv_iload_n hx hb d_Mo_count_48 rfl (lv_at hl 1 rfl) ?_
          refine lv_if_lt (tgt := 58) hx hb d_Mo_count_49 (by decide) (fun c49 => ?_) (fun c49 => ?_)
          · rw [h9] at c49
            exact absurd c49 (by decide)
          · refine lv_iload_n hx hb d_Mo_count_52 rfl (lv_at hl 1 rfl) ?_
            refine lv_bipush (v := 7) hx hb d_Mo_count_53 (by decide) ?_
            refine lv_icmp_le (tgt := 60) hx hb d_Mo_count_55 (by decide) (fun c55 => ?_) (fun c55 => ?_)
            · refine lv_iconst (v := 0) hx hb d_Mo_count_60 (by decide) ?_
              refine zi_as (y := nI 0) (nI_0.symm) ?_
              refine lv_istore_n (lv' := [(2, .int (nI 0)), (0, .ref a), (1, .int w)]) hx hb d_Mo_count_61 rfl hl (by decide) rfl (fun ls hl => ?_)
              refine lv_iconst (v := 0) hx hb d_Mo_count_62 (by decide) ?_
              refine zi_as (y := nI 0) (nI_0.symm) ?_
              refine lv_istore_n (lv' := [(3, .int (nI 0)), (2, .int (nI 0)), (0, .ref a), (1, .int w)]) hx hb d_Mo_count_63 rfl hl (by decide) rfl (fun ls hl => ?_)
              have loop64 : ∀ (N : Nat) (i : Nat) (cn : Nat) (H : Heap) (locs : List Loc), (rs.length - i) < N → (i ≤ rs.length) → (isCnt (fun x : np_N => ∃ q, q < i ∧ rM (re rs q) = x) cn) → zP E G16 H → zg_S (zc_b E) s.heap H locs → ∀ (ls : Array Slot), lv_has ls 8 [(0, .ref a), (1, .int w), (2, .int (nI cn)), (3, .int (nI i))] → W p l e rm_Mo_count s m args below meth c H locs 0 0 Q (F0 m 64 ls []) := by
                intro N
                induction N with
                | zero =>
                  intro i cn H locs hlt
                  exact absurd hlt (Nat.not_lt_zero _)
                | succ N ih =>
                  intro i cn H locs hlt hi hcn hG hS ls hl
                  have ih64 := ih
                  refine lv_iload_n hx hb d_Mo_count_64 rfl (lv_at hl 3 rfl) ?_
                  refine lv_aload_n hx hb d_Mo_count_65 rfl (lv_at hl 0 rfl) ?_
                  refine zg_get (ci := 11) (C := "ZoneAnswersModel") (T := T_Mo) (N := 21) hx hb hts zi_Mo hown hK hG ra1 rfl 5 (by decide) (hts _ w_1286) (fun _ h9 => h9) rfl d_Mo_count_66 ?_
                  refine lv_icmp_ge (tgt := 253) hx hb d_Mo_count_69 (by decide) (fun c69 => ?_) (fun c69 => ?_)
                  · have b69 : rs.length ≤ i := (nI_leI (a := rs.length) (b := i) (by omega) (by omega)).mp c69
                    refine lv_iload_n hx hb d_Mo_count_253 rfl (lv_at hl 2 rfl) ?_
                    exact hret _ _ _ _ _ _ _ _ _ hr (rfl) (⟨Or.inr (Or.inr (Or.inr (Or.inl ⟨h9, cn, rce3 (by rw [show i = rs.length by omega] at hcn; exact hcn), rfl⟩))), hst1.o hse, hf1⟩) hG hS (by decide) (by decide) d_Mo_count_254
                  · have b69 : ¬ rs.length ≤ i := fun q => c69 ((nI_leI (a := rs.length) (b := i) (by omega) (by omega)).mpr q)
                    have hir : i < rs.length := by omega
                    obtain ⟨hx1, ⟨nx, hx2, hx3, hx4, hx5⟩, -⟩ := hRs1 _ (re_mem hir)
                    have smx := hx4.2
                    have hni := (hst1.nm hir).1
                    refine lv_iconst (v := 0) hx hb d_Mo_count_72 (by decide) ?_
                    refine lv_istore (lv' := [(4, .int 0), (0, .ref a), (1, .int w), (2, .int (nI cn)), (3, .int (nI i))]) hx hb d_Mo_count_73 hl (by decide) rfl (fun ls hl => ?_)
                    refine lv_iconst (v := 0) hx hb d_Mo_count_75 (by decide) ?_
                    refine lv_istore (lv' := [(5, .int 0), (4, .int 0), (0, .ref a), (1, .int w), (2, .int (nI cn)), (3, .int (nI i))]) hx hb d_Mo_count_76 hl (by decide) rfl (fun ls hl => ?_)
                    refine lv_iconst (v := 0) hx hb d_Mo_count_78 (by decide) ?_
                    refine zi_as (y := nI 0) (nI_0.symm) ?_
                    refine lv_istore (lv' := [(6, .int (nI 0)), (5, .int 0), (4, .int 0), (0, .ref a), (1, .int w), (2, .int (nI cn)), (3, .int (nI i))]) hx hb d_Mo_count_79 hl (by decide) rfl (fun ls hl => ?_)
                    have loop81 : ∀ (N : Nat) (j : Nat) (sv : Int32) (nv : Int32) (H : Heap) (locs : List Loc), (i - j) < N → (j ≤ i) → (zb sv (∃ q, q < j ∧ rM (re rs i) = rM (re rs q) ∧ rT (re rs i) = rT (re rs q))) → (zb nv (∃ q, q < j ∧ rM (re rs i) = rM (re rs q))) → zP E G16 H → zg_S (zc_b E) s.heap H locs → ∀ (ls : Array Slot), lv_has ls 8 [(0, .ref a), (1, .int w), (2, .int (nI cn)), (3, .int (nI i)), (4, .int sv), (5, .int nv), (6, .int (nI j))] → W p l e rm_Mo_count s m args below meth c H locs 0 0 Q (F0 m 81 ls []) := by
                      intro N
                      induction N with
                      | zero =>
                        intro j sv nv H locs hlt
                        exact absurd hlt (Nat.not_lt_zero _)
                      | succ N ih =>
                        intro j sv nv H locs hlt hji hsv hnv hG hS ls hl
                        refine lv_iload hx hb d_Mo_count_81 (lv_at hl 6 rfl) ?_
                        refine lv_iload_n hx hb d_Mo_count_83 rfl (lv_at hl 3 rfl) ?_
                        refine lv_icmp_ge (tgt := 161) hx hb d_Mo_count_84 (by decide) (fun c84 => ?_) (fun c84 => ?_)
                        · have b84 : i ≤ j := (nI_leI (a := i) (b := j) (by omega) (by omega)).mp c84
                          have hjE : j = i := by omega
                          have hsv9 : zb sv (∃ q, q < i ∧ rM (re rs i) = rM (re rs q) ∧ rT (re rs i) = rT (re rs q)) := by have q := hsv; rw [hjE] at q; exact q
                          have hnv9 : zb nv (∃ q, q < i ∧ rM (re rs i) = rM (re rs q)) := by have q := hnv; rw [hjE] at q; exact q
                          refine lv_iload_n hx hb d_Mo_count_161 rfl (lv_at hl 1 rfl) ?_
                          refine lv_iconst (v := 2) hx hb d_Mo_count_162 (by decide) ?_
                          refine lv_icmp_ne (tgt := 174) hx hb d_Mo_count_163 (by decide) (fun c163 => ?_) (fun c163 => ?_)
                          · refine lv_iload hx hb d_Mo_count_174 (lv_at hl 5 rfl) ?_
                            refine lv_if_eq (tgt := 182) hx hb d_Mo_count_176 (by decide) (fun c176 => ?_) (fun c176 => ?_)
                            · refine lv_iload_n hx hb d_Mo_count_182 rfl (lv_at hl 1 rfl) ?_
                              refine lv_iconst (v := 3) hx hb d_Mo_count_183 (by decide) ?_
                              refine lv_icmp_eq (tgt := 231) hx hb d_Mo_count_184 (by decide) (fun c184 => ?_) (fun c184 => ?_)
                              · refine lv_iinc (v := nI (cn + 1)) (lv' := [(2, .int (nI (cn + 1))), (0, .ref a), (1, .int w), (3, .int (nI i)), (4, .int sv), (5, .int nv), (6, .int (nI j))]) hx hb d_Mo_count_231 hl (k := 2) rfl (nI_add cn 1) (by decide) rfl (fun ls hl => ?_)
                                refine lv_iload_n hx hb d_Mo_count_234 rfl (lv_at hl 2 rfl) ?_
                                refine lv_iconst (v := 4) hx hb d_Mo_count_235 (by decide) ?_
                                refine lv_icmp_ne (tgt := 247) hx hb d_Mo_count_236 (by decide) (fun c236 => ?_) (fun c236 => ?_)
                                · refine lv_iinc (v := nI (i + 1)) (lv' := [(3, .int (nI (i + 1))), (2, .int (nI (cn + 1))), (0, .ref a), (1, .int w), (4, .int sv), (5, .int nv), (6, .int (nI j))]) hx hb d_Mo_count_247 hl (k := 3) rfl (nI_add i 1) (by decide) rfl (fun ls hl => ?_)
                                  refine lv_goto (tgt := 64) hx hb d_Mo_count_250 (by decide) ?_
                                  exact ih64 (i + 1) (cn + 1) _ _ (by omega) (by omega) (rc3_y hcn (hnv9.z c176)) hG hS ls (lv_sub hl [2, 3, 1, 0] rfl)
                                · rw [h9] at c236
                                  exact absurd c236 (by decide)
                              · rw [h9] at c184
                                exact absurd c184 (by decide)
                            · refine lv_goto (tgt := 247) hx hb d_Mo_count_179 (by decide) ?_
                              refine lv_iinc (v := nI (i + 1)) (lv' := [(3, .int (nI (i + 1))), (0, .ref a), (1, .int w), (2, .int (nI cn)), (4, .int sv), (5, .int nv), (6, .int (nI j))]) hx hb d_Mo_count_247 hl (k := 3) rfl (nI_add i 1) (by decide) rfl (fun ls hl => ?_)
                              refine lv_goto (tgt := 64) hx hb d_Mo_count_250 (by decide) ?_
                              exact ih64 (i + 1) cn _ _ (by omega) (by omega) (rc3_n hcn (hnv9.nz c176)) hG hS ls (lv_sub hl [1, 2, 3, 0] rfl)
                          · rw [h9] at c163
                            exact absurd c163 (by decide)
                        · have b84 : ¬ i ≤ j := fun q => c84 ((nI_leI (a := i) (b := j) (by omega) (by omega)).mpr q)
                          have hjr : j < rs.length := by omega
                          obtain ⟨hr1, ⟨nf, hr2, hr3, hr4, hr5⟩, -⟩ := hRs1 _ (re_mem hjr)
                          have sm := hr4.2
                          refine lv_aload_n hx hb d_Mo_count_87 rfl (lv_at hl 0 rfl) ?_
                          refine zg_get (ci := 11) (C := "ZoneAnswersModel") (T := T_Mo) (N := 21) hx hb hts zi_Mo hown hK hG ra1 rfl 4 (by decide) (hts _ w_1285) (fun _ h9 => h9) rfl d_Mo_count_88 ?_
                          refine lv_iload_n hx hb d_Mo_count_91 rfl (lv_at hl 3 rfl) ?_
                          refine zg_aldq hx hb hK hG 4 rm41 rfl (vp_in_nI (by omega) (by omega)) d_Mo_count_92 ?_
                          refine zr_as (y := fr1 i) (by rw [zi_n _ (by omega)]) ?_
                          refine zr_some (a := rA (re rs i)) (hfr1 i hir) ?_
                          refine zg_get (ci := 12) (C := "ZoneAnswersModel$Rec") (T := T_Re) (N := 5) hx hb hts zi_Re hown hK hG hx1 rfl 0 (by decide) (hts _ w_1265) (fun _ h9 => h9) rfl d_Mo_count_93 ?_
                          refine lv_aload_n hx hb d_Mo_count_96 rfl (lv_at hl 0 rfl) ?_
                          refine zg_get (ci := 11) (C := "ZoneAnswersModel") (T := T_Mo) (N := 21) hx hb hts zi_Mo hown hK hG ra1 rfl 4 (by decide) (hts _ w_1285) (fun _ h9 => h9) rfl d_Mo_count_97 ?_
                          refine lv_iload hx hb d_Mo_count_100 (lv_at hl 6 rfl) ?_
                          refine zg_aldq hx hb hK hG 4 rm41 rfl (vp_in_nI (by omega) (by omega)) d_Mo_count_102 ?_
                          refine zr_as (y := fr1 j) (by rw [zi_n _ (by omega)]) ?_
                          refine zr_some (a := rA (re rs j)) (hfr1 j hjr) ?_
                          refine zg_get (ci := 12) (C := "ZoneAnswersModel$Rec") (T := T_Re) (N := 5) hx hb hts zi_Re hown hK hG hr1 rfl 0 (by decide) (hts _ w_1265) (fun _ h9 => h9) rfl d_Mo_count_103 ?_
                          have hGo106 := hG
                          refine zk_i (va_runS (As := [.ref (rN (re rs i)), .ref (rN (re rs j))]) (rest := []) ⟨hx, hb, hml, hown, hts⟩ (t_Ns_same l E G16 (rN (re rs i)) (np_len (rM (re rs i))) nx hx2 (rN (re rs j)) (np_len (rM (re rs j))) nf hr2 (by omega) (by omega)) (zcS 2 hts w_1405 w_1406 w_33 w_1407 (by decide +kernel) ⟨Nat.le_of_ble_eq_true rfl, Nat.le_of_ble_eq_true rfl⟩) (zc_pre hbase hK hN hQ hG hS) rfl rfl hl.1 rfl (lv_room (Nat.le_of_ble_eq_true rfl)) d_Mo_count_106 ⟨(by decide), (by decide)⟩) hS (fun r106 G106 H locs hp106 hG hS => ?_)
                          have hG : zP E G16 H := hp106.2 ▸ hG
                          have hsame : zb r106 (rM (re rs i) = rM (re rs j)) := hp106.1.iff (zsm_n hx3 hr3 hx4 hr4)
                          refine lv_istore (lv' := [(7, .int r106), (0, .ref a), (1, .int w), (2, .int (nI cn)), (3, .int (nI i)), (4, .int sv), (5, .int nv), (6, .int (nI j))]) hx hb d_Mo_count_109 hl (by decide) rfl (fun ls hl => ?_)
                          refine lv_iload hx hb d_Mo_count_111 (lv_at hl 6 rfl) ?_
                          refine lv_iload hx hb d_Mo_count_113 (lv_at hl 0 rfl) ?_
                          refine lv_ior hx hb d_Mo_count_115 ?_
                          refine lv_istore (lv' := [(5, .int (nv ||| r106)), (7, .int r106), (0, .ref a), (1, .int w), (2, .int (nI cn)), (3, .int (nI i)), (4, .int sv), (6, .int (nI j))]) hx hb d_Mo_count_116 hl (by decide) rfl (fun ls hl => ?_)
                          refine lv_iload hx hb d_Mo_count_118 (lv_at hl 6 rfl) ?_
                          refine lv_iload hx hb d_Mo_count_120 (lv_at hl 1 rfl) ?_
                          refine lv_if_eq (tgt := 151) hx hb d_Mo_count_122 (by decide) (fun c122 => ?_) (fun c122 => ?_)
                          · refine lv_iconst (v := 0) hx hb d_Mo_count_151 (by decide) ?_
                            refine lv_ior hx hb d_Mo_count_152 ?_
                            refine lv_istore (lv' := [(4, .int (sv ||| 0)), (5, .int (nv ||| r106)), (7, .int r106), (0, .ref a), (1, .int w), (2, .int (nI cn)), (3, .int (nI i)), (6, .int (nI j))]) hx hb d_Mo_count_153 hl (by decide) rfl (fun ls hl => ?_)
                            refine lv_iinc (v := nI (j + 1)) (lv' := [(6, .int (nI (j + 1))), (4, .int (sv ||| 0)), (5, .int (nv ||| r106)), (7, .int r106), (0, .ref a), (1, .int w), (2, .int (nI cn)), (3, .int (nI i))]) hx hb d_Mo_count_155 hl (k := 7) rfl (nI_add j 1) (by decide) rfl (fun ls hl => ?_)
                            refine lv_goto (tgt := 81) hx hb d_Mo_count_158 (by decide) ?_
                            exact ih (j + 1) (sv ||| 0) (nv ||| r106) _ _ (by omega) (by omega) (by first | exact (zb_or hsv (zb.f (fun z => hsame.z c122 z.1))).iff ex_s | exact (zb_or hsv (zb.f (fun z => c144 z.2))).iff ex_s | exact (zb_or hsv (zb.t ⟨hsame.nz c122, c144⟩)).iff ex_s) ((zb_or hnv hsame).iff ex_s) hG hS ls (lv_sub hl [4, 5, 6, 7, 1, 2, 0] rfl)
                          · refine lv_aload_n hx hb d_Mo_count_125 rfl (lv_at hl 2 rfl) ?_
                            refine zg_get (ci := 11) (C := "ZoneAnswersModel") (T := T_Mo) (N := 21) hx hb hts zi_Mo hown hK hG ra1 rfl 4 (by decide) (hts _ w_1285) (fun _ h9 => h9) rfl d_Mo_count_126 ?_
                            refine lv_iload_n hx hb d_Mo_count_129 rfl (lv_at hl 5 rfl) ?_
                            refine zg_aldq hx hb hK hG 4 rm41 rfl (vp_in_nI (by omega) (by omega)) d_Mo_count_130 ?_
                            refine zr_as (y := fr1 i) (by rw [zi_n _ (by omega)]) ?_
                            refine zr_some (a := rA (re rs i)) (hfr1 i hir) ?_
                            refine zg_get (ci := 12) (C := "ZoneAnswersModel$Rec") (T := T_Re) (N := 5) hx hb hts zi_Re hown hK hG hx1 rfl 3 (by decide) (hts _ w_1268) (fun _ h9 => h9) rfl d_Mo_count_131 ?_
                            refine lv_aload_n hx hb d_Mo_count_134 rfl (lv_at hl 2 rfl) ?_
                            refine zg_get (ci := 11) (C := "ZoneAnswersModel") (T := T_Mo) (N := 21) hx hb hts zi_Mo hown hK hG ra1 rfl 4 (by decide) (hts _ w_1285) (fun _ h9 => h9) rfl d_Mo_count_135 ?_
                            refine lv_iload hx hb d_Mo_count_138 (lv_at hl 7 rfl) ?_
                            refine zg_aldq hx hb hK hG 4 rm41 rfl (vp_in_nI (by omega) (by omega)) d_Mo_count_140 ?_
                            refine zr_as (y := fr1 j) (by rw [zi_n _ (by omega)]) ?_
                            refine zr_some (a := rA (re rs j)) (hfr1 j hjr) ?_
                            refine zg_get (ci := 12) (C := "ZoneAnswersModel$Rec") (T := T_Re) (N := 5) hx hb hts zi_Re hown hK hG hr1 rfl 3 (by decide) (hts _ w_1268) (fun _ h9 => h9) rfl d_Mo_count_141 ?_
                            refine lv_icmp_ne (tgt := 151) hx hb d_Mo_count_144 (by decide) (fun c144 => ?_) (fun c144 => ?_)
                            · refine lv_iconst (v := 0) hx hb d_Mo_count_151 (by decide) ?_
                              refine lv_ior hx hb d_Mo_count_152 ?_
                              refine lv_istore (lv' := [(4, .int (sv ||| 0)), (5, .int (nv ||| r106)), (7, .int r106), (0, .ref a), (1, .int w), (2, .int (nI cn)), (3, .int (nI i)), (6, .int (nI j))]) hx hb d_Mo_count_153 hl (by decide) rfl (fun ls hl => ?_)
                              refine lv_iinc (v := nI (j + 1)) (lv' := [(6, .int (nI (j + 1))), (4, .int (sv ||| 0)), (5, .int (nv ||| r106)), (7, .int r106), (0, .ref a), (1, .int w), (2, .int (nI cn)), (3, .int (nI i))]) hx hb d_Mo_count_155 hl (k := 7) rfl (nI_add j 1) (by decide) rfl (fun ls hl => ?_)
                              refine lv_goto (tgt := 81) hx hb d_Mo_count_158 (by decide) ?_
                              exact ih (j + 1) (sv ||| 0) (nv ||| r106) _ _ (by omega) (by omega) (by first | exact (zb_or hsv (zb.f (fun z => hsame.z c122 z.1))).iff ex_s | exact (zb_or hsv (zb.f (fun z => c144 z.2))).iff ex_s | exact (zb_or hsv (zb.t ⟨hsame.nz c122, c144⟩)).iff ex_s) ((zb_or hnv hsame).iff ex_s) hG hS ls (lv_sub hl [4, 5, 6, 7, 1, 2, 0] rfl)
                            · refine lv_iconst (v := 1) hx hb d_Mo_count_147 (by decide) ?_
                              refine lv_goto (tgt := 152) hx hb d_Mo_count_148 (by decide) ?_
                              refine lv_ior hx hb d_Mo_count_152 ?_
                              refine lv_istore (lv' := [(4, .int (sv ||| 1)), (5, .int (nv ||| r106)), (7, .int r106), (0, .ref a), (1, .int w), (2, .int (nI cn)), (3, .int (nI i)), (6, .int (nI j))]) hx hb d_Mo_count_153 hl (by decide) rfl (fun ls hl => ?_)
                              refine lv_iinc (v := nI (j + 1)) (lv' := [(6, .int (nI (j + 1))), (4, .int (sv ||| 1)), (5, .int (nv ||| r106)), (7, .int r106), (0, .ref a), (1, .int w), (2, .int (nI cn)), (3, .int (nI i))]) hx hb d_Mo_count_155 hl (k := 7) rfl (nI_add j 1) (by decide) rfl (fun ls hl => ?_)
                              refine lv_goto (tgt := 81) hx hb d_Mo_count_158 (by decide) ?_
                              exact ih (j + 1) (sv ||| 1) (nv ||| r106) _ _ (by omega) (by omega) (by first | exact (zb_or hsv (zb.f (fun z => hsame.z c122 z.1))).iff ex_s | exact (zb_or hsv (zb.f (fun z => c144 z.2))).iff ex_s | exact (zb_or hsv (zb.t ⟨hsame.nz c122, c144⟩)).iff ex_s) ((zb_or hnv hsame).iff ex_s) hG hS ls (lv_sub hl [4, 5, 6, 7, 1, 2, 0] rfl)
                    exact loop81 _ 0 0 0 _ _ (Nat.lt_succ_self _) (Nat.zero_le _) (zb.f (fun ⟨q, z, _⟩ => absurd z (Nat.not_lt_zero q))) (zb.f (fun ⟨q, z, _⟩ => absurd z (Nat.not_lt_zero q))) hG hS ls (lv_sub hl [3, 4, 5, 6, 2, 1, 0] rfl)
              exact loop64 _ 0 0 _ _ (Nat.lt_succ_self _) (Nat.zero_le _) (cs_0 (fun x ⟨q, z, _⟩ => absurd z (Nat.not_lt_zero q))) hG hS ls (lv_sub hl [2, 3, 1, 0] rfl)
            · rw [h9] at c55
              exact absurd c55 (by decide)
        · rw [h9] at c27
          exact absurd c27 (by decide)
      · rw [h9] at c16
        exact absurd c16 (by decide)
    · rw [h9] at c6
      exact absurd c6 (by decide)
  · refine lv_aload_n hx hb d_Mo_count_0 rfl (lv_at hl 0 rfl) ?_
    refine lv_iconst (v := 0) hx hb d_Mo_count_1 (by decide) ?_
    refine zg_put (ci := 11) (v := .int 0) (ty := .int) (C := "ZoneAnswersModel") (T := T_Mo) (N := 21) hx hb hts zi_Mo t_Mo t_Mo_ok n_Mo hown hK hG hS ra rfl 0 (by decide) (hts _ w_1281) (fun _ h9 => h9) rfl (by decide +kernel) rfl rfl (Nat.le_of_ble_eq_true rfl) d_Mo_count_2 (fun H locs hG hS => ?_)
    obtain ⟨G21, eG21⟩ : ∃ z : zg_G, z = zg_up G a (.inr (11, [.int 0, .ref (h 1), .int (nI tp.length), .ref (h 3), .ref (h 4), .int (nI rs.length), .ref (h 6), .ref (h 7), .ref (h 8), .ref (h 9), .ref (h 10), .ref (h 11), .ref (h 12), .int (nI (wln Wz)), .int co, .ref (h 15), .int (nI (rPw Wz + ([] : List Int32).length)), .int se, .ref (h 18), v19, v20])) := ⟨_, rfl⟩
    have hG : zP E G21 H := by rw [eG21]; exact hG
    have k22 : G21 a = some (.inr (11, [.int 0, .ref (h 1), .int (nI tp.length), .ref (h 3), .ref (h 4), .int (nI rs.length), .ref (h 6), .ref (h 7), .ref (h 8), .ref (h 9), .ref (h 10), .ref (h 11), .ref (h 12), .int (nI (wln Wz)), .int co, .ref (h 15), .int (nI (rPw Wz + ([] : List Int32).length)), .int se, .ref (h 18), v19, v20])) := by rw [eG21]; exact zg_up_self _ _ _
    have k23 : G21 (h 4) = some (.inl (E.2.1 4, 2000, .inr (.inr (.inr (.inr fr))))) := by rw [eG21, zg_up_ne (zg_ne rm4 ra (by intro h; simp at h))]; exact rm4
    have k24 : G21 (h 3) = some (.inl (E.2.1 0, np_len lo, .inl fo)) := by rw [eG21, zg_up_ne (zg_ne rn1 ra (by intro h; simp at h))]; exact rn1
    have k25 : G21 (h 1) = some (.inl (E.2.1 0, 65536, .inl fm)) := by rw [eG21, zg_up_ne (zg_ne rt1 ra (by intro h; simp at h))]; exact rt1
    obtain ⟨hst1, hs1⟩ := rSt.set hst 0 co se v19 v20 ra
    rw [← eG21] at hst1 hs1
    have hf1 := hs1
    obtain ⟨h1, eh01, eh11, eh21, hc1⟩ := id hst1
    obtain ⟨ra1, rb1, ⟨fm1, rt11, rt21, rt31, rt41⟩, rtl1, ⟨fo1, rn11, rn21, rn31, rn41, rn51⟩, rr1, rg1, ras1⟩ := id hc1
    rw [eh01] at ra1
    obtain ⟨⟨fr1, rm41, hfr1⟩, hn21, hRs1⟩ := id rr1.1
    have hgd := hst1.gd
    refine lv_iload_n hx hb d_Mo_count_5 rfl (lv_at hl 1 rfl) ?_
    refine lv_if_ne (tgt := 14) hx hb d_Mo_count_6 (by decide) (fun c6 => ?_) (fun c6 => ?_)
    · refine lv_iload_n hx hb d_Mo_count_14 rfl (lv_at hl 1 rfl) ?_
      refine lv_iconst (v := 1) hx hb d_Mo_count_15 (by decide) ?_
      refine lv_icmp_ne (tgt := 24) hx hb d_Mo_count_16 (by decide) (fun c16 => ?_) (fun c16 => ?_)
      · refine lv_iload_n hx hb d_Mo_count_24 rfl (lv_at hl 1 rfl) ?_
        refine lv_bipush (v := 7) hx hb d_Mo_count_25 (by decide) ?_
        refine lv_icmp_ne (tgt := 48) hx hb d_Mo_count_27 (by decide) (fun c27 => ?_) (fun c27 => ?_)
        · refine lv_iload_n hx hb d_Mo_count_48 rfl (lv_at hl 1 rfl) ?_
          refine lv_if_lt (tgt := 58) hx hb d_Mo_count_49 (by decide) (fun c49 => ?_) (fun c49 => ?_)
          · rw [h9] at c49
            exact absurd c49 (by decide)
          · refine lv_iload_n hx hb d_Mo_count_52 rfl (lv_at hl 1 rfl) ?_
            refine lv_bipush (v := 7) hx hb d_Mo_count_53 (by decide) ?_
            refine lv_icmp_le (tgt := 60) hx hb d_Mo_count_55 (by decide) (fun c55 => ?_) (fun c55 => ?_)
            · refine lv_iconst (v := 0) hx hb d_Mo_count_60 (by decide) ?_
              refine zi_as (y := nI 0) (nI_0.symm) ?_
              refine lv_istore_n (lv' := [(2, .int (nI 0)), (0, .ref a), (1, .int w)]) hx hb d_Mo_count_61 rfl hl (by decide) rfl (fun ls hl => ?_)
              refine lv_iconst (v := 0) hx hb d_Mo_count_62 (by decide) ?_
              refine zi_as (y := nI 0) (nI_0.symm) ?_
              refine lv_istore_n (lv' := [(3, .int (nI 0)), (2, .int (nI 0)), (0, .ref a), (1, .int w)]) hx hb d_Mo_count_63 rfl hl (by decide) rfl (fun ls hl => ?_)
              have loop64 : ∀ (N : Nat) (i : Nat) (cn : Nat) (H : Heap) (locs : List Loc), (rs.length - i) < N → (i ≤ rs.length) → (isCnt (fun x : np_N => lo <:+ x ∧ ∃ q, q < i ∧ x <:+ rM (re rs q)) cn) → zP E G21 H → zg_S (zc_b E) s.heap H locs → ∀ (ls : Array Slot), lv_has ls 8 [(0, .ref a), (1, .int w), (2, .int (nI cn)), (3, .int (nI i))] → W p l e rm_Mo_count s m args below meth c H locs 0 0 Q (F0 m 64 ls []) := by
                intro N
                induction N with
                | zero =>
                  intro i cn H locs hlt
                  exact absurd hlt (Nat.not_lt_zero _)
                | succ N ih =>
                  intro i cn H locs hlt hi hcn hG hS ls hl
                  have ih64 := ih
                  refine lv_iload_n hx hb d_Mo_count_64 rfl (lv_at hl 3 rfl) ?_
                  refine lv_aload_n hx hb d_Mo_count_65 rfl (lv_at hl 0 rfl) ?_
                  refine zg_get (ci := 11) (C := "ZoneAnswersModel") (T := T_Mo) (N := 21) hx hb hts zi_Mo hown hK hG ra1 rfl 5 (by decide) (hts _ w_1286) (fun _ h9 => h9) rfl d_Mo_count_66 ?_
                  refine lv_icmp_ge (tgt := 253) hx hb d_Mo_count_69 (by decide) (fun c69 => ?_) (fun c69 => ?_)
                  · have b69 : rs.length ≤ i := (nI_leI (a := rs.length) (b := i) (by omega) (by omega)).mp c69
                    refine lv_iload_n hx hb d_Mo_count_253 rfl (lv_at hl 2 rfl) ?_
                    exact hret _ _ _ _ _ _ _ _ _ hr (rfl) (⟨Or.inr (Or.inr (Or.inr (Or.inr (Or.inl ⟨h9, cn, rce4 (by rw [show i = rs.length by omega] at hcn; exact hcn), rfl⟩)))), hst1.o hse, hf1⟩) hG hS (by decide) (by decide) d_Mo_count_254
                  · have b69 : ¬ rs.length ≤ i := fun q => c69 ((nI_leI (a := rs.length) (b := i) (by omega) (by omega)).mpr q)
                    have hir : i < rs.length := by omega
                    obtain ⟨hx1, ⟨nx, hx2, hx3, hx4, hx5⟩, -⟩ := hRs1 _ (re_mem hir)
                    have smx := hx4.2
                    have hni := (hst1.nm hir).1
                    refine lv_iconst (v := 0) hx hb d_Mo_count_72 (by decide) ?_
                    refine lv_istore (lv' := [(4, .int 0), (0, .ref a), (1, .int w), (2, .int (nI cn)), (3, .int (nI i))]) hx hb d_Mo_count_73 hl (by decide) rfl (fun ls hl => ?_)
                    refine lv_iconst (v := 0) hx hb d_Mo_count_75 (by decide) ?_
                    refine lv_istore (lv' := [(5, .int 0), (4, .int 0), (0, .ref a), (1, .int w), (2, .int (nI cn)), (3, .int (nI i))]) hx hb d_Mo_count_76 hl (by decide) rfl (fun ls hl => ?_)
                    refine lv_iconst (v := 0) hx hb d_Mo_count_78 (by decide) ?_
                    refine zi_as (y := nI 0) (nI_0.symm) ?_
                    refine lv_istore (lv' := [(6, .int (nI 0)), (5, .int 0), (4, .int 0), (0, .ref a), (1, .int w), (2, .int (nI cn)), (3, .int (nI i))]) hx hb d_Mo_count_79 hl (by decide) rfl (fun ls hl => ?_)
                    have loop81 : ∀ (N : Nat) (j : Nat) (sv : Int32) (nv : Int32) (H : Heap) (locs : List Loc), (i - j) < N → (j ≤ i) → (zb sv (∃ q, q < j ∧ rM (re rs i) = rM (re rs q) ∧ rT (re rs i) = rT (re rs q))) → (zb nv (∃ q, q < j ∧ rM (re rs i) = rM (re rs q))) → zP E G21 H → zg_S (zc_b E) s.heap H locs → ∀ (ls : Array Slot), lv_has ls 8 [(0, .ref a), (1, .int w), (2, .int (nI cn)), (3, .int (nI i)), (4, .int sv), (5, .int nv), (6, .int (nI j))] → W p l e rm_Mo_count s m args below meth c H locs 0 0 Q (F0 m 81 ls []) := by
                      intro N
                      induction N with
                      | zero =>
                        intro j sv nv H locs hlt
                        exact absurd hlt (Nat.not_lt_zero _)
                      | succ N ih =>
                        intro j sv nv H locs hlt hji hsv hnv hG hS ls hl
                        refine lv_iload hx hb d_Mo_count_81 (lv_at hl 6 rfl) ?_
                        refine lv_iload_n hx hb d_Mo_count_83 rfl (lv_at hl 3 rfl) ?_
                        refine lv_icmp_ge (tgt := 161) hx hb d_Mo_count_84 (by decide) (fun c84 => ?_) (fun c84 => ?_)
                        · have b84 : i ≤ j := (nI_leI (a := i) (b := j) (by omega) (by omega)).mp c84
                          have hjE : j = i := by omega
                          have hsv9 : zb sv (∃ q, q < i ∧ rM (re rs i) = rM (re rs q) ∧ rT (re rs i) = rT (re rs q)) := by have q := hsv; rw [hjE] at q; exact q
                          have hnv9 : zb nv (∃ q, q < i ∧ rM (re rs i) = rM (re rs q)) := by have q := hnv; rw [hjE] at q; exact q
                          refine lv_iload_n hx hb d_Mo_count_161 rfl (lv_at hl 1 rfl) ?_
                          refine lv_iconst (v := 2) hx hb d_Mo_count_162 (by decide) ?_
                          refine lv_icmp_ne (tgt := 174) hx hb d_Mo_count_163 (by decide) (fun c163 => ?_) (fun c163 => ?_)
                          · refine lv_iload hx hb d_Mo_count_174 (lv_at hl 5 rfl) ?_
                            refine lv_if_eq (tgt := 182) hx hb d_Mo_count_176 (by decide) (fun c176 => ?_) (fun c176 => ?_)
                            · refine lv_iload_n hx hb d_Mo_count_182 rfl (lv_at hl 1 rfl) ?_
                              refine lv_iconst (v := 3) hx hb d_Mo_count_183 (by decide) ?_
                              refine lv_icmp_eq (tgt := 231) hx hb d_Mo_count_184 (by decide) (fun c184 => ?_) (fun c184 => ?_)
                              · rw [h9] at c184
                                exact absurd c184 (by decide)
                              · refine lv_iload_n hx hb d_Mo_count_187 rfl (lv_at hl 1 rfl) ?_
                                refine lv_iconst (v := 5) hx hb d_Mo_count_188 (by decide) ?_
                                refine lv_icmp_ne (tgt := 208) hx hb d_Mo_count_189 (by decide) (fun c189 => ?_) (fun c189 => ?_)
                                · refine lv_iload_n hx hb d_Mo_count_208 rfl (lv_at hl 1 rfl) ?_
                                  refine lv_bipush (v := 6) hx hb d_Mo_count_209 (by decide) ?_
                                  refine lv_icmp_ne (tgt := 234) hx hb d_Mo_count_211 (by decide) (fun c211 => ?_) (fun c211 => ?_)
                                  · refine lv_iload_n hx hb d_Mo_count_234 rfl (lv_at hl 1 rfl) ?_
                                    refine lv_iconst (v := 4) hx hb d_Mo_count_235 (by decide) ?_
                                    refine lv_icmp_ne (tgt := 247) hx hb d_Mo_count_236 (by decide) (fun c236 => ?_) (fun c236 => ?_)
                                    · rw [h9] at c236
                                      exact absurd c236 (by decide)
                                    · refine lv_iload_n hx hb d_Mo_count_239 rfl (lv_at hl 2 rfl) ?_
                                      refine lv_aload_n hx hb d_Mo_count_240 rfl (lv_at hl 0 rfl) ?_
                                      refine lv_iload_n hx hb d_Mo_count_241 rfl (lv_at hl 3 rfl) ?_
                                      have hGo242 := hG
                                      refine zk_i (va_runV (As := [.int (nI i)]) (rest := [.int (nI cn)]) ⟨hx, hb, hml, hown, hts⟩ (t_Mo_fresh l E G21 a c1 c2 ro lo rs Wz 0 co se hse tp v19 v20 hst1 i hir) (zcV 1 hts w_1600 w_1602 wp_61 w_30 w_1603 (by decide +kernel) ⟨Nat.le_of_ble_eq_true rfl, Nat.le_of_ble_eq_true rfl⟩) (zc_preV hbase hK hN hQ hG hS ra1 rfl) rfl rfl hl.1 rfl (lv_room (Nat.le_of_ble_eq_true rfl)) d_Mo_count_242 ⟨(by decide), (by decide)⟩) hS (fun r242 G242 H locs hp242 hG hS => ?_)
                                      obtain ⟨⟨kf, hfs, er242⟩, eg242⟩ := hp242
                                      have hG : zP E G21 H := eg242 ▸ hG
                                      refine zi_as (y := nI kf) er242 ?_
                                      refine lv_iadd hx hb d_Mo_count_245 ?_
                                      refine zi_as (y := nI (cn + kf)) (nI_add cn kf) ?_
                                      refine lv_istore_n (lv' := [(2, .int (nI (cn + kf))), (0, .ref a), (1, .int w), (3, .int (nI i)), (4, .int sv), (5, .int nv), (6, .int (nI j))]) hx hb d_Mo_count_246 rfl hl (by decide) rfl (fun ls hl => ?_)
                                      refine lv_iinc (v := nI (i + 1)) (lv' := [(3, .int (nI (i + 1))), (2, .int (nI (cn + kf))), (0, .ref a), (1, .int w), (4, .int sv), (5, .int nv), (6, .int (nI j))]) hx hb d_Mo_count_247 hl (k := 3) rfl (nI_add i 1) (by decide) rfl (fun ls hl => ?_)
                                      refine lv_goto (tgt := 64) hx hb d_Mo_count_250 (by decide) ?_
                                      exact ih64 (i + 1) (cn + kf) _ _ (by omega) (by omega) (rc4_y hcn hfs) hG hS ls (lv_sub hl [2, 3, 1, 0] rfl)
                                  · rw [h9] at c211
                                    exact absurd c211 (by decide)
                                · rw [h9] at c189
                                  exact absurd c189 (by decide)
                            · refine lv_goto (tgt := 247) hx hb d_Mo_count_179 (by decide) ?_
                              refine lv_iinc (v := nI (i + 1)) (lv' := [(3, .int (nI (i + 1))), (0, .ref a), (1, .int w), (2, .int (nI cn)), (4, .int sv), (5, .int nv), (6, .int (nI j))]) hx hb d_Mo_count_247 hl (k := 3) rfl (nI_add i 1) (by decide) rfl (fun ls hl => ?_)
                              refine lv_goto (tgt := 64) hx hb d_Mo_count_250 (by decide) ?_
                              exact ih64 (i + 1) cn _ _ (by omega) (by omega) (rc4_n hcn (hnv9.nz c176)) hG hS ls (lv_sub hl [1, 2, 3, 0] rfl)
                          · rw [h9] at c163
                            exact absurd c163 (by decide)
                        · have b84 : ¬ i ≤ j := fun q => c84 ((nI_leI (a := i) (b := j) (by omega) (by omega)).mpr q)
                          have hjr : j < rs.length := by omega
                          obtain ⟨hr1, ⟨nf, hr2, hr3, hr4, hr5⟩, -⟩ := hRs1 _ (re_mem hjr)
                          have sm := hr4.2
                          refine lv_aload_n hx hb d_Mo_count_87 rfl (lv_at hl 0 rfl) ?_
                          refine zg_get (ci := 11) (C := "ZoneAnswersModel") (T := T_Mo) (N := 21) hx hb hts zi_Mo hown hK hG ra1 rfl 4 (by decide) (hts _ w_1285) (fun _ h9 => h9) rfl d_Mo_count_88 ?_
                          refine lv_iload_n hx hb d_Mo_count_91 rfl (lv_at hl 3 rfl) ?_
                          refine zg_aldq hx hb hK hG 4 rm41 rfl (vp_in_nI (by omega) (by omega)) d_Mo_count_92 ?_
                          refine zr_as (y := fr1 i) (by rw [zi_n _ (by omega)]) ?_
                          refine zr_some (a := rA (re rs i)) (hfr1 i hir) ?_
                          refine zg_get (ci := 12) (C := "ZoneAnswersModel$Rec") (T := T_Re) (N := 5) hx hb hts zi_Re hown hK hG hx1 rfl 0 (by decide) (hts _ w_1265) (fun _ h9 => h9) rfl d_Mo_count_93 ?_
                          refine lv_aload_n hx hb d_Mo_count_96 rfl (lv_at hl 0 rfl) ?_
                          refine zg_get (ci := 11) (C := "ZoneAnswersModel") (T := T_Mo) (N := 21) hx hb hts zi_Mo hown hK hG ra1 rfl 4 (by decide) (hts _ w_1285) (fun _ h9 => h9) rfl d_Mo_count_97 ?_
                          refine lv_iload hx hb d_Mo_count_100 (lv_at hl 6 rfl) ?_
                          refine zg_aldq hx hb hK hG 4 rm41 rfl (vp_in_nI (by omega) (by omega)) d_Mo_count_102 ?_
                          refine zr_as (y := fr1 j) (by rw [zi_n _ (by omega)]) ?_
                          refine zr_some (a := rA (re rs j)) (hfr1 j hjr) ?_
                          refine zg_get (ci := 12) (C := "ZoneAnswersModel$Rec") (T := T_Re) (N := 5) hx hb hts zi_Re hown hK hG hr1 rfl 0 (by decide) (hts _ w_1265) (fun _ h9 => h9) rfl d_Mo_count_103 ?_
                          have hGo106 := hG
                          refine zk_i (va_runS (As := [.ref (rN (re rs i)), .ref (rN (re rs j))]) (rest := []) ⟨hx, hb, hml, hown, hts⟩ (t_Ns_same l E G21 (rN (re rs i)) (np_len (rM (re rs i))) nx hx2 (rN (re rs j)) (np_len (rM (re rs j))) nf hr2 (by omega) (by omega)) (zcS 2 hts w_1405 w_1406 w_33 w_1407 (by decide +kernel) ⟨Nat.le_of_ble_eq_true rfl, Nat.le_of_ble_eq_true rfl⟩) (zc_pre hbase hK hN hQ hG hS) rfl rfl hl.1 rfl (lv_room (Nat.le_of_ble_eq_true rfl)) d_Mo_count_106 ⟨(by decide), (by decide)⟩) hS (fun r106 G106 H locs hp106 hG hS => ?_)
                          have hG : zP E G21 H := hp106.2 ▸ hG
                          have hsame : zb r106 (rM (re rs i) = rM (re rs j)) := hp106.1.iff (zsm_n hx3 hr3 hx4 hr4)
                          refine lv_istore (lv' := [(7, .int r106), (0, .ref a), (1, .int w), (2, .int (nI cn)), (3, .int (nI i)), (4, .int sv), (5, .int nv), (6, .int (nI j))]) hx hb d_Mo_count_109 hl (by decide) rfl (fun ls hl => ?_)
                          refine lv_iload hx hb d_Mo_count_111 (lv_at hl 6 rfl) ?_
                          refine lv_iload hx hb d_Mo_count_113 (lv_at hl 0 rfl) ?_
                          refine lv_ior hx hb d_Mo_count_115 ?_
                          refine lv_istore (lv' := [(5, .int (nv ||| r106)), (7, .int r106), (0, .ref a), (1, .int w), (2, .int (nI cn)), (3, .int (nI i)), (4, .int sv), (6, .int (nI j))]) hx hb d_Mo_count_116 hl (by decide) rfl (fun ls hl => ?_)
                          refine lv_iload hx hb d_Mo_count_118 (lv_at hl 6 rfl) ?_
                          refine lv_iload hx hb d_Mo_count_120 (lv_at hl 1 rfl) ?_
                          refine lv_if_eq (tgt := 151) hx hb d_Mo_count_122 (by decide) (fun c122 => ?_) (fun c122 => ?_)
                          · refine lv_iconst (v := 0) hx hb d_Mo_count_151 (by decide) ?_
                            refine lv_ior hx hb d_Mo_count_152 ?_
                            refine lv_istore (lv' := [(4, .int (sv ||| 0)), (5, .int (nv ||| r106)), (7, .int r106), (0, .ref a), (1, .int w), (2, .int (nI cn)), (3, .int (nI i)), (6, .int (nI j))]) hx hb d_Mo_count_153 hl (by decide) rfl (fun ls hl => ?_)
                            refine lv_iinc (v := nI (j + 1)) (lv' := [(6, .int (nI (j + 1))), (4, .int (sv ||| 0)), (5, .int (nv ||| r106)), (7, .int r106), (0, .ref a), (1, .int w), (2, .int (nI cn)), (3, .int (nI i))]) hx hb d_Mo_count_155 hl (k := 7) rfl (nI_add j 1) (by decide) rfl (fun ls hl => ?_)
                            refine lv_goto (tgt := 81) hx hb d_Mo_count_158 (by decide) ?_
                            exact ih (j + 1) (sv ||| 0) (nv ||| r106) _ _ (by omega) (by omega) (by first | exact (zb_or hsv (zb.f (fun z => hsame.z c122 z.1))).iff ex_s | exact (zb_or hsv (zb.f (fun z => c144 z.2))).iff ex_s | exact (zb_or hsv (zb.t ⟨hsame.nz c122, c144⟩)).iff ex_s) ((zb_or hnv hsame).iff ex_s) hG hS ls (lv_sub hl [4, 5, 6, 7, 1, 2, 0] rfl)
                          · refine lv_aload_n hx hb d_Mo_count_125 rfl (lv_at hl 2 rfl) ?_
                            refine zg_get (ci := 11) (C := "ZoneAnswersModel") (T := T_Mo) (N := 21) hx hb hts zi_Mo hown hK hG ra1 rfl 4 (by decide) (hts _ w_1285) (fun _ h9 => h9) rfl d_Mo_count_126 ?_
                            refine lv_iload_n hx hb d_Mo_count_129 rfl (lv_at hl 5 rfl) ?_
                            refine zg_aldq hx hb hK hG 4 rm41 rfl (vp_in_nI (by omega) (by omega)) d_Mo_count_130 ?_
                            refine zr_as (y := fr1 i) (by rw [zi_n _ (by omega)]) ?_
                            refine zr_some (a := rA (re rs i)) (hfr1 i hir) ?_
                            refine zg_get (ci := 12) (C := "ZoneAnswersModel$Rec") (T := T_Re) (N := 5) hx hb hts zi_Re hown hK hG hx1 rfl 3 (by decide) (hts _ w_1268) (fun _ h9 => h9) rfl d_Mo_count_131 ?_
                            refine lv_aload_n hx hb d_Mo_count_134 rfl (lv_at hl 2 rfl) ?_
                            refine zg_get (ci := 11) (C := "ZoneAnswersModel") (T := T_Mo) (N := 21) hx hb hts zi_Mo hown hK hG ra1 rfl 4 (by decide) (hts _ w_1285) (fun _ h9 => h9) rfl d_Mo_count_135 ?_
                            refine lv_iload hx hb d_Mo_count_138 (lv_at hl 7 rfl) ?_
                            refine zg_aldq hx hb hK hG 4 rm41 rfl (vp_in_nI (by omega) (by omega)) d_Mo_count_140 ?_
                            refine zr_as (y := fr1 j) (by rw [zi_n _ (by omega)]) ?_
                            refine zr_some (a := rA (re rs j)) (hfr1 j hjr) ?_
                            refine zg_get (ci := 12) (C := "ZoneAnswersModel$Rec") (T := T_Re) (N := 5) hx hb hts zi_Re hown hK hG hr1 rfl 3 (by decide) (hts _ w_1268) (fun _ h9 => h9) rfl d_Mo_count_141 ?_
                            refine lv_icmp_ne (tgt := 151) hx hb d_Mo_count_144 (by decide) (fun c144 => ?_) (fun c144 => ?_)
                            · refine lv_iconst (v := 0) hx hb d_Mo_count_151 (by decide) ?_
                              refine lv_ior hx hb d_Mo_count_152 ?_
                              refine lv_istore (lv' := [(4, .int (sv ||| 0)), (5, .int (nv ||| r106)), (7, .int r106), (0, .ref a), (1, .int w), (2, .int (nI cn)), (3, .int (nI i)), (6, .int (nI j))]) hx hb d_Mo_count_153 hl (by decide) rfl (fun ls hl => ?_)
                              refine lv_iinc (v := nI (j + 1)) (lv' := [(6, .int (nI (j + 1))), (4, .int (sv ||| 0)), (5, .int (nv ||| r106)), (7, .int r106), (0, .ref a), (1, .int w), (2, .int (nI cn)), (3, .int (nI i))]) hx hb d_Mo_count_155 hl (k := 7) rfl (nI_add j 1) (by decide) rfl (fun ls hl => ?_)
                              refine lv_goto (tgt := 81) hx hb d_Mo_count_158 (by decide) ?_
                              exact ih (j + 1) (sv ||| 0) (nv ||| r106) _ _ (by omega) (by omega) (by first | exact (zb_or hsv (zb.f (fun z => hsame.z c122 z.1))).iff ex_s | exact (zb_or hsv (zb.f (fun z => c144 z.2))).iff ex_s | exact (zb_or hsv (zb.t ⟨hsame.nz c122, c144⟩)).iff ex_s) ((zb_or hnv hsame).iff ex_s) hG hS ls (lv_sub hl [4, 5, 6, 7, 1, 2, 0] rfl)
                            · refine lv_iconst (v := 1) hx hb d_Mo_count_147 (by decide) ?_
                              refine lv_goto (tgt := 152) hx hb d_Mo_count_148 (by decide) ?_
                              refine lv_ior hx hb d_Mo_count_152 ?_
                              refine lv_istore (lv' := [(4, .int (sv ||| 1)), (5, .int (nv ||| r106)), (7, .int r106), (0, .ref a), (1, .int w), (2, .int (nI cn)), (3, .int (nI i)), (6, .int (nI j))]) hx hb d_Mo_count_153 hl (by decide) rfl (fun ls hl => ?_)
                              refine lv_iinc (v := nI (j + 1)) (lv' := [(6, .int (nI (j + 1))), (4, .int (sv ||| 1)), (5, .int (nv ||| r106)), (7, .int r106), (0, .ref a), (1, .int w), (2, .int (nI cn)), (3, .int (nI i))]) hx hb d_Mo_count_155 hl (k := 7) rfl (nI_add j 1) (by decide) rfl (fun ls hl => ?_)
                              refine lv_goto (tgt := 81) hx hb d_Mo_count_158 (by decide) ?_
                              exact ih (j + 1) (sv ||| 1) (nv ||| r106) _ _ (by omega) (by omega) (by first | exact (zb_or hsv (zb.f (fun z => hsame.z c122 z.1))).iff ex_s | exact (zb_or hsv (zb.f (fun z => c144 z.2))).iff ex_s | exact (zb_or hsv (zb.t ⟨hsame.nz c122, c144⟩)).iff ex_s) ((zb_or hnv hsame).iff ex_s) hG hS ls (lv_sub hl [4, 5, 6, 7, 1, 2, 0] rfl)
                    exact loop81 _ 0 0 0 _ _ (Nat.lt_succ_self _) (Nat.zero_le _) (zb.f (fun ⟨q, z, _⟩ => absurd z (Nat.not_lt_zero q))) (zb.f (fun ⟨q, z, _⟩ => absurd z (Nat.not_lt_zero q))) hG hS ls (lv_sub hl [3, 4, 5, 6, 2, 1, 0] rfl)
              exact loop64 _ 0 0 _ _ (Nat.lt_succ_self _) (Nat.zero_le _) (cs_0 (fun x ⟨_, q, z, _⟩ => absurd z (Nat.not_lt_zero q))) hG hS ls (lv_sub hl [2, 3, 1, 0] rfl)
            · rw [h9] at c55
              exact absurd c55 (by decide)
        · rw [h9] at c27
          exact absurd c27 (by decide)
      · rw [h9] at c16
        exact absurd c16 (by decide)
    · rw [h9] at c6
      exact absurd c6 (by decide)
  · refine lv_aload_n hx hb d_Mo_count_0 rfl (lv_at hl 0 rfl) ?_
    refine lv_iconst (v := 0) hx hb d_Mo_count_1 (by decide) ?_
    refine zg_put (ci := 11) (v := .int 0) (ty := .int) (C := "ZoneAnswersModel") (T := T_Mo) (N := 21) hx hb hts zi_Mo t_Mo t_Mo_ok n_Mo hown hK hG hS ra rfl 0 (by decide) (hts _ w_1281) (fun _ h9 => h9) rfl (by decide +kernel) rfl rfl (Nat.le_of_ble_eq_true rfl) d_Mo_count_2 (fun H locs hG hS => ?_)
    obtain ⟨G26, eG26⟩ : ∃ z : zg_G, z = zg_up G a (.inr (11, [.int 0, .ref (h 1), .int (nI tp.length), .ref (h 3), .ref (h 4), .int (nI rs.length), .ref (h 6), .ref (h 7), .ref (h 8), .ref (h 9), .ref (h 10), .ref (h 11), .ref (h 12), .int (nI (wln Wz)), .int co, .ref (h 15), .int (nI (rPw Wz + ([] : List Int32).length)), .int se, .ref (h 18), v19, v20])) := ⟨_, rfl⟩
    have hG : zP E G26 H := by rw [eG26]; exact hG
    have k27 : G26 a = some (.inr (11, [.int 0, .ref (h 1), .int (nI tp.length), .ref (h 3), .ref (h 4), .int (nI rs.length), .ref (h 6), .ref (h 7), .ref (h 8), .ref (h 9), .ref (h 10), .ref (h 11), .ref (h 12), .int (nI (wln Wz)), .int co, .ref (h 15), .int (nI (rPw Wz + ([] : List Int32).length)), .int se, .ref (h 18), v19, v20])) := by rw [eG26]; exact zg_up_self _ _ _
    have k28 : G26 (h 4) = some (.inl (E.2.1 4, 2000, .inr (.inr (.inr (.inr fr))))) := by rw [eG26, zg_up_ne (zg_ne rm4 ra (by intro h; simp at h))]; exact rm4
    have k29 : G26 (h 3) = some (.inl (E.2.1 0, np_len lo, .inl fo)) := by rw [eG26, zg_up_ne (zg_ne rn1 ra (by intro h; simp at h))]; exact rn1
    have k30 : G26 (h 1) = some (.inl (E.2.1 0, 65536, .inl fm)) := by rw [eG26, zg_up_ne (zg_ne rt1 ra (by intro h; simp at h))]; exact rt1
    obtain ⟨hst1, hs1⟩ := rSt.set hst 0 co se v19 v20 ra
    rw [← eG26] at hst1 hs1
    have hf1 := hs1
    obtain ⟨h1, eh01, eh11, eh21, hc1⟩ := id hst1
    obtain ⟨ra1, rb1, ⟨fm1, rt11, rt21, rt31, rt41⟩, rtl1, ⟨fo1, rn11, rn21, rn31, rn41, rn51⟩, rr1, rg1, ras1⟩ := id hc1
    rw [eh01] at ra1
    obtain ⟨⟨fr1, rm41, hfr1⟩, hn21, hRs1⟩ := id rr1.1
    have hgd := hst1.gd
    refine lv_iload_n hx hb d_Mo_count_5 rfl (lv_at hl 1 rfl) ?_
    refine lv_if_ne (tgt := 14) hx hb d_Mo_count_6 (by decide) (fun c6 => ?_) (fun c6 => ?_)
    · refine lv_iload_n hx hb d_Mo_count_14 rfl (lv_at hl 1 rfl) ?_
      refine lv_iconst (v := 1) hx hb d_Mo_count_15 (by decide) ?_
      refine lv_icmp_ne (tgt := 24) hx hb d_Mo_count_16 (by decide) (fun c16 => ?_) (fun c16 => ?_)
      · refine lv_iload_n hx hb d_Mo_count_24 rfl (lv_at hl 1 rfl) ?_
        refine lv_bipush (v := 7) hx hb d_Mo_count_25 (by decide) ?_
        refine lv_icmp_ne (tgt := 48) hx hb d_Mo_count_27 (by decide) (fun c27 => ?_) (fun c27 => ?_)
        · refine lv_iload_n hx hb d_Mo_count_48 rfl (lv_at hl 1 rfl) ?_
          refine lv_if_lt (tgt := 58) hx hb d_Mo_count_49 (by decide) (fun c49 => ?_) (fun c49 => ?_)
          · rw [h9] at c49
            exact absurd c49 (by decide)
          · refine lv_iload_n hx hb d_Mo_count_52 rfl (lv_at hl 1 rfl) ?_
            refine lv_bipush (v := 7) hx hb d_Mo_count_53 (by decide) ?_
            refine lv_icmp_le (tgt := 60) hx hb d_Mo_count_55 (by decide) (fun c55 => ?_) (fun c55 => ?_)
            · refine lv_iconst (v := 0) hx hb d_Mo_count_60 (by decide) ?_
              refine zi_as (y := nI 0) (nI_0.symm) ?_
              refine lv_istore_n (lv' := [(2, .int (nI 0)), (0, .ref a), (1, .int w)]) hx hb d_Mo_count_61 rfl hl (by decide) rfl (fun ls hl => ?_)
              refine lv_iconst (v := 0) hx hb d_Mo_count_62 (by decide) ?_
              refine zi_as (y := nI 0) (nI_0.symm) ?_
              refine lv_istore_n (lv' := [(3, .int (nI 0)), (2, .int (nI 0)), (0, .ref a), (1, .int w)]) hx hb d_Mo_count_63 rfl hl (by decide) rfl (fun ls hl => ?_)
              have loop64 : ∀ (N : Nat) (i : Nat) (cn : Nat) (H : Heap) (locs : List Loc), (rs.length - i) < N → (i ≤ rs.length) → (isCnt (fun x : np_N => (∃ q, q < i ∧ rM (re rs q) = x) ∧ ¬ vaw (rVf rs) lo x) cn) → zP E G26 H → zg_S (zc_b E) s.heap H locs → ∀ (ls : Array Slot), lv_has ls 8 [(0, .ref a), (1, .int w), (2, .int (nI cn)), (3, .int (nI i))] → W p l e rm_Mo_count s m args below meth c H locs 0 0 Q (F0 m 64 ls []) := by
                intro N
                induction N with
                | zero =>
                  intro i cn H locs hlt
                  exact absurd hlt (Nat.not_lt_zero _)
                | succ N ih =>
                  intro i cn H locs hlt hi hcn hG hS ls hl
                  have ih64 := ih
                  refine lv_iload_n hx hb d_Mo_count_64 rfl (lv_at hl 3 rfl) ?_
                  refine lv_aload_n hx hb d_Mo_count_65 rfl (lv_at hl 0 rfl) ?_
                  refine zg_get (ci := 11) (C := "ZoneAnswersModel") (T := T_Mo) (N := 21) hx hb hts zi_Mo hown hK hG ra1 rfl 5 (by decide) (hts _ w_1286) (fun _ h9 => h9) rfl d_Mo_count_66 ?_
                  refine lv_icmp_ge (tgt := 253) hx hb d_Mo_count_69 (by decide) (fun c69 => ?_) (fun c69 => ?_)
                  · have b69 : rs.length ≤ i := (nI_leI (a := rs.length) (b := i) (by omega) (by omega)).mp c69
                    refine lv_iload_n hx hb d_Mo_count_253 rfl (lv_at hl 2 rfl) ?_
                    exact hret _ _ _ _ _ _ _ _ _ hr (rfl) (⟨Or.inr (Or.inr (Or.inr (Or.inr (Or.inr (Or.inl ⟨h9, cn, rce5 (by rw [show i = rs.length by omega] at hcn; exact hcn), rfl⟩))))), hst1.o hse, hf1⟩) hG hS (by decide) (by decide) d_Mo_count_254
                  · have b69 : ¬ rs.length ≤ i := fun q => c69 ((nI_leI (a := rs.length) (b := i) (by omega) (by omega)).mpr q)
                    have hir : i < rs.length := by omega
                    obtain ⟨hx1, ⟨nx, hx2, hx3, hx4, hx5⟩, -⟩ := hRs1 _ (re_mem hir)
                    have smx := hx4.2
                    have hni := (hst1.nm hir).1
                    refine lv_iconst (v := 0) hx hb d_Mo_count_72 (by decide) ?_
                    refine lv_istore (lv' := [(4, .int 0), (0, .ref a), (1, .int w), (2, .int (nI cn)), (3, .int (nI i))]) hx hb d_Mo_count_73 hl (by decide) rfl (fun ls hl => ?_)
                    refine lv_iconst (v := 0) hx hb d_Mo_count_75 (by decide) ?_
                    refine lv_istore (lv' := [(5, .int 0), (4, .int 0), (0, .ref a), (1, .int w), (2, .int (nI cn)), (3, .int (nI i))]) hx hb d_Mo_count_76 hl (by decide) rfl (fun ls hl => ?_)
                    refine lv_iconst (v := 0) hx hb d_Mo_count_78 (by decide) ?_
                    refine zi_as (y := nI 0) (nI_0.symm) ?_
                    refine lv_istore (lv' := [(6, .int (nI 0)), (5, .int 0), (4, .int 0), (0, .ref a), (1, .int w), (2, .int (nI cn)), (3, .int (nI i))]) hx hb d_Mo_count_79 hl (by decide) rfl (fun ls hl => ?_)
                    have loop81 : ∀ (N : Nat) (j : Nat) (sv : Int32) (nv : Int32) (H : Heap) (locs : List Loc), (i - j) < N → (j ≤ i) → (zb sv (∃ q, q < j ∧ rM (re rs i) = rM (re rs q) ∧ rT (re rs i) = rT (re rs q))) → (zb nv (∃ q, q < j ∧ rM (re rs i) = rM (re rs q))) → zP E G26 H → zg_S (zc_b E) s.heap H locs → ∀ (ls : Array Slot), lv_has ls 8 [(0, .ref a), (1, .int w), (2, .int (nI cn)), (3, .int (nI i)), (4, .int sv), (5, .int nv), (6, .int (nI j))] → W p l e rm_Mo_count s m args below meth c H locs 0 0 Q (F0 m 81 ls []) := by
                      intro N
                      induction N with
                      | zero =>
                        intro j sv nv H locs hlt
                        exact absurd hlt (Nat.not_lt_zero _)
                      | succ N ih =>
                        intro j sv nv H locs hlt hji hsv hnv hG hS ls hl
                        refine lv_iload hx hb d_Mo_count_81 (lv_at hl 6 rfl) ?_
                        refine lv_iload_n hx hb d_Mo_count_83 rfl (lv_at hl 3 rfl) ?_
                        refine lv_icmp_ge (tgt := 161) hx hb d_Mo_count_84 (by decide) (fun c84 => ?_) (fun c84 => ?_)
                        · have b84 : i ≤ j := (nI_leI (a := i) (b := j) (by omega) (by omega)).mp c84
                          have hjE : j = i := by omega
                          have hsv9 : zb sv (∃ q, q < i ∧ rM (re rs i) = rM (re rs q) ∧ rT (re rs i) = rT (re rs q)) := by have q := hsv; rw [hjE] at q; exact q
                          have hnv9 : zb nv (∃ q, q < i ∧ rM (re rs i) = rM (re rs q)) := by have q := hnv; rw [hjE] at q; exact q
                          refine lv_iload_n hx hb d_Mo_count_161 rfl (lv_at hl 1 rfl) ?_
                          refine lv_iconst (v := 2) hx hb d_Mo_count_162 (by decide) ?_
                          refine lv_icmp_ne (tgt := 174) hx hb d_Mo_count_163 (by decide) (fun c163 => ?_) (fun c163 => ?_)
                          · refine lv_iload hx hb d_Mo_count_174 (lv_at hl 5 rfl) ?_
                            refine lv_if_eq (tgt := 182) hx hb d_Mo_count_176 (by decide) (fun c176 => ?_) (fun c176 => ?_)
                            · refine lv_iload_n hx hb d_Mo_count_182 rfl (lv_at hl 1 rfl) ?_
                              refine lv_iconst (v := 3) hx hb d_Mo_count_183 (by decide) ?_
                              refine lv_icmp_eq (tgt := 231) hx hb d_Mo_count_184 (by decide) (fun c184 => ?_) (fun c184 => ?_)
                              · rw [h9] at c184
                                exact absurd c184 (by decide)
                              · refine lv_iload_n hx hb d_Mo_count_187 rfl (lv_at hl 1 rfl) ?_
                                refine lv_iconst (v := 5) hx hb d_Mo_count_188 (by decide) ?_
                                refine lv_icmp_ne (tgt := 208) hx hb d_Mo_count_189 (by decide) (fun c189 => ?_) (fun c189 => ?_)
                                · rw [h9] at c189
                                  exact absurd c189 (by decide)
                                · refine lv_aload_n hx hb d_Mo_count_192 rfl (lv_at hl 0 rfl) ?_
                                  refine lv_aload_n hx hb d_Mo_count_193 rfl (lv_at hl 0 rfl) ?_
                                  refine zg_get (ci := 11) (C := "ZoneAnswersModel") (T := T_Mo) (N := 21) hx hb hts zi_Mo hown hK hG ra1 rfl 4 (by decide) (hts _ w_1285) (fun _ h9 => h9) rfl d_Mo_count_194 ?_
                                  refine lv_iload_n hx hb d_Mo_count_197 rfl (lv_at hl 3 rfl) ?_
                                  refine zg_aldq hx hb hK hG 4 rm41 rfl (vp_in_nI (by omega) (by omega)) d_Mo_count_198 ?_
                                  refine zr_as (y := fr1 i) (by rw [zi_n _ (by omega)]) ?_
                                  refine zr_some (a := rA (re rs i)) (hfr1 i hir) ?_
                                  refine zg_get (ci := 12) (C := "ZoneAnswersModel$Rec") (T := T_Re) (N := 5) hx hb hts zi_Re hown hK hG hx1 rfl 0 (by decide) (hts _ w_1265) (fun _ h9 => h9) rfl d_Mo_count_199 ?_
                                  refine zk_i (va_runV (As := [.ref (rN (re rs i))]) (rest := []) ⟨hx, hb, hml, hown, hts⟩ (t_Mo_away_s l hst1 (rN (re rs i)) (rM (re rs i)) hni) (zcV 1 hts w_1512 w_1514 wp_46 w_30 w_1515 (by decide +kernel) ⟨Nat.le_of_ble_eq_true rfl, Nat.le_of_ble_eq_true rfl⟩) (zc_preV hbase hK hN hQ hG hS ra1 rfl) rfl rfl hl.1 rfl (lv_room (Nat.le_of_ble_eq_true rfl)) d_Mo_count_202 ⟨(by decide), (by decide)⟩) hS (fun r202 G202 H locs hp202 hG hS => ?_)
                                  have hG : zP E G26 H := hp202.2 ▸ hG
                                  refine lv_if_eq (tgt := 231) hx hb d_Mo_count_205 (by decide) (fun c205 => ?_) (fun c205 => ?_)
                                  · refine lv_iinc (v := nI (cn + 1)) (lv' := [(2, .int (nI (cn + 1))), (0, .ref a), (1, .int w), (3, .int (nI i)), (4, .int sv), (5, .int nv), (6, .int (nI j))]) hx hb d_Mo_count_231 hl (k := 2) rfl (nI_add cn 1) (by decide) rfl (fun ls hl => ?_)
                                    refine lv_iload_n hx hb d_Mo_count_234 rfl (lv_at hl 2 rfl) ?_
                                    refine lv_iconst (v := 4) hx hb d_Mo_count_235 (by decide) ?_
                                    refine lv_icmp_ne (tgt := 247) hx hb d_Mo_count_236 (by decide) (fun c236 => ?_) (fun c236 => ?_)
                                    · refine lv_iinc (v := nI (i + 1)) (lv' := [(3, .int (nI (i + 1))), (2, .int (nI (cn + 1))), (0, .ref a), (1, .int w), (4, .int sv), (5, .int nv), (6, .int (nI j))]) hx hb d_Mo_count_247 hl (k := 3) rfl (nI_add i 1) (by decide) rfl (fun ls hl => ?_)
                                      refine lv_goto (tgt := 64) hx hb d_Mo_count_250 (by decide) ?_
                                      exact ih64 (i + 1) (cn + 1) _ _ (by omega) (by omega) (rcP_y (R := fun x => ¬ vaw (rVf rs) lo x) hcn (hnv9.z c176) (hp202.1.z c205)) hG hS ls (lv_sub hl [2, 3, 1, 0] rfl)
                                    · rw [h9] at c236
                                      exact absurd c236 (by decide)
                                  · refine lv_iload_n hx hb d_Mo_count_208 rfl (lv_at hl 1 rfl) ?_
                                    refine lv_bipush (v := 6) hx hb d_Mo_count_209 (by decide) ?_
                                    refine lv_icmp_ne (tgt := 234) hx hb d_Mo_count_211 (by decide) (fun c211 => ?_) (fun c211 => ?_)
                                    · refine lv_iload_n hx hb d_Mo_count_234 rfl (lv_at hl 1 rfl) ?_
                                      refine lv_iconst (v := 4) hx hb d_Mo_count_235 (by decide) ?_
                                      refine lv_icmp_ne (tgt := 247) hx hb d_Mo_count_236 (by decide) (fun c236 => ?_) (fun c236 => ?_)
                                      · refine lv_iinc (v := nI (i + 1)) (lv' := [(3, .int (nI (i + 1))), (0, .ref a), (1, .int w), (2, .int (nI cn)), (4, .int sv), (5, .int nv), (6, .int (nI j))]) hx hb d_Mo_count_247 hl (k := 3) rfl (nI_add i 1) (by decide) rfl (fun ls hl => ?_)
                                        refine lv_goto (tgt := 64) hx hb d_Mo_count_250 (by decide) ?_
                                        exact ih64 (i + 1) cn _ _ (by omega) (by omega) (rcP_n (R := fun x => ¬ vaw (rVf rs) lo x) hcn (Or.inl (fun z => z (hp202.1.nz c205)))) hG hS ls (lv_sub hl [1, 2, 3, 0] rfl)
                                      · rw [h9] at c236
                                        exact absurd c236 (by decide)
                                    · rw [h9] at c211
                                      exact absurd c211 (by decide)
                            · refine lv_goto (tgt := 247) hx hb d_Mo_count_179 (by decide) ?_
                              refine lv_iinc (v := nI (i + 1)) (lv' := [(3, .int (nI (i + 1))), (0, .ref a), (1, .int w), (2, .int (nI cn)), (4, .int sv), (5, .int nv), (6, .int (nI j))]) hx hb d_Mo_count_247 hl (k := 3) rfl (nI_add i 1) (by decide) rfl (fun ls hl => ?_)
                              refine lv_goto (tgt := 64) hx hb d_Mo_count_250 (by decide) ?_
                              exact ih64 (i + 1) cn _ _ (by omega) (by omega) (rcP_n (R := fun x => ¬ vaw (rVf rs) lo x) hcn (Or.inr (hnv9.nz c176))) hG hS ls (lv_sub hl [1, 2, 3, 0] rfl)
                          · rw [h9] at c163
                            exact absurd c163 (by decide)
                        · have b84 : ¬ i ≤ j := fun q => c84 ((nI_leI (a := i) (b := j) (by omega) (by omega)).mpr q)
                          have hjr : j < rs.length := by omega
                          obtain ⟨hr1, ⟨nf, hr2, hr3, hr4, hr5⟩, -⟩ := hRs1 _ (re_mem hjr)
                          have sm := hr4.2
                          refine lv_aload_n hx hb d_Mo_count_87 rfl (lv_at hl 0 rfl) ?_
                          refine zg_get (ci := 11) (C := "ZoneAnswersModel") (T := T_Mo) (N := 21) hx hb hts zi_Mo hown hK hG ra1 rfl 4 (by decide) (hts _ w_1285) (fun _ h9 => h9) rfl d_Mo_count_88 ?_
                          refine lv_iload_n hx hb d_Mo_count_91 rfl (lv_at hl 3 rfl) ?_
                          refine zg_aldq hx hb hK hG 4 rm41 rfl (vp_in_nI (by omega) (by omega)) d_Mo_count_92 ?_
                          refine zr_as (y := fr1 i) (by rw [zi_n _ (by omega)]) ?_
                          refine zr_some (a := rA (re rs i)) (hfr1 i hir) ?_
                          refine zg_get (ci := 12) (C := "ZoneAnswersModel$Rec") (T := T_Re) (N := 5) hx hb hts zi_Re hown hK hG hx1 rfl 0 (by decide) (hts _ w_1265) (fun _ h9 => h9) rfl d_Mo_count_93 ?_
                          refine lv_aload_n hx hb d_Mo_count_96 rfl (lv_at hl 0 rfl) ?_
                          refine zg_get (ci := 11) (C := "ZoneAnswersModel") (T := T_Mo) (N := 21) hx hb hts zi_Mo hown hK hG ra1 rfl 4 (by decide) (hts _ w_1285) (fun _ h9 => h9) rfl d_Mo_count_97 ?_
                          refine lv_iload hx hb d_Mo_count_100 (lv_at hl 6 rfl) ?_
                          refine zg_aldq hx hb hK hG 4 rm41 rfl (vp_in_nI (by omega) (by omega)) d_Mo_count_102 ?_
                          refine zr_as (y := fr1 j) (by rw [zi_n _ (by omega)]) ?_
                          refine zr_some (a := rA (re rs j)) (hfr1 j hjr) ?_
                          refine zg_get (ci := 12) (C := "ZoneAnswersModel$Rec") (T := T_Re) (N := 5) hx hb hts zi_Re hown hK hG hr1 rfl 0 (by decide) (hts _ w_1265) (fun _ h9 => h9) rfl d_Mo_count_103 ?_
                          have hGo106 := hG
                          refine zk_i (va_runS (As := [.ref (rN (re rs i)), .ref (rN (re rs j))]) (rest := []) ⟨hx, hb, hml, hown, hts⟩ (t_Ns_same l E G26 (rN (re rs i)) (np_len (rM (re rs i))) nx hx2 (rN (re rs j)) (np_len (rM (re rs j))) nf hr2 (by omega) (by omega)) (zcS 2 hts w_1405 w_1406 w_33 w_1407 (by decide +kernel) ⟨Nat.le_of_ble_eq_true rfl, Nat.le_of_ble_eq_true rfl⟩) (zc_pre hbase hK hN hQ hG hS) rfl rfl hl.1 rfl (lv_room (Nat.le_of_ble_eq_true rfl)) d_Mo_count_106 ⟨(by decide), (by decide)⟩) hS (fun r106 G106 H locs hp106 hG hS => ?_)
                          have hG : zP E G26 H := hp106.2 ▸ hG
                          have hsame : zb r106 (rM (re rs i) = rM (re rs j)) := hp106.1.iff (zsm_n hx3 hr3 hx4 hr4)
                          refine lv_istore (lv' := [(7, .int r106), (0, .ref a), (1, .int w), (2, .int (nI cn)), (3, .int (nI i)), (4, .int sv), (5, .int nv), (6, .int (nI j))]) hx hb d_Mo_count_109 hl (by decide) rfl (fun ls hl => ?_)
                          refine lv_iload hx hb d_Mo_count_111 (lv_at hl 6 rfl) ?_
                          refine lv_iload hx hb d_Mo_count_113 (lv_at hl 0 rfl) ?_
                          refine lv_ior hx hb d_Mo_count_115 ?_
                          refine lv_istore (lv' := [(5, .int (nv ||| r106)), (7, .int r106), (0, .ref a), (1, .int w), (2, .int (nI cn)), (3, .int (nI i)), (4, .int sv), (6, .int (nI j))]) hx hb d_Mo_count_116 hl (by decide) rfl (fun ls hl => ?_)
                          refine lv_iload hx hb d_Mo_count_118 (lv_at hl 6 rfl) ?_
                          refine lv_iload hx hb d_Mo_count_120 (lv_at hl 1 rfl) ?_
                          refine lv_if_eq (tgt := 151) hx hb d_Mo_count_122 (by decide) (fun c122 => ?_) (fun c122 => ?_)
                          · refine lv_iconst (v := 0) hx hb d_Mo_count_151 (by decide) ?_
                            refine lv_ior hx hb d_Mo_count_152 ?_
                            refine lv_istore (lv' := [(4, .int (sv ||| 0)), (5, .int (nv ||| r106)), (7, .int r106), (0, .ref a), (1, .int w), (2, .int (nI cn)), (3, .int (nI i)), (6, .int (nI j))]) hx hb d_Mo_count_153 hl (by decide) rfl (fun ls hl => ?_)
                            refine lv_iinc (v := nI (j + 1)) (lv' := [(6, .int (nI (j + 1))), (4, .int (sv ||| 0)), (5, .int (nv ||| r106)), (7, .int r106), (0, .ref a), (1, .int w), (2, .int (nI cn)), (3, .int (nI i))]) hx hb d_Mo_count_155 hl (k := 7) rfl (nI_add j 1) (by decide) rfl (fun ls hl => ?_)
                            refine lv_goto (tgt := 81) hx hb d_Mo_count_158 (by decide) ?_
                            exact ih (j + 1) (sv ||| 0) (nv ||| r106) _ _ (by omega) (by omega) (by first | exact (zb_or hsv (zb.f (fun z => hsame.z c122 z.1))).iff ex_s | exact (zb_or hsv (zb.f (fun z => c144 z.2))).iff ex_s | exact (zb_or hsv (zb.t ⟨hsame.nz c122, c144⟩)).iff ex_s) ((zb_or hnv hsame).iff ex_s) hG hS ls (lv_sub hl [4, 5, 6, 7, 1, 2, 0] rfl)
                          · refine lv_aload_n hx hb d_Mo_count_125 rfl (lv_at hl 2 rfl) ?_
                            refine zg_get (ci := 11) (C := "ZoneAnswersModel") (T := T_Mo) (N := 21) hx hb hts zi_Mo hown hK hG ra1 rfl 4 (by decide) (hts _ w_1285) (fun _ h9 => h9) rfl d_Mo_count_126 ?_
                            refine lv_iload_n hx hb d_Mo_count_129 rfl (lv_at hl 5 rfl) ?_
                            refine zg_aldq hx hb hK hG 4 rm41 rfl (vp_in_nI (by omega) (by omega)) d_Mo_count_130 ?_
                            refine zr_as (y := fr1 i) (by rw [zi_n _ (by omega)]) ?_
                            refine zr_some (a := rA (re rs i)) (hfr1 i hir) ?_
                            refine zg_get (ci := 12) (C := "ZoneAnswersModel$Rec") (T := T_Re) (N := 5) hx hb hts zi_Re hown hK hG hx1 rfl 3 (by decide) (hts _ w_1268) (fun _ h9 => h9) rfl d_Mo_count_131 ?_
                            refine lv_aload_n hx hb d_Mo_count_134 rfl (lv_at hl 2 rfl) ?_
                            refine zg_get (ci := 11) (C := "ZoneAnswersModel") (T := T_Mo) (N := 21) hx hb hts zi_Mo hown hK hG ra1 rfl 4 (by decide) (hts _ w_1285) (fun _ h9 => h9) rfl d_Mo_count_135 ?_
                            refine lv_iload hx hb d_Mo_count_138 (lv_at hl 7 rfl) ?_
                            refine zg_aldq hx hb hK hG 4 rm41 rfl (vp_in_nI (by omega) (by omega)) d_Mo_count_140 ?_
                            refine zr_as (y := fr1 j) (by rw [zi_n _ (by omega)]) ?_
                            refine zr_some (a := rA (re rs j)) (hfr1 j hjr) ?_
                            refine zg_get (ci := 12) (C := "ZoneAnswersModel$Rec") (T := T_Re) (N := 5) hx hb hts zi_Re hown hK hG hr1 rfl 3 (by decide) (hts _ w_1268) (fun _ h9 => h9) rfl d_Mo_count_141 ?_
                            refine lv_icmp_ne (tgt := 151) hx hb d_Mo_count_144 (by decide) (fun c144 => ?_) (fun c144 => ?_)
                            · refine lv_iconst (v := 0) hx hb d_Mo_count_151 (by decide) ?_
                              refine lv_ior hx hb d_Mo_count_152 ?_
                              refine lv_istore (lv' := [(4, .int (sv ||| 0)), (5, .int (nv ||| r106)), (7, .int r106), (0, .ref a), (1, .int w), (2, .int (nI cn)), (3, .int (nI i)), (6, .int (nI j))]) hx hb d_Mo_count_153 hl (by decide) rfl (fun ls hl => ?_)
                              refine lv_iinc (v := nI (j + 1)) (lv' := [(6, .int (nI (j + 1))), (4, .int (sv ||| 0)), (5, .int (nv ||| r106)), (7, .int r106), (0, .ref a), (1, .int w), (2, .int (nI cn)), (3, .int (nI i))]) hx hb d_Mo_count_155 hl (k := 7) rfl (nI_add j 1) (by decide) rfl (fun ls hl => ?_)
                              refine lv_goto (tgt := 81) hx hb d_Mo_count_158 (by decide) ?_
                              exact ih (j + 1) (sv ||| 0) (nv ||| r106) _ _ (by omega) (by omega) (by first | exact (zb_or hsv (zb.f (fun z => hsame.z c122 z.1))).iff ex_s | exact (zb_or hsv (zb.f (fun z => c144 z.2))).iff ex_s | exact (zb_or hsv (zb.t ⟨hsame.nz c122, c144⟩)).iff ex_s) ((zb_or hnv hsame).iff ex_s) hG hS ls (lv_sub hl [4, 5, 6, 7, 1, 2, 0] rfl)
                            · refine lv_iconst (v := 1) hx hb d_Mo_count_147 (by decide) ?_
                              refine lv_goto (tgt := 152) hx hb d_Mo_count_148 (by decide) ?_
                              refine lv_ior hx hb d_Mo_count_152 ?_
                              refine lv_istore (lv' := [(4, .int (sv ||| 1)), (5, .int (nv ||| r106)), (7, .int r106), (0, .ref a), (1, .int w), (2, .int (nI cn)), (3, .int (nI i)), (6, .int (nI j))]) hx hb d_Mo_count_153 hl (by decide) rfl (fun ls hl => ?_)
                              refine lv_iinc (v := nI (j + 1)) (lv' := [(6, .int (nI (j + 1))), (4, .int (sv ||| 1)), (5, .int (nv ||| r106)), (7, .int r106), (0, .ref a), (1, .int w), (2, .int (nI cn)), (3, .int (nI i))]) hx hb d_Mo_count_155 hl (k := 7) rfl (nI_add j 1) (by decide) rfl (fun ls hl => ?_)
                              refine lv_goto (tgt := 81) hx hb d_Mo_count_158 (by decide) ?_
                              exact ih (j + 1) (sv ||| 1) (nv ||| r106) _ _ (by omega) (by omega) (by first | exact (zb_or hsv (zb.f (fun z => hsame.z c122 z.1))).iff ex_s | exact (zb_or hsv (zb.f (fun z => c144 z.2))).iff ex_s | exact (zb_or hsv (zb.t ⟨hsame.nz c122, c144⟩)).iff ex_s) ((zb_or hnv hsame).iff ex_s) hG hS ls (lv_sub hl [4, 5, 6, 7, 1, 2, 0] rfl)
                    exact loop81 _ 0 0 0 _ _ (Nat.lt_succ_self _) (Nat.zero_le _) (zb.f (fun ⟨q, z, _⟩ => absurd z (Nat.not_lt_zero q))) (zb.f (fun ⟨q, z, _⟩ => absurd z (Nat.not_lt_zero q))) hG hS ls (lv_sub hl [3, 4, 5, 6, 2, 1, 0] rfl)
              exact loop64 _ 0 0 _ _ (Nat.lt_succ_self _) (Nat.zero_le _) (cs_0 (fun x ⟨⟨q, z, _⟩, _⟩ => absurd z (Nat.not_lt_zero q))) hG hS ls (lv_sub hl [2, 3, 1, 0] rfl)
            · rw [h9] at c55
              exact absurd c55 (by decide)
        · rw [h9] at c27
          exact absurd c27 (by decide)
      · rw [h9] at c16
        exact absurd c16 (by decide)
    · rw [h9] at c6
      exact absurd c6 (by decide)
  · refine lv_aload_n hx hb d_Mo_count_0 rfl (lv_at hl 0 rfl) ?_
    refine lv_iconst (v := 0) hx hb d_Mo_count_1 (by decide) ?_
    refine zg_put (ci := 11) (v := .int 0) (ty := .int) (C := "ZoneAnswersModel") (T := T_Mo) (N := 21) hx hb hts zi_Mo t_Mo t_Mo_ok n_Mo hown hK hG hS ra rfl 0 (by decide) (hts _ w_1281) (fun _ h9 => h9) rfl (by decide +kernel) rfl rfl (Nat.le_of_ble_eq_true rfl) d_Mo_count_2 (fun H locs hG hS => ?_)
    obtain ⟨G31, eG31⟩ : ∃ z : zg_G, z = zg_up G a (.inr (11, [.int 0, .ref (h 1), .int (nI tp.length), .ref (h 3), .ref (h 4), .int (nI rs.length), .ref (h 6), .ref (h 7), .ref (h 8), .ref (h 9), .ref (h 10), .ref (h 11), .ref (h 12), .int (nI (wln Wz)), .int co, .ref (h 15), .int (nI (rPw Wz + ([] : List Int32).length)), .int se, .ref (h 18), v19, v20])) := ⟨_, rfl⟩
    have hG : zP E G31 H := by rw [eG31]; exact hG
    have k32 : G31 a = some (.inr (11, [.int 0, .ref (h 1), .int (nI tp.length), .ref (h 3), .ref (h 4), .int (nI rs.length), .ref (h 6), .ref (h 7), .ref (h 8), .ref (h 9), .ref (h 10), .ref (h 11), .ref (h 12), .int (nI (wln Wz)), .int co, .ref (h 15), .int (nI (rPw Wz + ([] : List Int32).length)), .int se, .ref (h 18), v19, v20])) := by rw [eG31]; exact zg_up_self _ _ _
    have k33 : G31 (h 4) = some (.inl (E.2.1 4, 2000, .inr (.inr (.inr (.inr fr))))) := by rw [eG31, zg_up_ne (zg_ne rm4 ra (by intro h; simp at h))]; exact rm4
    have k34 : G31 (h 3) = some (.inl (E.2.1 0, np_len lo, .inl fo)) := by rw [eG31, zg_up_ne (zg_ne rn1 ra (by intro h; simp at h))]; exact rn1
    have k35 : G31 (h 1) = some (.inl (E.2.1 0, 65536, .inl fm)) := by rw [eG31, zg_up_ne (zg_ne rt1 ra (by intro h; simp at h))]; exact rt1
    obtain ⟨hst1, hs1⟩ := rSt.set hst 0 co se v19 v20 ra
    rw [← eG31] at hst1 hs1
    have hf1 := hs1
    obtain ⟨h1, eh01, eh11, eh21, hc1⟩ := id hst1
    obtain ⟨ra1, rb1, ⟨fm1, rt11, rt21, rt31, rt41⟩, rtl1, ⟨fo1, rn11, rn21, rn31, rn41, rn51⟩, rr1, rg1, ras1⟩ := id hc1
    rw [eh01] at ra1
    obtain ⟨⟨fr1, rm41, hfr1⟩, hn21, hRs1⟩ := id rr1.1
    have hgd := hst1.gd
    refine lv_iload_n hx hb d_Mo_count_5 rfl (lv_at hl 1 rfl) ?_
    refine lv_if_ne (tgt := 14) hx hb d_Mo_count_6 (by decide) (fun c6 => ?_) (fun c6 => ?_)
    · refine lv_iload_n hx hb d_Mo_count_14 rfl (lv_at hl 1 rfl) ?_
      refine lv_iconst (v := 1) hx hb d_Mo_count_15 (by decide) ?_
      refine lv_icmp_ne (tgt := 24) hx hb d_Mo_count_16 (by decide) (fun c16 => ?_) (fun c16 => ?_)
      · refine lv_iload_n hx hb d_Mo_count_24 rfl (lv_at hl 1 rfl) ?_
        refine lv_bipush (v := 7) hx hb d_Mo_count_25 (by decide) ?_
        refine lv_icmp_ne (tgt := 48) hx hb d_Mo_count_27 (by decide) (fun c27 => ?_) (fun c27 => ?_)
        · refine lv_iload_n hx hb d_Mo_count_48 rfl (lv_at hl 1 rfl) ?_
          refine lv_if_lt (tgt := 58) hx hb d_Mo_count_49 (by decide) (fun c49 => ?_) (fun c49 => ?_)
          · rw [h9] at c49
            exact absurd c49 (by decide)
          · refine lv_iload_n hx hb d_Mo_count_52 rfl (lv_at hl 1 rfl) ?_
            refine lv_bipush (v := 7) hx hb d_Mo_count_53 (by decide) ?_
            refine lv_icmp_le (tgt := 60) hx hb d_Mo_count_55 (by decide) (fun c55 => ?_) (fun c55 => ?_)
            · refine lv_iconst (v := 0) hx hb d_Mo_count_60 (by decide) ?_
              refine zi_as (y := nI 0) (nI_0.symm) ?_
              refine lv_istore_n (lv' := [(2, .int (nI 0)), (0, .ref a), (1, .int w)]) hx hb d_Mo_count_61 rfl hl (by decide) rfl (fun ls hl => ?_)
              refine lv_iconst (v := 0) hx hb d_Mo_count_62 (by decide) ?_
              refine zi_as (y := nI 0) (nI_0.symm) ?_
              refine lv_istore_n (lv' := [(3, .int (nI 0)), (2, .int (nI 0)), (0, .ref a), (1, .int w)]) hx hb d_Mo_count_63 rfl hl (by decide) rfl (fun ls hl => ?_)
              have loop64 : ∀ (N : Nat) (i : Nat) (cn : Nat) (H : Heap) (locs : List Loc), (rs.length - i) < N → (i ≤ rs.length) → (isCnt (fun x : np_N => (∃ q, q < i ∧ rM (re rs q) = x) ∧ zcut lo rs x) cn) → zP E G31 H → zg_S (zc_b E) s.heap H locs → ∀ (ls : Array Slot), lv_has ls 8 [(0, .ref a), (1, .int w), (2, .int (nI cn)), (3, .int (nI i))] → W p l e rm_Mo_count s m args below meth c H locs 0 0 Q (F0 m 64 ls []) := by
                intro N
                induction N with
                | zero =>
                  intro i cn H locs hlt
                  exact absurd hlt (Nat.not_lt_zero _)
                | succ N ih =>
                  intro i cn H locs hlt hi hcn hG hS ls hl
                  have ih64 := ih
                  refine lv_iload_n hx hb d_Mo_count_64 rfl (lv_at hl 3 rfl) ?_
                  refine lv_aload_n hx hb d_Mo_count_65 rfl (lv_at hl 0 rfl) ?_
                  refine zg_get (ci := 11) (C := "ZoneAnswersModel") (T := T_Mo) (N := 21) hx hb hts zi_Mo hown hK hG ra1 rfl 5 (by decide) (hts _ w_1286) (fun _ h9 => h9) rfl d_Mo_count_66 ?_
                  refine lv_icmp_ge (tgt := 253) hx hb d_Mo_count_69 (by decide) (fun c69 => ?_) (fun c69 => ?_)
                  · have b69 : rs.length ≤ i := (nI_leI (a := rs.length) (b := i) (by omega) (by omega)).mp c69
                    refine lv_iload_n hx hb d_Mo_count_253 rfl (lv_at hl 2 rfl) ?_
                    exact hret _ _ _ _ _ _ _ _ _ hr (rfl) (⟨Or.inr (Or.inr (Or.inr (Or.inr (Or.inr (Or.inr (Or.inl ⟨h9, cn, rce6 (by rw [show i = rs.length by omega] at hcn; exact hcn), rfl⟩)))))), hst1.o hse, hf1⟩) hG hS (by decide) (by decide) d_Mo_count_254
                  · have b69 : ¬ rs.length ≤ i := fun q => c69 ((nI_leI (a := rs.length) (b := i) (by omega) (by omega)).mpr q)
                    have hir : i < rs.length := by omega
                    obtain ⟨hx1, ⟨nx, hx2, hx3, hx4, hx5⟩, -⟩ := hRs1 _ (re_mem hir)
                    have smx := hx4.2
                    have hni := (hst1.nm hir).1
                    refine lv_iconst (v := 0) hx hb d_Mo_count_72 (by decide) ?_
                    refine lv_istore (lv' := [(4, .int 0), (0, .ref a), (1, .int w), (2, .int (nI cn)), (3, .int (nI i))]) hx hb d_Mo_count_73 hl (by decide) rfl (fun ls hl => ?_)
                    refine lv_iconst (v := 0) hx hb d_Mo_count_75 (by decide) ?_
                    refine lv_istore (lv' := [(5, .int 0), (4, .int 0), (0, .ref a), (1, .int w), (2, .int (nI cn)), (3, .int (nI i))]) hx hb d_Mo_count_76 hl (by decide) rfl (fun ls hl => ?_)
                    refine lv_iconst (v := 0) hx hb d_Mo_count_78 (by decide) ?_
                    refine zi_as (y := nI 0) (nI_0.symm) ?_
                    refine lv_istore (lv' := [(6, .int (nI 0)), (5, .int 0), (4, .int 0), (0, .ref a), (1, .int w), (2, .int (nI cn)), (3, .int (nI i))]) hx hb d_Mo_count_79 hl (by decide) rfl (fun ls hl => ?_)
                    have loop81 : ∀ (N : Nat) (j : Nat) (sv : Int32) (nv : Int32) (H : Heap) (locs : List Loc), (i - j) < N → (j ≤ i) → (zb sv (∃ q, q < j ∧ rM (re rs i) = rM (re rs q) ∧ rT (re rs i) = rT (re rs q))) → (zb nv (∃ q, q < j ∧ rM (re rs i) = rM (re rs q))) → zP E G31 H → zg_S (zc_b E) s.heap H locs → ∀ (ls : Array Slot), lv_has ls 8 [(0, .ref a), (1, .int w), (2, .int (nI cn)), (3, .int (nI i)), (4, .int sv), (5, .int nv), (6, .int (nI j))] → W p l e rm_Mo_count s m args below meth c H locs 0 0 Q (F0 m 81 ls []) := by
                      intro N
                      induction N with
                      | zero =>
                        intro j sv nv H locs hlt
                        exact absurd hlt (Nat.not_lt_zero _)
                      | succ N ih =>
                        intro j sv nv H locs hlt hji hsv hnv hG hS ls hl
                        refine lv_iload hx hb d_Mo_count_81 (lv_at hl 6 rfl) ?_
                        refine lv_iload_n hx hb d_Mo_count_83 rfl (lv_at hl 3 rfl) ?_
                        refine lv_icmp_ge (tgt := 161) hx hb d_Mo_count_84 (by decide) (fun c84 => ?_) (fun c84 => ?_)
                        · have b84 : i ≤ j := (nI_leI (a := i) (b := j) (by omega) (by omega)).mp c84
                          have hjE : j = i := by omega
                          have hsv9 : zb sv (∃ q, q < i ∧ rM (re rs i) = rM (re rs q) ∧ rT (re rs i) = rT (re rs q)) := by have q := hsv; rw [hjE] at q; exact q
                          have hnv9 : zb nv (∃ q, q < i ∧ rM (re rs i) = rM (re rs q)) := by have q := hnv; rw [hjE] at q; exact q
                          refine lv_iload_n hx hb d_Mo_count_161 rfl (lv_at hl 1 rfl) ?_
                          refine lv_iconst (v := 2) hx hb d_Mo_count_162 (by decide) ?_
                          refine lv_icmp_ne (tgt := 174) hx hb d_Mo_count_163 (by decide) (fun c163 => ?_) (fun c163 => ?_)
                          · refine lv_iload hx hb d_Mo_count_174 (lv_at hl 5 rfl) ?_
                            refine lv_if_eq (tgt := 182) hx hb d_Mo_count_176 (by decide) (fun c176 => ?_) (fun c176 => ?_)
                            · refine lv_iload_n hx hb d_Mo_count_182 rfl (lv_at hl 1 rfl) ?_
                              refine lv_iconst (v := 3) hx hb d_Mo_count_183 (by decide) ?_
                              refine lv_icmp_eq (tgt := 231) hx hb d_Mo_count_184 (by decide) (fun c184 => ?_) (fun c184 => ?_)
                              · rw [h9] at c184
                                exact absurd c184 (by decide)
                              · refine lv_iload_n hx hb d_Mo_count_187 rfl (lv_at hl 1 rfl) ?_
                                refine lv_iconst (v := 5) hx hb d_Mo_count_188 (by decide) ?_
                                refine lv_icmp_ne (tgt := 208) hx hb d_Mo_count_189 (by decide) (fun c189 => ?_) (fun c189 => ?_)
                                · refine lv_iload_n hx hb d_Mo_count_208 rfl (lv_at hl 1 rfl) ?_
                                  refine lv_bipush (v := 6) hx hb d_Mo_count_209 (by decide) ?_
                                  refine lv_icmp_ne (tgt := 234) hx hb d_Mo_count_211 (by decide) (fun c211 => ?_) (fun c211 => ?_)
                                  · rw [h9] at c211
                                    exact absurd c211 (by decide)
                                  · refine lv_aload_n hx hb d_Mo_count_214 rfl (lv_at hl 0 rfl) ?_
                                    refine lv_aload_n hx hb d_Mo_count_215 rfl (lv_at hl 0 rfl) ?_
                                    refine zg_get (ci := 11) (C := "ZoneAnswersModel") (T := T_Mo) (N := 21) hx hb hts zi_Mo hown hK hG ra1 rfl 4 (by decide) (hts _ w_1285) (fun _ h9 => h9) rfl d_Mo_count_216 ?_
                                    refine lv_iload_n hx hb d_Mo_count_219 rfl (lv_at hl 3 rfl) ?_
                                    refine zg_aldq hx hb hK hG 4 rm41 rfl (vp_in_nI (by omega) (by omega)) d_Mo_count_220 ?_
                                    refine zr_as (y := fr1 i) (by rw [zi_n _ (by omega)]) ?_
                                    refine zr_some (a := rA (re rs i)) (hfr1 i hir) ?_
                                    refine zg_get (ci := 12) (C := "ZoneAnswersModel$Rec") (T := T_Re) (N := 5) hx hb hts zi_Re hown hK hG hx1 rfl 0 (by decide) (hts _ w_1265) (fun _ h9 => h9) rfl d_Mo_count_221 ?_
                                    refine lv_iconst (v := 0) hx hb d_Mo_count_224 (by decide) ?_
                                    refine zi_as (y := nI (np_pos (rM (re rs i)) 0)) (by rw [np_pos0]; rfl) ?_
                                    refine zk_i (va_runV (As := [.ref (rN (re rs i)), .int (nI (np_pos (rM (re rs i)) 0))]) (rest := []) ⟨hx, hb, hml, hown, hts⟩ (t_Mo_cut_s l hst1 0 (rN (re rs i)) (rM (re rs i)) hni (Nat.zero_le _)) (zcV 2 hts w_1467 w_1469 wp_38 w_30 w_1470 (by decide +kernel) ⟨Nat.le_of_ble_eq_true rfl, Nat.le_of_ble_eq_true rfl⟩) (zc_preV hbase hK hN hQ hG hS ra1 rfl) rfl rfl hl.1 rfl (lv_room (Nat.le_of_ble_eq_true rfl)) d_Mo_count_225 ⟨(by decide), (by decide)⟩) hS (fun r225 G225 H locs hp225 hG hS => ?_)
                                    have hG : zP E G31 H := hp225.2 ▸ hG
                                    refine lv_if_eq (tgt := 234) hx hb d_Mo_count_228 (by decide) (fun c228 => ?_) (fun c228 => ?_)
                                    · refine lv_iload_n hx hb d_Mo_count_234 rfl (lv_at hl 1 rfl) ?_
                                      refine lv_iconst (v := 4) hx hb d_Mo_count_235 (by decide) ?_
                                      refine lv_icmp_ne (tgt := 247) hx hb d_Mo_count_236 (by decide) (fun c236 => ?_) (fun c236 => ?_)
                                      · refine lv_iinc (v := nI (i + 1)) (lv' := [(3, .int (nI (i + 1))), (0, .ref a), (1, .int w), (2, .int (nI cn)), (4, .int sv), (5, .int nv), (6, .int (nI j))]) hx hb d_Mo_count_247 hl (k := 3) rfl (nI_add i 1) (by decide) rfl (fun ls hl => ?_)
                                        refine lv_goto (tgt := 64) hx hb d_Mo_count_250 (by decide) ?_
                                        exact ih64 (i + 1) cn _ _ (by omega) (by omega) (rcP_n (R := fun x => zcut lo rs x) hcn (Or.inl (hp225.1.z c228))) hG hS ls (lv_sub hl [1, 2, 3, 0] rfl)
                                      · rw [h9] at c236
                                        exact absurd c236 (by decide)
                                    · refine lv_iinc (v := nI (cn + 1)) (lv' := [(2, .int (nI (cn + 1))), (0, .ref a), (1, .int w), (3, .int (nI i)), (4, .int sv), (5, .int nv), (6, .int (nI j))]) hx hb d_Mo_count_231 hl (k := 2) rfl (nI_add cn 1) (by decide) rfl (fun ls hl => ?_)
                                      refine lv_iload_n hx hb d_Mo_count_234 rfl (lv_at hl 2 rfl) ?_
                                      refine lv_iconst (v := 4) hx hb d_Mo_count_235 (by decide) ?_
                                      refine lv_icmp_ne (tgt := 247) hx hb d_Mo_count_236 (by decide) (fun c236 => ?_) (fun c236 => ?_)
                                      · refine lv_iinc (v := nI (i + 1)) (lv' := [(3, .int (nI (i + 1))), (2, .int (nI (cn + 1))), (0, .ref a), (1, .int w), (4, .int sv), (5, .int nv), (6, .int (nI j))]) hx hb d_Mo_count_247 hl (k := 3) rfl (nI_add i 1) (by decide) rfl (fun ls hl => ?_)
                                        refine lv_goto (tgt := 64) hx hb d_Mo_count_250 (by decide) ?_
                                        exact ih64 (i + 1) (cn + 1) _ _ (by omega) (by omega) (rcP_y (R := fun x => zcut lo rs x) hcn (hnv9.z c176) (hp225.1.nz c228)) hG hS ls (lv_sub hl [2, 3, 1, 0] rfl)
                                      · rw [h9] at c236
                                        exact absurd c236 (by decide)
                                · rw [h9] at c189
                                  exact absurd c189 (by decide)
                            · refine lv_goto (tgt := 247) hx hb d_Mo_count_179 (by decide) ?_
                              refine lv_iinc (v := nI (i + 1)) (lv' := [(3, .int (nI (i + 1))), (0, .ref a), (1, .int w), (2, .int (nI cn)), (4, .int sv), (5, .int nv), (6, .int (nI j))]) hx hb d_Mo_count_247 hl (k := 3) rfl (nI_add i 1) (by decide) rfl (fun ls hl => ?_)
                              refine lv_goto (tgt := 64) hx hb d_Mo_count_250 (by decide) ?_
                              exact ih64 (i + 1) cn _ _ (by omega) (by omega) (rcP_n (R := fun x => zcut lo rs x) hcn (Or.inr (hnv9.nz c176))) hG hS ls (lv_sub hl [1, 2, 3, 0] rfl)
                          · rw [h9] at c163
                            exact absurd c163 (by decide)
                        · have b84 : ¬ i ≤ j := fun q => c84 ((nI_leI (a := i) (b := j) (by omega) (by omega)).mpr q)
                          have hjr : j < rs.length := by omega
                          obtain ⟨hr1, ⟨nf, hr2, hr3, hr4, hr5⟩, -⟩ := hRs1 _ (re_mem hjr)
                          have sm := hr4.2
                          refine lv_aload_n hx hb d_Mo_count_87 rfl (lv_at hl 0 rfl) ?_
                          refine zg_get (ci := 11) (C := "ZoneAnswersModel") (T := T_Mo) (N := 21) hx hb hts zi_Mo hown hK hG ra1 rfl 4 (by decide) (hts _ w_1285) (fun _ h9 => h9) rfl d_Mo_count_88 ?_
                          refine lv_iload_n hx hb d_Mo_count_91 rfl (lv_at hl 3 rfl) ?_
                          refine zg_aldq hx hb hK hG 4 rm41 rfl (vp_in_nI (by omega) (by omega)) d_Mo_count_92 ?_
                          refine zr_as (y := fr1 i) (by rw [zi_n _ (by omega)]) ?_
                          refine zr_some (a := rA (re rs i)) (hfr1 i hir) ?_
                          refine zg_get (ci := 12) (C := "ZoneAnswersModel$Rec") (T := T_Re) (N := 5) hx hb hts zi_Re hown hK hG hx1 rfl 0 (by decide) (hts _ w_1265) (fun _ h9 => h9) rfl d_Mo_count_93 ?_
                          refine lv_aload_n hx hb d_Mo_count_96 rfl (lv_at hl 0 rfl) ?_
                          refine zg_get (ci := 11) (C := "ZoneAnswersModel") (T := T_Mo) (N := 21) hx hb hts zi_Mo hown hK hG ra1 rfl 4 (by decide) (hts _ w_1285) (fun _ h9 => h9) rfl d_Mo_count_97 ?_
                          refine lv_iload hx hb d_Mo_count_100 (lv_at hl 6 rfl) ?_
                          refine zg_aldq hx hb hK hG 4 rm41 rfl (vp_in_nI (by omega) (by omega)) d_Mo_count_102 ?_
                          refine zr_as (y := fr1 j) (by rw [zi_n _ (by omega)]) ?_
                          refine zr_some (a := rA (re rs j)) (hfr1 j hjr) ?_
                          refine zg_get (ci := 12) (C := "ZoneAnswersModel$Rec") (T := T_Re) (N := 5) hx hb hts zi_Re hown hK hG hr1 rfl 0 (by decide) (hts _ w_1265) (fun _ h9 => h9) rfl d_Mo_count_103 ?_
                          have hGo106 := hG
                          refine zk_i (va_runS (As := [.ref (rN (re rs i)), .ref (rN (re rs j))]) (rest := []) ⟨hx, hb, hml, hown, hts⟩ (t_Ns_same l E G31 (rN (re rs i)) (np_len (rM (re rs i))) nx hx2 (rN (re rs j)) (np_len (rM (re rs j))) nf hr2 (by omega) (by omega)) (zcS 2 hts w_1405 w_1406 w_33 w_1407 (by decide +kernel) ⟨Nat.le_of_ble_eq_true rfl, Nat.le_of_ble_eq_true rfl⟩) (zc_pre hbase hK hN hQ hG hS) rfl rfl hl.1 rfl (lv_room (Nat.le_of_ble_eq_true rfl)) d_Mo_count_106 ⟨(by decide), (by decide)⟩) hS (fun r106 G106 H locs hp106 hG hS => ?_)
                          have hG : zP E G31 H := hp106.2 ▸ hG
                          have hsame : zb r106 (rM (re rs i) = rM (re rs j)) := hp106.1.iff (zsm_n hx3 hr3 hx4 hr4)
                          refine lv_istore (lv' := [(7, .int r106), (0, .ref a), (1, .int w), (2, .int (nI cn)), (3, .int (nI i)), (4, .int sv), (5, .int nv), (6, .int (nI j))]) hx hb d_Mo_count_109 hl (by decide) rfl (fun ls hl => ?_)
                          refine lv_iload hx hb d_Mo_count_111 (lv_at hl 6 rfl) ?_
                          refine lv_iload hx hb d_Mo_count_113 (lv_at hl 0 rfl) ?_
                          refine lv_ior hx hb d_Mo_count_115 ?_
                          refine lv_istore (lv' := [(5, .int (nv ||| r106)), (7, .int r106), (0, .ref a), (1, .int w), (2, .int (nI cn)), (3, .int (nI i)), (4, .int sv), (6, .int (nI j))]) hx hb d_Mo_count_116 hl (by decide) rfl (fun ls hl => ?_)
                          refine lv_iload hx hb d_Mo_count_118 (lv_at hl 6 rfl) ?_
                          refine lv_iload hx hb d_Mo_count_120 (lv_at hl 1 rfl) ?_
                          refine lv_if_eq (tgt := 151) hx hb d_Mo_count_122 (by decide) (fun c122 => ?_) (fun c122 => ?_)
                          · refine lv_iconst (v := 0) hx hb d_Mo_count_151 (by decide) ?_
                            refine lv_ior hx hb d_Mo_count_152 ?_
                            refine lv_istore (lv' := [(4, .int (sv ||| 0)), (5, .int (nv ||| r106)), (7, .int r106), (0, .ref a), (1, .int w), (2, .int (nI cn)), (3, .int (nI i)), (6, .int (nI j))]) hx hb d_Mo_count_153 hl (by decide) rfl (fun ls hl => ?_)
                            refine lv_iinc (v := nI (j + 1)) (lv' := [(6, .int (nI (j + 1))), (4, .int (sv ||| 0)), (5, .int (nv ||| r106)), (7, .int r106), (0, .ref a), (1, .int w), (2, .int (nI cn)), (3, .int (nI i))]) hx hb d_Mo_count_155 hl (k := 7) rfl (nI_add j 1) (by decide) rfl (fun ls hl => ?_)
                            refine lv_goto (tgt := 81) hx hb d_Mo_count_158 (by decide) ?_
                            exact ih (j + 1) (sv ||| 0) (nv ||| r106) _ _ (by omega) (by omega) (by first | exact (zb_or hsv (zb.f (fun z => hsame.z c122 z.1))).iff ex_s | exact (zb_or hsv (zb.f (fun z => c144 z.2))).iff ex_s | exact (zb_or hsv (zb.t ⟨hsame.nz c122, c144⟩)).iff ex_s) ((zb_or hnv hsame).iff ex_s) hG hS ls (lv_sub hl [4, 5, 6, 7, 1, 2, 0] rfl)
                          · refine lv_aload_n hx hb d_Mo_count_125 rfl (lv_at hl 2 rfl) ?_
                            refine zg_get (ci := 11) (C := "ZoneAnswersModel") (T := T_Mo) (N := 21) hx hb hts zi_Mo hown hK hG ra1 rfl 4 (by decide) (hts _ w_1285) (fun _ h9 => h9) rfl d_Mo_count_126 ?_
                            refine lv_iload_n hx hb d_Mo_count_129 rfl (lv_at hl 5 rfl) ?_
                            refine zg_aldq hx hb hK hG 4 rm41 rfl (vp_in_nI (by omega) (by omega)) d_Mo_count_130 ?_
                            refine zr_as (y := fr1 i) (by rw [zi_n _ (by omega)]) ?_
                            refine zr_some (a := rA (re rs i)) (hfr1 i hir) ?_
                            refine zg_get (ci := 12) (C := "ZoneAnswersModel$Rec") (T := T_Re) (N := 5) hx hb hts zi_Re hown hK hG hx1 rfl 3 (by decide) (hts _ w_1268) (fun _ h9 => h9) rfl d_Mo_count_131 ?_
                            refine lv_aload_n hx hb d_Mo_count_134 rfl (lv_at hl 2 rfl) ?_
                            refine zg_get (ci := 11) (C := "ZoneAnswersModel") (T := T_Mo) (N := 21) hx hb hts zi_Mo hown hK hG ra1 rfl 4 (by decide) (hts _ w_1285) (fun _ h9 => h9) rfl d_Mo_count_135 ?_
                            refine lv_iload hx hb d_Mo_count_138 (lv_at hl 7 rfl) ?_
                            refine zg_aldq hx hb hK hG 4 rm41 rfl (vp_in_nI (by omega) (by omega)) d_Mo_count_140 ?_
                            refine zr_as (y := fr1 j) (by rw [zi_n _ (by omega)]) ?_
                            refine zr_some (a := rA (re rs j)) (hfr1 j hjr) ?_
                            refine zg_get (ci := 12) (C := "ZoneAnswersModel$Rec") (T := T_Re) (N := 5) hx hb hts zi_Re hown hK hG hr1 rfl 3 (by decide) (hts _ w_1268) (fun _ h9 => h9) rfl d_Mo_count_141 ?_
                            refine lv_icmp_ne (tgt := 151) hx hb d_Mo_count_144 (by decide) (fun c144 => ?_) (fun c144 => ?_)
                            · refine lv_iconst (v := 0) hx hb d_Mo_count_151 (by decide) ?_
                              refine lv_ior hx hb d_Mo_count_152 ?_
                              refine lv_istore (lv' := [(4, .int (sv ||| 0)), (5, .int (nv ||| r106)), (7, .int r106), (0, .ref a), (1, .int w), (2, .int (nI cn)), (3, .int (nI i)), (6, .int (nI j))]) hx hb d_Mo_count_153 hl (by decide) rfl (fun ls hl => ?_)
                              refine lv_iinc (v := nI (j + 1)) (lv' := [(6, .int (nI (j + 1))), (4, .int (sv ||| 0)), (5, .int (nv ||| r106)), (7, .int r106), (0, .ref a), (1, .int w), (2, .int (nI cn)), (3, .int (nI i))]) hx hb d_Mo_count_155 hl (k := 7) rfl (nI_add j 1) (by decide) rfl (fun ls hl => ?_)
                              refine lv_goto (tgt := 81) hx hb d_Mo_count_158 (by decide) ?_
                              exact ih (j + 1) (sv ||| 0) (nv ||| r106) _ _ (by omega) (by omega) (by first | exact (zb_or hsv (zb.f (fun z => hsame.z c122 z.1))).iff ex_s | exact (zb_or hsv (zb.f (fun z => c144 z.2))).iff ex_s | exact (zb_or hsv (zb.t ⟨hsame.nz c122, c144⟩)).iff ex_s) ((zb_or hnv hsame).iff ex_s) hG hS ls (lv_sub hl [4, 5, 6, 7, 1, 2, 0] rfl)
                            · refine lv_iconst (v := 1) hx hb d_Mo_count_147 (by decide) ?_
                              refine lv_goto (tgt := 152) hx hb d_Mo_count_148 (by decide) ?_
                              refine lv_ior hx hb d_Mo_count_152 ?_
                              refine lv_istore (lv' := [(4, .int (sv ||| 1)), (5, .int (nv ||| r106)), (7, .int r106), (0, .ref a), (1, .int w), (2, .int (nI cn)), (3, .int (nI i)), (6, .int (nI j))]) hx hb d_Mo_count_153 hl (by decide) rfl (fun ls hl => ?_)
                              refine lv_iinc (v := nI (j + 1)) (lv' := [(6, .int (nI (j + 1))), (4, .int (sv ||| 1)), (5, .int (nv ||| r106)), (7, .int r106), (0, .ref a), (1, .int w), (2, .int (nI cn)), (3, .int (nI i))]) hx hb d_Mo_count_155 hl (k := 7) rfl (nI_add j 1) (by decide) rfl (fun ls hl => ?_)
                              refine lv_goto (tgt := 81) hx hb d_Mo_count_158 (by decide) ?_
                              exact ih (j + 1) (sv ||| 1) (nv ||| r106) _ _ (by omega) (by omega) (by first | exact (zb_or hsv (zb.f (fun z => hsame.z c122 z.1))).iff ex_s | exact (zb_or hsv (zb.f (fun z => c144 z.2))).iff ex_s | exact (zb_or hsv (zb.t ⟨hsame.nz c122, c144⟩)).iff ex_s) ((zb_or hnv hsame).iff ex_s) hG hS ls (lv_sub hl [4, 5, 6, 7, 1, 2, 0] rfl)
                    exact loop81 _ 0 0 0 _ _ (Nat.lt_succ_self _) (Nat.zero_le _) (zb.f (fun ⟨q, z, _⟩ => absurd z (Nat.not_lt_zero q))) (zb.f (fun ⟨q, z, _⟩ => absurd z (Nat.not_lt_zero q))) hG hS ls (lv_sub hl [3, 4, 5, 6, 2, 1, 0] rfl)
              exact loop64 _ 0 0 _ _ (Nat.lt_succ_self _) (Nat.zero_le _) (cs_0 (fun x ⟨⟨q, z, _⟩, _⟩ => absurd z (Nat.not_lt_zero q))) hG hS ls (lv_sub hl [2, 3, 1, 0] rfl)
            · rw [h9] at c55
              exact absurd c55 (by decide)
        · rw [h9] at c27
          exact absurd c27 (by decide)
      · rw [h9] at c16
        exact absurd c16 (by decide)
    · rw [h9] at c6
      exact absurd c6 (by decide)
  · refine lv_aload_n hx hb d_Mo_count_0 rfl (lv_at hl 0 rfl) ?_
    refine lv_iconst (v := 0) hx hb d_Mo_count_1 (by decide) ?_
    refine zg_put (ci := 11) (v := .int 0) (ty := .int) (C := "ZoneAnswersModel") (T := T_Mo) (N := 21) hx hb hts zi_Mo t_Mo t_Mo_ok n_Mo hown hK hG hS ra rfl 0 (by decide) (hts _ w_1281) (fun _ h9 => h9) rfl (by decide +kernel) rfl rfl (Nat.le_of_ble_eq_true rfl) d_Mo_count_2 (fun H locs hG hS => ?_)
    obtain ⟨G36, eG36⟩ : ∃ z : zg_G, z = zg_up G a (.inr (11, [.int 0, .ref (h 1), .int (nI tp.length), .ref (h 3), .ref (h 4), .int (nI rs.length), .ref (h 6), .ref (h 7), .ref (h 8), .ref (h 9), .ref (h 10), .ref (h 11), .ref (h 12), .int (nI (wln Wz)), .int co, .ref (h 15), .int (nI (rPw Wz + ([] : List Int32).length)), .int se, .ref (h 18), v19, v20])) := ⟨_, rfl⟩
    have hG : zP E G36 H := by rw [eG36]; exact hG
    have k37 : G36 a = some (.inr (11, [.int 0, .ref (h 1), .int (nI tp.length), .ref (h 3), .ref (h 4), .int (nI rs.length), .ref (h 6), .ref (h 7), .ref (h 8), .ref (h 9), .ref (h 10), .ref (h 11), .ref (h 12), .int (nI (wln Wz)), .int co, .ref (h 15), .int (nI (rPw Wz + ([] : List Int32).length)), .int se, .ref (h 18), v19, v20])) := by rw [eG36]; exact zg_up_self _ _ _
    have k38 : G36 (h 4) = some (.inl (E.2.1 4, 2000, .inr (.inr (.inr (.inr fr))))) := by rw [eG36, zg_up_ne (zg_ne rm4 ra (by intro h; simp at h))]; exact rm4
    have k39 : G36 (h 3) = some (.inl (E.2.1 0, np_len lo, .inl fo)) := by rw [eG36, zg_up_ne (zg_ne rn1 ra (by intro h; simp at h))]; exact rn1
    have k40 : G36 (h 1) = some (.inl (E.2.1 0, 65536, .inl fm)) := by rw [eG36, zg_up_ne (zg_ne rt1 ra (by intro h; simp at h))]; exact rt1
    obtain ⟨hst1, hs1⟩ := rSt.set hst 0 co se v19 v20 ra
    rw [← eG36] at hst1 hs1
    have hf1 := hs1
    obtain ⟨h1, eh01, eh11, eh21, hc1⟩ := id hst1
    obtain ⟨ra1, rb1, ⟨fm1, rt11, rt21, rt31, rt41⟩, rtl1, ⟨fo1, rn11, rn21, rn31, rn41, rn51⟩, rr1, rg1, ras1⟩ := id hc1
    rw [eh01] at ra1
    obtain ⟨⟨fr1, rm41, hfr1⟩, hn21, hRs1⟩ := id rr1.1
    have hgd := hst1.gd
    have hpos := hgd.1
    obtain ⟨hx1, ⟨nx, hx2, hx3, hx4, hx5⟩, df, hx6, hx7, hx8⟩ := hRs1 _ (re_mem hpos)
    have hBl := (hgd.2.2.2.2.2.2 _ (re_mem hpos)).2.2.2.2.2.1
    obtain ⟨x1, x2, hsoa⟩ := hgd.2.2.2.1
    have hsl := hsoa.2.2
    refine lv_iload_n hx hb d_Mo_count_5 rfl (lv_at hl 1 rfl) ?_
    refine lv_if_ne (tgt := 14) hx hb d_Mo_count_6 (by decide) (fun c6 => ?_) (fun c6 => ?_)
    · refine lv_iload_n hx hb d_Mo_count_14 rfl (lv_at hl 1 rfl) ?_
      refine lv_iconst (v := 1) hx hb d_Mo_count_15 (by decide) ?_
      refine lv_icmp_ne (tgt := 24) hx hb d_Mo_count_16 (by decide) (fun c16 => ?_) (fun c16 => ?_)
      · refine lv_iload_n hx hb d_Mo_count_24 rfl (lv_at hl 1 rfl) ?_
        refine lv_bipush (v := 7) hx hb d_Mo_count_25 (by decide) ?_
        refine lv_icmp_ne (tgt := 48) hx hb d_Mo_count_27 (by decide) (fun c27 => ?_) (fun c27 => ?_)
        · rw [h9] at c27
          exact absurd c27 (by decide)
        · refine lv_aload_n hx hb d_Mo_count_30 rfl (lv_at hl 0 rfl) ?_
          refine zg_get (ci := 11) (C := "ZoneAnswersModel") (T := T_Mo) (N := 21) hx hb hts zi_Mo hown hK hG ra1 rfl 4 (by decide) (hts _ w_1285) (fun _ h9 => h9) rfl d_Mo_count_31 ?_
          refine lv_iconst (v := 0) hx hb d_Mo_count_34 (by decide) ?_
          refine zi_as (y := nI 0) (nI_0.symm) ?_
          refine zg_aldq hx hb hK hG 4 rm41 rfl (vp_in_nI (by omega) (by omega)) d_Mo_count_35 ?_
          refine zr_as (y := fr1 0) (by rw [zi_n _ (by omega)]) ?_
          refine zr_some (a := rA (re rs 0)) (hfr1 0 hpos) ?_
          refine zg_get (ci := 12) (C := "ZoneAnswersModel$Rec") (T := T_Re) (N := 5) hx hb hts zi_Re hown hK hG hx1 rfl 1 (by decide) (hts _ w_1266) (fun _ h9 => h9) rfl d_Mo_count_36 ?_
          refine lv_aload_n hx hb d_Mo_count_39 rfl (lv_at hl 0 rfl) ?_
          refine zk_i (va_runV (As := []) (rest := [.ref (rD (re rs 0))]) ⟨hx, hb, hml, hown, hts⟩ (t_Mo_numbers l E G36 rs a (h1 1) (h1 3) (h1 4) (h1 6) (h1 7) (h1 8) (h1 9) (h1 10) (h1 11) (h1 12) (h1 15) (h1 18) 0 (nI tp.length) (nI (wln Wz)) co (nI (rPw Wz + ([] : List Int32).length)) se v19 v20 ra1 rr1.1 hpos x1 x2 hsoa) (zcV 0 hts w_1441 w_1443 wp_35 w_30 w_1444 (by decide +kernel) ⟨Nat.le_of_ble_eq_true rfl, Nat.le_of_ble_eq_true rfl⟩) (zc_preV hbase hK hN hQ hG hS ra1 rfl) rfl rfl hl.1 rfl (lv_room (Nat.le_of_ble_eq_true rfl)) d_Mo_count_40 ⟨(by decide), (by decide)⟩) hS (fun r40 G40 H locs hp40 hG hS => ?_)
          have hG : zP E G36 H := hp40.2 ▸ hG
          refine zi_as (y := nI (np_len x1 + np_len x2)) hp40.1 ?_
          refine zk_l (va_runS (As := [.ref (rD (re rs 0)), .int (nI (np_len x1 + np_len x2))]) (rest := []) ⟨hx, hb, hml, hown, hts⟩ (t_Mo_four l E G36 (rD (re rs 0)) (rB (re rs 0)).length df hx6 hx8 (by omega) (np_len x1 + np_len x2) (by omega)) (zcS 2 hts w_1445 w_1446 w_30 w_1447 (by decide +kernel) ⟨Nat.le_of_ble_eq_true rfl, Nat.le_of_ble_eq_true rfl⟩) (zc_pre hbase hK hN hQ hG hS) rfl rfl hl.1 rfl (lv_room (Nat.le_of_ble_eq_true rfl)) d_Mo_count_43 ⟨(by decide), (by decide)⟩) hS (fun r43 G43 H locs hp43 hG hS => ?_)
          have hG : zP E G36 H := hp43.2 ▸ hG
          refine zl_as (y := zl4 df (np_len x1 + np_len x2)) hp43.1 ?_
          refine lv_l2i hx hb d_Mo_count_46 rfl ?_
          exact hret _ _ _ _ _ _ _ _ _ hr (rfl) (⟨Or.inr (Or.inr (Or.inr (Or.inr (Or.inr (Or.inr (Or.inr (Or.inl ⟨h9, vse_r hgd hsl hx8 hx7⟩))))))), hst1.o hse, hf1⟩) hG hS (by decide) (by decide) d_Mo_count_47
      · rw [h9] at c16
        exact absurd c16 (by decide)
    · rw [h9] at c6
      exact absurd c6 (by decide)
  · refine lv_aload_n hx hb d_Mo_count_0 rfl (lv_at hl 0 rfl) ?_
    refine lv_iconst (v := 0) hx hb d_Mo_count_1 (by decide) ?_
    refine zg_put (ci := 11) (v := .int 0) (ty := .int) (C := "ZoneAnswersModel") (T := T_Mo) (N := 21) hx hb hts zi_Mo t_Mo t_Mo_ok n_Mo hown hK hG hS ra rfl 0 (by decide) (hts _ w_1281) (fun _ h9 => h9) rfl (by decide +kernel) rfl rfl (Nat.le_of_ble_eq_true rfl) d_Mo_count_2 (fun H locs hG hS => ?_)
    obtain ⟨G41, eG41⟩ : ∃ z : zg_G, z = zg_up G a (.inr (11, [.int 0, .ref (h 1), .int (nI tp.length), .ref (h 3), .ref (h 4), .int (nI rs.length), .ref (h 6), .ref (h 7), .ref (h 8), .ref (h 9), .ref (h 10), .ref (h 11), .ref (h 12), .int (nI (wln Wz)), .int co, .ref (h 15), .int (nI (rPw Wz + ([] : List Int32).length)), .int se, .ref (h 18), v19, v20])) := ⟨_, rfl⟩
    have hG : zP E G41 H := by rw [eG41]; exact hG
    have k42 : G41 a = some (.inr (11, [.int 0, .ref (h 1), .int (nI tp.length), .ref (h 3), .ref (h 4), .int (nI rs.length), .ref (h 6), .ref (h 7), .ref (h 8), .ref (h 9), .ref (h 10), .ref (h 11), .ref (h 12), .int (nI (wln Wz)), .int co, .ref (h 15), .int (nI (rPw Wz + ([] : List Int32).length)), .int se, .ref (h 18), v19, v20])) := by rw [eG41]; exact zg_up_self _ _ _
    have k43 : G41 (h 4) = some (.inl (E.2.1 4, 2000, .inr (.inr (.inr (.inr fr))))) := by rw [eG41, zg_up_ne (zg_ne rm4 ra (by intro h; simp at h))]; exact rm4
    have k44 : G41 (h 3) = some (.inl (E.2.1 0, np_len lo, .inl fo)) := by rw [eG41, zg_up_ne (zg_ne rn1 ra (by intro h; simp at h))]; exact rn1
    have k45 : G41 (h 1) = some (.inl (E.2.1 0, 65536, .inl fm)) := by rw [eG41, zg_up_ne (zg_ne rt1 ra (by intro h; simp at h))]; exact rt1
    obtain ⟨hst1, hs1⟩ := rSt.set hst 0 co se v19 v20 ra
    rw [← eG41] at hst1 hs1
    have hf1 := hs1
    obtain ⟨h1, eh01, eh11, eh21, hc1⟩ := id hst1
    obtain ⟨ra1, rb1, ⟨fm1, rt11, rt21, rt31, rt41⟩, rtl1, ⟨fo1, rn11, rn21, rn31, rn41, rn51⟩, rr1, rg1, ras1⟩ := id hc1
    rw [eh01] at ra1
    obtain ⟨⟨fr1, rm41, hfr1⟩, hn21, hRs1⟩ := id rr1.1
    have hgd := hst1.gd
    refine lv_iload_n hx hb d_Mo_count_5 rfl (lv_at hl 1 rfl) ?_
    refine lv_if_ne (tgt := 14) hx hb d_Mo_count_6 (by decide) (fun c6 => ?_) (fun c6 => ?_)
    · refine lv_iload_n hx hb d_Mo_count_14 rfl (lv_at hl 1 rfl) ?_
      refine lv_iconst (v := 1) hx hb d_Mo_count_15 (by decide) ?_
      refine lv_icmp_ne (tgt := 24) hx hb d_Mo_count_16 (by decide) (fun c16 => ?_) (fun c16 => ?_)
      · refine lv_iload_n hx hb d_Mo_count_24 rfl (lv_at hl 1 rfl) ?_
        refine lv_bipush (v := 7) hx hb d_Mo_count_25 (by decide) ?_
        refine lv_icmp_ne (tgt := 48) hx hb d_Mo_count_27 (by decide) (fun c27 => ?_) (fun c27 => ?_)
        · refine lv_iload_n hx hb d_Mo_count_48 rfl (lv_at hl 1 rfl) ?_
          refine lv_if_lt (tgt := 58) hx hb d_Mo_count_49 (by decide) (fun c49 => ?_) (fun c49 => ?_)
          · refine lv_iconst (v := -1) hx hb d_Mo_count_58 (by decide) ?_
            exact hret _ _ _ _ _ _ _ _ _ hr (rfl) (⟨Or.inr (Or.inr (Or.inr (Or.inr (Or.inr (Or.inr (Or.inr (Or.inr (⟨fun q => absurd h9 (by rw [q]; decide), fun q => absurd h9 (by rw [q]; decide), fun q => absurd h9 (by rw [q]; decide), fun q => absurd h9 (by rw [q]; decide), fun q => absurd h9 (by rw [q]; decide), fun q => absurd h9 (by rw [q]; decide), fun q => absurd h9 (by rw [q]; decide), fun q => absurd h9 (by rw [q]; decide), rfl⟩)))))))), hst1.o hse, hf1⟩) hG hS (by decide) (by decide) d_Mo_count_59
          · refine lv_iload_n hx hb d_Mo_count_52 rfl (lv_at hl 1 rfl) ?_
            refine lv_bipush (v := 7) hx hb d_Mo_count_53 (by decide) ?_
            refine lv_icmp_le (tgt := 60) hx hb d_Mo_count_55 (by decide) (fun c55 => ?_) (fun c55 => ?_)
            · exact absurd h9 (fun q => q.elim (fun z => absurd z c49) (fun z => absurd c55 (Int32.not_le.mpr z)))
            · refine lv_iconst (v := -1) hx hb d_Mo_count_58 (by decide) ?_
              exact hret _ _ _ _ _ _ _ _ _ hr (rfl) (⟨Or.inr (Or.inr (Or.inr (Or.inr (Or.inr (Or.inr (Or.inr (Or.inr (⟨fun q => absurd h9 (by rw [q]; decide), fun q => absurd h9 (by rw [q]; decide), fun q => absurd h9 (by rw [q]; decide), fun q => absurd h9 (by rw [q]; decide), fun q => absurd h9 (by rw [q]; decide), fun q => absurd h9 (by rw [q]; decide), fun q => absurd h9 (by rw [q]; decide), fun q => absurd h9 (by rw [q]; decide), rfl⟩)))))))), hst1.o hse, hf1⟩) hG hS (by decide) (by decide) d_Mo_count_59
        · rw [c27] at h9
          exact absurd h9 (by decide)
      · rw [c16] at h9
        exact absurd h9 (by decide)
    · rw [c6] at h9
      exact absurd h9 (by decide)
