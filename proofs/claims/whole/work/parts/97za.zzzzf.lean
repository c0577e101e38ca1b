/-! THE REFERENCE'S SERIAL -/
theorem rser_f {f9 : Nat → Int32} {B : List Int32} {v : Int32} {p : Nat} (hp : B.length = p + 20) (h : ∀ j, j < B.length → f9 j = B.getD j 0) : ∀ j, j < (zs20 B v).length → (upd (upd (upd (upd f9 (p + 0) (vp_nar .byte ((v >>> ((nI (24 - (8 * 0))) &&& 31)).toInt8.toInt32))) (p + (0 + 1)) (vp_nar .byte ((v >>> ((nI (24 - (8 * (0 + 1)))) &&& 31)).toInt8.toInt32))) (p + (0 + 1 + 1)) (vp_nar .byte ((v >>> ((nI (24 - (8 * (0 + 1 + 1)))) &&& 31)).toInt8.toInt32))) (p + (0 + 1 + 1 + 1)) (vp_nar .byte ((v >>> ((nI (24 - (8 * (0 + 1 + 1 + 1)))) &&& 31)).toInt8.toInt32))) j = (zs20 B v).getD j 0 := fun j hj => by
  rw [zs20_len] at hj
  rw [zs20_at hj, show B.length - 20 = p by omega]
  have e0 : (nI (24 - (8 * 0))) &&& 31 = (24 &&& 31 : Int32) := by decide
  have e1 : (nI (24 - (8 * (0 + 1)))) &&& 31 = (16 &&& 31 : Int32) := by decide
  have e2 : (nI (24 - (8 * (0 + 1 + 1)))) &&& 31 = (8 &&& 31 : Int32) := by decide
  have e3 : v >>> ((nI (24 - (8 * (0 + 1 + 1 + 1)))) &&& 31) = v := by
    rw [show (nI (24 - (8 * (0 + 1 + 1 + 1)))) &&& 31 = (0 &&& 31 : Int32) by decide]; exact zsh0 v
  rw [e0, e1, e2, e3]
  unfold zw4 upd
  simp only [Nat.zero_add, Nat.add_zero, Nat.reduceAdd, h j hj]
def rDt (e : zRt) (q : Nat) (B : List Int32) : zRt := (e.1, e.2.1, q, e.2.2.2.1, e.2.2.2.2.1, e.2.2.2.2.2.1, e.2.2.2.2.2.2.1, B)
theorem rRs.ser {E : zc_E} {G G1 : zg_G} {ro : zRo} {m4 q : Nat} {rs : List zRt} {B : List Int32} (h : rRs E G ro m4 rs) (hj : 0 < rs.length) (h6 : rT (re rs 0) = 6) (hx : zx z0 G G1) (hq : G q = none) (hq1 : zBy E G1 q B) : rRs E (zg_up G1 (rA (re rs 0)) (.inr (12, [.ref (rN (re rs 0)), .ref q, (rV (re rs 0)), .int (rT (re rs 0)), .int (rU (re rs 0))]))) (zrn ro q (0, 0)) m4 (rs.set 0 (rDt (re rs 0) q B)) ∧ zfr ro (fun r => r = (21, 0)) G (zrn ro q (0, 0)) (zg_up G1 (rA (re rs 0)) (.inr (12, [.ref (rN (re rs 0)), .ref q, (rV (re rs 0)), .int (rT (re rs 0)), .int (rU (re rs 0))]))) := by
  obtain ⟨⟨⟨f, a1, a2⟩, a3, a4⟩, b1, b2, b3, b4⟩ := id h
  obtain ⟨c1, c2, c3, c4⟩ := b4 _ (re_mem hj)
  have hrj := (a4 _ (re_mem hj)).1
  have hf : zfr ro (fun r => r = (21, 0)) G (zrn ro q (0, 0)) (zg_up G1 (rA (re rs 0)) (.inr (12, [.ref (rN (re rs 0)), .ref q, (rV (re rs 0)), .int (rT (re rs 0)), .int (rU (re rs 0))]))) := fun z e hz hk => by
    have n1 : z ≠ rA (re rs 0) := fun w => hk (by rw [w]; exact c1)
    exact ⟨by rw [zg_up_ne n1]; exact hx.o hz, zrn_ne (zg_fr hq hz)⟩
  have nq : q ≠ rA (re rs 0) := fun w => by rw [w, hrj] at hq; cases hq
  have hro : ∀ z e, G z = some e → zrn ro q (0, 0) z = ro z := fun z e hz => zrn_ne (zg_fr hq hz)
  have hby : zBy E (zg_up G1 (rA (re rs 0)) (.inr (12, [.ref (rN (re rs 0)), .ref q, (rV (re rs 0)), .int (rT (re rs 0)), .int (rU (re rs 0))]))) q B := by
    obtain ⟨g, g1, g2⟩ := hq1
    exact ⟨g, by rw [zg_up_ne nq]; exact g1, g2⟩
  refine ⟨⟨⟨⟨f, (hf _ _ a1 (by rw [b1]; simp)).1, fun i hi => ?_⟩, by rw [List.length_set]; exact a3, fun e he => ?_⟩, (hf _ _ a1 (by rw [b1]; simp)).2.trans b1, by rw [map_set_s (f := rA) (e := rDt (re rs 0) q B) hj rfl]; exact b2, ?_, fun e he => ?_⟩, hf⟩
  · rw [List.length_set] at hi
    rw [a2 i hi, re_set hj]
    by_cases z : i = 0
    · rw [if_pos z, z]; rfl
    · rw [if_neg z]
  · obtain ⟨i, hi, rfl⟩ := re_ix he
    rw [List.length_set] at hi
    rw [re_set hj]
    by_cases z : i = 0
    · rw [if_pos z]
      obtain ⟨-, ⟨fn, d2, d3⟩, d4⟩ := a4 _ (re_mem hj)
      exact ⟨zg_up_self _ _ _, ⟨fn, (hf _ _ d2 (by rw [c2]; simp)).1, d3⟩, hby⟩
    · rw [if_neg z]
      obtain ⟨d1, ⟨fn, d2, d3⟩, d4⟩ := a4 _ (re_mem hi)
      obtain ⟨m1, m2, m3, -⟩ := b4 _ (re_mem hi)
      have ne : rA (re rs i) ≠ rA (re rs 0) := fun w => z (nodup_ix b2 hi hj w)
      exact ⟨by rw [zg_up_ne ne]; exact hx.o d1, ⟨fn, (hf _ _ d2 (by rw [m2]; simp)).1, d3⟩, (d4.fr m3 hf (by simp)).1⟩
  · cases rs with
    | nil => exact absurd hj (Nat.lt_irrefl _)
    | cons e T =>
      show ((rDt (re (e :: T) 0) q B :: T).map rD).Nodup
      rw [List.map_cons, List.nodup_cons] at b3 ⊢
      refine ⟨fun w => ?_, b3.2⟩
      obtain ⟨e9, h9, e9q⟩ := List.mem_map.mp w
      obtain ⟨g, g1, -⟩ := (a4 e9 (List.mem_cons_of_mem _ h9)).2.2
      rw [e9q] at g1
      have g1 : G q = _ := g1
      rw [hq] at g1; cases g1
  · obtain ⟨i, hi, rfl⟩ := re_ix he
    rw [List.length_set] at hi
    rw [re_set hj]
    by_cases z : i = 0
    · rw [if_pos z]
      obtain ⟨-, ⟨fn, d2, d3⟩, -⟩ := a4 _ (re_mem hj)
      refine ⟨(hro _ _ hrj).trans c1, (hro _ _ d2).trans c2, zrn_self _ _ _, Or.inl ?_⟩
      rcases c4 with c4 | ⟨_, _, _, _, w4⟩
      · exact c4
      · exact absurd h6 w4
    · rw [if_neg z]
      obtain ⟨d1, ⟨fn, d2, d3⟩, ⟨fd, d4, d5⟩⟩ := a4 _ (re_mem hi)
      obtain ⟨m1, m2, m3, m4⟩ := b4 _ (re_mem hi)
      refine ⟨(hro _ _ d1).trans m1, (hro _ _ d2).trans m2, (hro _ _ d4).trans m3, ?_⟩
      rcases m4 with m4 | ⟨z9, w1, w2, w3, w4⟩
      · exact Or.inl m4
      · have q3 := w2.fr w3 hf (by simp)
        exact Or.inr ⟨z9, w1, q3.1, q3.2, w4⟩
theorem zs20_lo {B : List Int32} {v : Int32} {j : Nat} (h : j + 20 < B.length) : (zs20 B v).getD j 0 = B.getD j 0 := by
  rw [zs20_at (by omega)]
  unfold zw4
  rw [upd_o (by omega), upd_o (by omega), upd_o (by omega), upd_o (by omega)]
theorem zSoa.s20 {B : List Int32} {x y : np_N} (v : Int32) (h : zSoa B x y) : zSoa (zs20 B v) x y := by
  obtain ⟨h1, h2, h3⟩ := h
  have hl := zs20_len B v
  refine ⟨⟨h1.1, by rw [hl]; exact h1.2.1, fun j hj => ?_⟩, ⟨h2.1, by rw [hl]; exact h2.2.1, fun j hj => ?_⟩, by rw [hl]; exact h3⟩
  · show (zs20 B v).getD (0 + j) 0 = _
    have hy : 0 < np_len y := Nat.succ_pos _
    rw [zs20_lo (by omega)]; exact h1.2.2 j hj
  · show (zs20 B v).getD (np_len x + j) 0 = _
    rw [zs20_lo (by omega)]; exact h2.2.2 j hj
theorem rGd.ser {lo : np_N} {rs : List zRt} (q : Nat) (v : Int32) (hg : rGd lo rs) : rGd lo (rs.set 0 (rDt (re rs 0) q (zs20 (rB (re rs 0)) v))) := by
  obtain ⟨g1, g2, g3, ⟨x1, x2, g4⟩, g5, g6, g7⟩ := hg
  have e0 : re (rs.set 0 (rDt (re rs 0) q (zs20 (rB (re rs 0)) v))) 0 = rDt (re rs 0) q (zs20 (rB (re rs 0)) v) := by rw [re_set g1, if_pos rfl]
  refine ⟨by rw [List.length_set]; exact g1, by rw [e0]; exact g2, by rw [e0]; exact g3, ⟨x1, x2, by rw [e0]; exact g4.s20 v⟩, by rw [e0]; exact g5, fun i hi hi2 => ?_, fun e he => ?_⟩
  · rw [List.length_set] at hi2
    rw [re_set g1, if_neg (by omega)]; exact g6 i hi hi2
  · obtain ⟨i, hi, rfl⟩ := re_ix he
    rw [List.length_set] at hi
    rw [re_set g1]
    by_cases z : i = 0
    · rw [if_pos z]
      obtain ⟨k1, k2, k3, k4, k5, k6, k7, k8⟩ := g7 _ (re_mem g1)
      refine ⟨k1, k2, k3, k4, k5, ?_, fun w => ?_, k8⟩
      · show (zs20 _ v).length < _
        rw [zs20_len]; exact k6
      · have w : rT (re rs 0) = 2 ∨ rT (re rs 0) = 5 ∨ rT (re rs 0) = 12 ∨ rT (re rs 0) = 15 ∨ rT (re rs 0) = 33 := w
        rw [g3] at w
        exact absurd w (by decide)
    · rw [if_neg z]; exact g7 _ (re_mem hi)
theorem rVf_ser {lo : np_N} {rs : List zRt} (q : Nat) (v : Int32) (hg : rGd lo rs) : rVf (rs.set 0 (rDt (re rs 0) q (zs20 (rB (re rs 0)) v))) = vsr (rVf rs) lo v := by
  have h6 := hg.six
  obtain ⟨g1, g2, g3, -⟩ := hg
  cases rs with
  | nil => exact absurd g1 (Nat.lt_irrefl _)
  | cons e T =>
    have g2 : rM e = lo := g2
    have g3 : rT e = 6 := g3
    have h6 : rVf (e :: T) lo 6 = [(rU e, rB e)] := h6
    have hT : rVf T lo 6 = [] := by
      rw [rVf_cons, if_pos ⟨g2, g3⟩] at h6
      exact (List.cons.inj h6).2
    funext y u
    show rVf (rDt e q (zs20 (rB e) v) :: T) y u = _
    unfold vsr
    rw [rVf_cons]
    show (if rM e = y ∧ rT e = u then [(rU e, zs20 (rB e) v)] else []) ++ rVf T y u = _
    by_cases z : y = lo ∧ u = 6
    · rw [if_pos z, if_pos ⟨g2.trans z.1.symm, g3.trans z.2.symm⟩, z.1, z.2, h6, hT]; rfl
    · rw [if_neg z, if_neg (fun w => z ⟨w.1.symm.trans g2, w.2.symm.trans g3⟩), rVf_cons, if_neg (fun w => z ⟨w.1.symm.trans g2, w.2.symm.trans g3⟩)]
theorem rNu_ser {rs : List zRt} (q : Nat) (v : Int32) (hj : 0 < rs.length) : rNu (rs.set 0 (rDt (re rs 0) q (zs20 (rB (re rs 0)) v))) ≤ rNu rs := by
  cases rs with
  | nil => exact absurd hj (Nat.lt_irrefl _)
  | cons e T =>
    show rNu (rDt e q (zs20 (rB e) v) :: T) ≤ rNu (e :: T)
    unfold rNu
    rw [List.map_cons, List.map_cons, List.sum_cons, List.sum_cons]
    have : rNu1 (rDt e q (zs20 (rB e) v)) = rNu1 e := by
      have hv : rV (rDt e q (zs20 (rB e) v)) = rV e := rfl
      have hb : (rB (rDt e q (zs20 (rB e) v))).length = (rB e).length := zs20_len _ _
      unfold rNu1
      rw [hv, hb]
    omega
theorem rSt.ser {E : zc_E} {G : zg_G} {ro : zRo} {a c1 c2 : Nat} {lo : np_N} {rs : List zRt} {W : zW} {th co se : Int32} {tp : List Int32} {v19 v20 : Value} {G1 : zg_G} {q : Nat} {v : Int32} (hs : rSt E G ro a c1 c2 lo rs W [] False (0, 0, [], []) th tp co se v19 v20) (hx : zx z0 G G1) (hq : G q = none) (hby : zBy E G1 q (zs20 (rB (re rs 0)) v)) : rSt E (zg_up G1 (rA (re rs 0)) (.inr (12, [.ref (rN (re rs 0)), .ref q, (rV (re rs 0)), .int (rT (re rs 0)), .int (rU (re rs 0))]))) (zrn ro q (0, 0)) a c1 c2 lo (rs.set 0 (rDt (re rs 0) q (zs20 (rB (re rs 0)) v))) W [] False (0, 0, [], []) th tp co se v19 v20 ∧ zfr ro zKr G (zrn ro q (0, 0)) (zg_up G1 (rA (re rs 0)) (.inr (12, [.ref (rN (re rs 0)), .ref q, (rV (re rs 0)), .int (rT (re rs 0)), .int (rU (re rs 0))]))) := by
  obtain ⟨h, rfl, rfl, rfl, hc⟩ := hs
  have hg := hc.2.2.2.2.2.2.1
  have w := hc.2.2.2.2.2.1.ser hg.1 hg.2.2.1 hx hq hby
  have r0 := hc.2.1
  have c := w.2 _ _ hc.1 (by rw [r0]; simp)
  refine ⟨⟨h, rfl, rfl, rfl, hc.chg (w.2.w (fun r z => Or.inr (Or.inr z))) ?_ (c.2.trans r0) w.1 (hg.ser q v)⟩, w.2.w (fun r z => by rw [z]; exact Or.inr rfl)⟩
  rw [List.length_set]; exact c.1
theorem vse_r {lo : np_N} {rs : List zRt} {f : Nat → Int32} {p : Nat} (hg : rGd lo rs) (hp : (rB (re rs 0)).length = p + 20) (hf : sb_Fit f) (h : ∀ j, j < (rB (re rs 0)).length → f j = (rB (re rs 0)).getD j 0) : (zl4 f p).toInt32 = vse (rVf rs) lo := by
  unfold vse
  rw [hg.six]
  show _ = zr4 (fun j => (rB (re rs 0)).getD j 0) ((rB (re rs 0)).length - 20)
  rw [show (rB (re rs 0)).length - 20 = p by omega]
  obtain ⟨m, h1, h2, h3⟩ := zlr hf p
  rw [h2, ← zr4_cg (f := f) (fun j h1 h2 => h j (by omega)), h3]
  exact lN_i m

abbrev rm_Mo_serial (n0 : Nat) : Room := { frames := 4, cells := 1, slots := n0, locals := 110 }
set_option maxHeartbeats 4000000 in
set_option maxRecDepth 100000 in
/-- serial(v), of the reference -/
theorem t_Mo_serial (l : Launch) (E : zc_E) (G : zg_G) (a c1 c2 : Nat) (ro : zRo) (lo : np_N) (rs : List zRt) (Wz : zW) (th co se : Int32) (hse : se = 0 ∨ se = 1) (tp : List Int32) (v19 v20 : Value) (hst : rSt E G ro a c1 c2 lo rs Wz [] False (0, 0, [], []) th tp co se v19 v20) (v9 : Int32) : zMi l E y_Mo_serial c_Mo_serial 6 (some .int) (rm_Mo_serial (rB (re rs 0)).length) [.ref a, .int v9] G (fun (r : Int32) (G2 : zg_G) => r = vse (rVf rs) lo ∧ ∃ r2 rs2, rVf rs2 = vsr (rVf rs) lo v9 ∧ rs2.length = rs.length ∧ rNu rs2 ≤ rNu rs ∧ rO E G2 r2 a c1 c2 lo rs2 Wz tp 0 ∧ zfr ro zKr G r2 G2) := by
  refine zMi.of (by decide) (Nat.le_of_ble_eq_true rfl) ?_
  intro p e s m args below meth c Q hZ hG hret ls hl
  obtain ⟨hx, hb, hr, hts, hown, hlocks, hml, hnm, hbase, hK, hN, hQ⟩ := hZ
  have hl : lv_has ls 6 [(0, .ref a), (1, .int v9)] := hl
  have hS : zg_S (zc_b E) s.heap s.heap [] := va_S.rf
  obtain ⟨h, eh0, eh1, eh2, hc⟩ := id hst
  obtain ⟨ra, rb, ⟨fm, rt1, rt2, rt3, rt4⟩, rtl, ⟨fo, rn1, rn2, rn3, rn4, rn5⟩, rr, rg, ras⟩ := id hc
  rw [eh0] at ra
  obtain ⟨⟨fr, rm4, hfr⟩, hn2, hRs⟩ := id rr.1
  refine lv_aload_n hx hb d_Mo_serial_0 rfl (lv_at hl 0 rfl) ?_
  refine lv_iconst (v := 0) hx hb d_Mo_serial_1 (by decide) ?_
  refine zg_put (ci := 11) (v := .int 0) (ty := .int) (C := "ZoneAnswersModel") (T := T_Mo) (N := 21) hx hb hts zi_Mo t_Mo t_Mo_ok n_Mo hown hK hG hS ra rfl 0 (by decide) (hts _ w_1281) (fun _ h9 => h9) rfl (by decide +kernel) rfl rfl (Nat.le_of_ble_eq_true rfl) d_Mo_serial_2 (fun H locs hG hS => ?_)
  obtain ⟨G1, eG1⟩ : ∃ z : zg_G, z = zg_up G a (.inr (11, [.int 0, .ref (h 1), .int (nI tp.length), .ref (h 3), .ref (h 4), .int (nI rs.length), .ref (h 6), .ref (h 7), .ref (h 8), .ref (h 9), .ref (h 10), .ref (h 11), .ref (h 12), .int (nI (wln Wz)), .int co, .ref (h 15), .int (nI (rPw Wz + ([] : List Int32).length)), .int se, .ref (h 18), v19, v20])) := ⟨_, rfl⟩
  have hG : zP E G1 H := by rw [eG1]; exact hG
  have k2 : G1 a = some (.inr (11, [.int 0, .ref (h 1), .int (nI tp.length), .ref (h 3), .ref (h 4), .int (nI rs.length), .ref (h 6), .ref (h 7), .ref (h 8), .ref (h 9), .ref (h 10), .ref (h 11), .ref (h 12), .int (nI (wln Wz)), .int co, .ref (h 15), .int (nI (rPw Wz + ([] : List Int32).length)), .int se, .ref (h 18), v19, v20])) := by rw [eG1]; exact zg_up_self _ _ _
  have k3 : G1 (h 4) = some (.inl (E.2.1 4, 2000, .inr (.inr (.inr (.inr fr))))) := by rw [eG1, zg_up_ne (zg_ne rm4 ra (by intro h; simp at h))]; exact rm4
  have k4 : G1 (h 3) = some (.inl (E.2.1 0, np_len lo, .inl fo)) := by rw [eG1, zg_up_ne (zg_ne rn1 ra (by intro h; simp at h))]; exact rn1
  have k5 : G1 (h 1) = some (.inl (E.2.1 0, 65536, .inl fm)) := by rw [eG1, zg_up_ne (zg_ne rt1 ra (by intro h; simp at h))]; exact rt1
  obtain ⟨hst1, hs1⟩ := rSt.set hst 0 co se v19 v20 ra
  rw [← eG1] at hst1 hs1
  have hf1 := hs1
  obtain ⟨h1, eh01, eh11, eh21, hc1⟩ := id hst1
  obtain ⟨ra1, rb1, ⟨fm1, rt11, rt21, rt31, rt41⟩, rtl1, ⟨fo1, rn11, rn21, rn31, rn41, rn51⟩, rr1, rg1, ras1⟩ := id hc1
  rw [eh01] at ra1
  obtain ⟨⟨fr1, rm41, hfr1⟩, hn21, hRs1⟩ := id rr1.1
  have hpos := hst1.gd.1
  obtain ⟨hr1, ⟨nf, hr2, hr3, hr4, hr5⟩, df, hr6, hr7, hr8⟩ := hRs1 _ (re_mem hpos)
  have hBl := (hst1.gd.2.2.2.2.2.2 _ (re_mem hpos)).2.2.2.2.2.1
  obtain ⟨x1, x2, hsoa⟩ := hst1.gd.2.2.2.1
  have hsl := hsoa.2.2
  refine lv_aload_n hx hb d_Mo_serial_5 rfl (lv_at hl 0 rfl) ?_
  refine zg_get (ci := 11) (C := "ZoneAnswersModel") (T := T_Mo) (N := 21) hx hb hts zi_Mo hown hK hG ra1 rfl 4 (by decide) (hts _ w_1285) (fun _ h9 => h9) rfl d_Mo_serial_6 ?_
  refine lv_iconst (v := 0) hx hb d_Mo_serial_9 (by decide) ?_
  refine zi_as (y := nI 0) (nI_0.symm) ?_
  refine zg_aldq hx hb hK hG 4 rm41 rfl (vp_in_nI (by omega) (by omega)) d_Mo_serial_10 ?_
  refine zr_as (y := fr1 0) (by rw [zi_n _ (by omega)]) ?_
  refine zr_some (a := rA (re rs 0)) (hfr1 0 hpos) ?_
  refine zg_get (ci := 12) (C := "ZoneAnswersModel$Rec") (T := T_Re) (N := 5) hx hb hts zi_Re hown hK hG hr1 rfl 1 (by decide) (hts _ w_1266) (fun _ h9 => h9) rfl d_Mo_serial_11 ?_
  refine lv_iconst (v := 0) hx hb d_Mo_serial_14 (by decide) ?_
  refine zi_as (y := nI 0) (nI_0.symm) ?_
  refine lv_aload_n hx hb d_Mo_serial_15 rfl (lv_at hl 0 rfl) ?_
  refine zg_get (ci := 11) (C := "ZoneAnswersModel") (T := T_Mo) (N := 21) hx hb hts zi_Mo hown hK hG ra1 rfl 4 (by decide) (hts _ w_1285) (fun _ h9 => h9) rfl d_Mo_serial_16 ?_
  refine lv_iconst (v := 0) hx hb d_Mo_serial_19 (by decide) ?_
  refine zi_as (y := nI 0) (nI_0.symm) ?_
  refine zg_aldq hx hb hK hG 4 rm41 rfl (vp_in_nI (by omega) (by omega)) d_Mo_serial_20 ?_
  refine zr_as (y := fr1 0) (by rw [zi_n _ (by omega)]) ?_
  refine zr_some (a := rA (re rs 0)) (hfr1 0 hpos) ?_
  refine zg_get (ci := 12) (C := "ZoneAnswersModel$Rec") (T := T_Re) (N := 5) hx hb hts zi_Re hown hK hG hr1 rfl 1 (by decide) (hts _ w_1266) (fun _ h9 => h9) rfl d_Mo_serial_21 ?_
  refine zg_alen hx hb hK hG 0 hr6 rfl (v := nI ((rB (re rs 0)).length)) rfl d_Mo_serial_24 ?_
  have hGo25 := hG
  refine zk_q (va_runS (As := [.ref (rD (re rs 0)), .int (nI 0), .int (nI ((rB (re rs 0)).length))]) (rest := []) ⟨hx, hb, hml, hown, hts⟩ (t_Ns_cut l E G1 (rD (re rs 0)) (rB (re rs 0)).length df hr6 hr8 (by omega) 0 (rB (re rs 0)).length (Nat.zero_le _) (Nat.le_refl _)) (zcS 3 hts w_1391 w_1373 w_33 w_1374 (by decide +kernel) ⟨Nat.le_of_ble_eq_true rfl, Nat.le_of_ble_eq_true rfl⟩) (zc_pre hbase hK hN hQ hG hS) rfl rfl hl.1 rfl (lv_room (Nat.le_of_ble_eq_true rfl)) d_Mo_serial_25 ⟨(by dsimp only; omega), (by dsimp only; omega)⟩) hS (fun r25 G25 H locs hp25 hG hS => ?_)
  obtain ⟨q9, f9, er9, nq9, hx9, hq9, hft9, hlo9⟩ := hp25
  refine zr_some (a := q9) er9 ?_
  rw [Nat.sub_zero] at hq9
  have hz2 : zfr ro (fun _ => False) G1 (zrn ro q9 (0, 0)) G25 := zfr.z hx9 (zro.nw nq9)
  have hst2 := hst1.z hz2
  have hr12 : G25 (rA (re rs 0)) = _ := hx9.o hr1
  obtain ⟨h2, eh02, eh12, eh22, hc2⟩ := id hst2
  obtain ⟨ra2, rb2, ⟨fm2, rt12, rt22, rt32, rt42⟩, rtl2, ⟨fo2, rn12, rn22, rn32, rn42, rn52⟩, rr2, rg2, ras2⟩ := id hc2
  rw [eh02] at ra2
  obtain ⟨⟨fr2, rm42, hfr2⟩, hn22, hRs2⟩ := id rr2.1
  refine lv_astore_n (lv' := [(2, .ref q9), (0, .ref a), (1, .int v9)]) hx hb d_Mo_serial_28 rfl hl (by decide) rfl (fun ls hl => ?_)
  refine lv_aload_n hx hb d_Mo_serial_29 rfl (lv_at hl 1 rfl) ?_
  refine zk_i (va_runV (As := []) (rest := []) ⟨hx, hb, hml, hown, hts⟩ (t_Mo_numbers l E G25 rs a (h2 1) (h2 3) (h2 4) (h2 6) (h2 7) (h2 8) (h2 9) (h2 10) (h2 11) (h2 12) (h2 15) (h2 18) 0 (nI tp.length) (nI (wln Wz)) co (nI (rPw Wz + ([] : List Int32).length)) se v19 v20 ra2 rr2.1 hpos x1 x2 hsoa) (zcV 0 hts w_1441 w_1443 wp_35 w_30 w_1444 (by decide +kernel) ⟨Nat.le_of_ble_eq_true rfl, Nat.le_of_ble_eq_true rfl⟩) (zc_preV hbase hK hN hQ hG hS ra2 rfl) rfl rfl hl.1 rfl (lv_room (Nat.le_of_ble_eq_true rfl)) d_Mo_serial_30 ⟨(by dsimp only; omega), (by dsimp only; omega)⟩) hS (fun r30 G30 H locs hp30 hG hS => ?_)
  have hG : zP E G25 H := hp30.2 ▸ hG
  refine zi_as (y := nI (np_len x1 + np_len x2)) hp30.1 ?_
  refine lv_istore_n (lv' := [(3, .int (nI (np_len x1 + np_len x2))), (2, .ref q9), (0, .ref a), (1, .int v9)]) hx hb d_Mo_serial_33 rfl hl (by decide) rfl (fun ls hl => ?_)
  refine lv_aload_n hx hb d_Mo_serial_34 rfl (lv_at hl 1 rfl) ?_
  refine lv_iload_n hx hb d_Mo_serial_35 rfl (lv_at hl 0 rfl) ?_
  refine zk_l (va_runS (As := [.ref q9, .int (nI (np_len x1 + np_len x2))]) (rest := []) ⟨hx, hb, hml, hown, hts⟩ (t_Mo_four l E G25 q9 (rB (re rs 0)).length f9 hq9 hft9 (by omega) (np_len x1 + np_len x2) (by omega)) (zcS 2 hts w_1445 w_1446 w_30 w_1447 (by decide +kernel) ⟨Nat.le_of_ble_eq_true rfl, Nat.le_of_ble_eq_true rfl⟩) (zc_pre hbase hK hN hQ hG hS) rfl rfl hl.1 rfl (lv_room (Nat.le_of_ble_eq_true rfl)) d_Mo_serial_36 ⟨(by dsimp only; omega), (by dsimp only; omega)⟩) hS (fun r36 G36 H locs hp36 hG hS => ?_)
  have hG : zP E G25 H := hp36.2 ▸ hG
  refine zl_as (y := zl4 f9 (np_len x1 + np_len x2)) hp36.1 ?_
  refine lv_l2i hx hb d_Mo_serial_39 rfl ?_
  refine lv_istore (lv' := [(4, .int ((zl4 f9 (np_len x1 + np_len x2)).toInt32)), (3, .int (nI (np_len x1 + np_len x2))), (2, .ref q9), (0, .ref a), (1, .int v9)]) hx hb d_Mo_serial_40 hl (by decide) rfl (fun ls hl => ?_)
  refine lv_iconst (v := 0) hx hb d_Mo_serial_42 (by decide) ?_
  refine zi_as (y := nI 0) (nI_0.symm) ?_
  refine lv_istore (lv' := [(5, .int (nI 0)), (4, .int ((zl4 f9 (np_len x1 + np_len x2)).toInt32)), (3, .int (nI (np_len x1 + np_len x2))), (2, .ref q9), (0, .ref a), (1, .int v9)]) hx hb d_Mo_serial_43 hl (by decide) rfl (fun ls hl => ?_)
  refine lv_iload hx hb d_Mo_serial_45 (lv_at hl 0 rfl) ?_
  refine lv_iconst (v := 4) hx hb d_Mo_serial_47 (by decide) ?_
  refine lv_icmp_ge (tgt := 74) hx hb d_Mo_serial_48 (by decide) (fun c48 => ?_) (fun c48 => ?_)
  · have b48 : 4 ≤ 0 := (nI_leI (a := 4) (b := 0) (by omega) (by omega)).mp c48
    exact absurd b48 (by decide)
  · have b48 : ¬ 4 ≤ 0 := fun q => c48 ((nI_leI (a := 4) (b := 0) (by omega) (by omega)).mpr q)
    refine lv_aload_n hx hb d_Mo_serial_51 rfl (lv_at hl 3 rfl) ?_
    refine lv_iload_n hx hb d_Mo_serial_52 rfl (lv_at hl 2 rfl) ?_
    refine lv_iload hx hb d_Mo_serial_53 (lv_at hl 0 rfl) ?_
    refine lv_iadd hx hb d_Mo_serial_55 ?_
    refine zi_as (y := nI (np_len x1 + np_len x2 + 0)) (nI_add (np_len x1 + np_len x2) 0) ?_
    refine lv_iload_n hx hb d_Mo_serial_56 rfl (lv_at hl 5 rfl) ?_
    refine lv_bipush (v := 24) hx hb d_Mo_serial_57 (by decide) ?_
    refine lv_bipush (v := 8) hx hb d_Mo_serial_59 (by decide) ?_
    refine lv_iload hx hb d_Mo_serial_61 (lv_at hl 0 rfl) ?_
    refine lv_imul hx hb d_Mo_serial_63 ?_
    refine zi_as (y := nI (8 * 0)) (pk_mul 8 0) ?_
    refine lv_isub hx hb d_Mo_serial_64 ?_
    refine zi_as (y := nI (24 - (8 * 0))) (zi_sub (a := 24) (b := 8 * 0) (by omega)) ?_
    refine lv_ishr hx hb d_Mo_serial_65 ?_
    refine lv_i2b hx hb d_Mo_serial_66 rfl ?_
    refine zg_bast hx hb hK hG hS 0 hq9 rfl (vp_in_nI (by omega) (by omega)) d_Mo_serial_67 (fun H locs hG hS => ?_)
    rw [zi_n (np_len x1 + np_len x2 + 0) (by omega)] at hG
    obtain ⟨G306, eG306⟩ : ∃ z : zg_G, z = zg_up G25 q9 (.inl (E.2.1 0, (rB (re rs 0)).length, .inl (upd f9 (np_len x1 + np_len x2 + 0) (vp_nar .byte ((v9 >>> ((nI (24 - (8 * 0))) &&& 31)).toInt8.toInt32))))) := ⟨_, rfl⟩
    have hG : zP E G306 H := by rw [eG306]; exact hG
    have k307 : G306 a = some (.inr (11, [.int 0, .ref (h2 1), .int (nI tp.length), .ref (h2 3), .ref (h2 4), .int (nI rs.length), .ref (h2 6), .ref (h2 7), .ref (h2 8), .ref (h2 9), .ref (h2 10), .ref (h2 11), .ref (h2 12), .int (nI (wln Wz)), .int co, .ref (h2 15), .int (nI (rPw Wz + ([] : List Int32).length)), .int se, .ref (h2 18), v19, v20])) := by rw [eG306, zg_up_ne (zg_ne ra2 hq9 (by intro h; simp at h))]; exact ra2
    have k308 : G306 (h2 4) = some (.inl (E.2.1 4, 2000, .inr (.inr (.inr (.inr fr2))))) := by rw [eG306, zg_up_ne (zg_ne rm42 hq9 (by intro h; simp at h))]; exact rm42
    have k309 : G306 (rA (re rs 0)) = some (.inr (12, [.ref (rN (re rs 0)), .ref (rD (re rs 0)), (rV (re rs 0)), .int (rT (re rs 0)), .int (rU (re rs 0))])) := by rw [eG306, zg_up_ne (zg_ne hr12 hq9 (by intro h; simp at h))]; exact hr12
    have k310 : G306 q9 = some (.inl (E.2.1 0, (rB (re rs 0)).length, .inl (upd f9 (np_len x1 + np_len x2 + 0) (vp_nar .byte ((v9 >>> ((nI (24 - (8 * 0))) &&& 31)).toInt8.toInt32))))) := by rw [eG306]; exact zg_up_self _ _ _
    refine lv_iinc (v := nI (0 + 1)) (lv' := [(5, .int (nI (0 + 1))), (4, .int ((zl4 f9 (np_len x1 + np_len x2)).toInt32)), (3, .int (nI (np_len x1 + np_len x2))), (2, .ref q9), (0, .ref a), (1, .int v9)]) hx hb d_Mo_serial_68 hl (k := 0) rfl (nI_add 0 1) (by decide) rfl (fun ls hl => ?_)
    refine lv_goto (tgt := 45) hx hb d_Mo_serial_71 (by decide) ?_
    refine lv_iload hx hb d_Mo_serial_45 (lv_at hl 0 rfl) ?_
    refine lv_iconst (v := 4) hx hb d_Mo_serial_47 (by decide) ?_
    refine lv_icmp_ge (tgt := 74) hx hb d_Mo_serial_48 (by decide) (fun c48 => ?_) (fun c48 => ?_)
    · have b48 : 4 ≤ (0 + 1) := (nI_leI (a := 4) (b := (0 + 1)) (by omega) (by omega)).mp c48
      exact absurd b48 (by decide)
    · have b48 : ¬ 4 ≤ (0 + 1) := fun q => c48 ((nI_leI (a := 4) (b := (0 + 1)) (by omega) (by omega)).mpr q)
      refine lv_aload_n hx hb d_Mo_serial_51 rfl (lv_at hl 3 rfl) ?_
      refine lv_iload_n hx hb d_Mo_serial_52 rfl (lv_at hl 2 rfl) ?_
      refine lv_iload hx hb d_Mo_serial_53 (lv_at hl 0 rfl) ?_
      refine lv_iadd hx hb d_Mo_serial_55 ?_
      refine zi_as (y := nI (np_len x1 + np_len x2 + (0 + 1))) (nI_add (np_len x1 + np_len x2) (0 + 1)) ?_
      refine lv_iload_n hx hb d_Mo_serial_56 rfl (lv_at hl 5 rfl) ?_
      refine lv_bipush (v := 24) hx hb d_Mo_serial_57 (by decide) ?_
      refine lv_bipush (v := 8) hx hb d_Mo_serial_59 (by decide) ?_
      refine lv_iload hx hb d_Mo_serial_61 (lv_at hl 0 rfl) ?_
      refine lv_imul hx hb d_Mo_serial_63 ?_
      refine zi_as (y := nI (8 * (0 + 1))) (pk_mul 8 (0 + 1)) ?_
      refine lv_isub hx hb d_Mo_serial_64 ?_
      refine zi_as (y := nI (24 - (8 * (0 + 1)))) (zi_sub (a := 24) (b := 8 * (0 + 1)) (by omega)) ?_
      refine lv_ishr hx hb d_Mo_serial_65 ?_
      refine lv_i2b hx hb d_Mo_serial_66 rfl ?_
      refine zg_bast hx hb hK hG hS 0 k310 rfl (vp_in_nI (by omega) (by omega)) d_Mo_serial_67 (fun H locs hG hS => ?_)
      rw [zi_n (np_len x1 + np_len x2 + (0 + 1)) (by omega)] at hG
      obtain ⟨G311, eG311⟩ : ∃ z : zg_G, z = zg_up G306 q9 (.inl (E.2.1 0, (rB (re rs 0)).length, .inl (upd (upd f9 (np_len x1 + np_len x2 + 0) (vp_nar .byte ((v9 >>> ((nI (24 - (8 * 0))) &&& 31)).toInt8.toInt32))) (np_len x1 + np_len x2 + (0 + 1)) (vp_nar .byte ((v9 >>> ((nI (24 - (8 * (0 + 1)))) &&& 31)).toInt8.toInt32))))) := ⟨_, rfl⟩
      have hG : zP E G311 H := by rw [eG311]; exact hG
      have k312 : G311 a = some (.inr (11, [.int 0, .ref (h2 1), .int (nI tp.length), .ref (h2 3), .ref (h2 4), .int (nI rs.length), .ref (h2 6), .ref (h2 7), .ref (h2 8), .ref (h2 9), .ref (h2 10), .ref (h2 11), .ref (h2 12), .int (nI (wln Wz)), .int co, .ref (h2 15), .int (nI (rPw Wz + ([] : List Int32).length)), .int se, .ref (h2 18), v19, v20])) := by rw [eG311, zg_up_ne (zg_ne k307 k310 (by intro h; simp at h))]; exact k307
      have k313 : G311 (h2 4) = some (.inl (E.2.1 4, 2000, .inr (.inr (.inr (.inr fr2))))) := by rw [eG311, zg_up_ne (zg_ne k308 k310 (by intro h; simp at h))]; exact k308
      have k314 : G311 (rA (re rs 0)) = some (.inr (12, [.ref (rN (re rs 0)), .ref (rD (re rs 0)), (rV (re rs 0)), .int (rT (re rs 0)), .int (rU (re rs 0))])) := by rw [eG311, zg_up_ne (zg_ne k309 k310 (by intro h; simp at h))]; exact k309
      have k315 : G311 q9 = some (.inl (E.2.1 0, (rB (re rs 0)).length, .inl (upd (upd f9 (np_len x1 + np_len x2 + 0) (vp_nar .byte ((v9 >>> ((nI (24 - (8 * 0))) &&& 31)).toInt8.toInt32))) (np_len x1 + np_len x2 + (0 + 1)) (vp_nar .byte ((v9 >>> ((nI (24 - (8 * (0 + 1)))) &&& 31)).toInt8.toInt32))))) := by rw [eG311]; exact zg_up_self _ _ _
      refine lv_iinc (v := nI (0 + 1 + 1)) (lv' := [(5, .int (nI (0 + 1 + 1))), (4, .int ((zl4 f9 (np_len x1 + np_len x2)).toInt32)), (3, .int (nI (np_len x1 + np_len x2))), (2, .ref q9), (0, .ref a), (1, .int v9)]) hx hb d_Mo_serial_68 hl (k := 0) rfl (nI_add (0 + 1) 1) (by decide) rfl (fun ls hl => ?_)
      refine lv_goto (tgt := 45) hx hb d_Mo_serial_71 (by decide) ?_
      refine lv_iload hx hb d_Mo_serial_45 (lv_at hl 0 rfl) ?_
      refine lv_iconst (v := 4) hx hb d_Mo_serial_47 (by decide) ?_
      refine lv_icmp_ge (tgt := 74) hx hb d_Mo_serial_48 (by decide) (fun c48 => ?_) (fun c48 => ?_)
      · have b48 : 4 ≤ (0 + 1 + 1) := (nI_leI (a := 4) (b := (0 + 1 + 1)) (by omega) (by omega)).mp c48
        exact absurd b48 (by decide)
      · have b48 : ¬ 4 ≤ (0 + 1 + 1) := fun q => c48 ((nI_leI (a := 4) (b := (0 + 1 + 1)) (by omega) (by omega)).mpr q)
        refine lv_aload_n hx hb d_Mo_serial_51 rfl (lv_at hl 3 rfl) ?_
        refine lv_iload_n hx hb d_Mo_serial_52 rfl (lv_at hl 2 rfl) ?_
        refine lv_iload hx hb d_Mo_serial_53 (lv_at hl 0 rfl) ?_
        refine lv_iadd hx hb d_Mo_serial_55 ?_
        refine zi_as (y := nI (np_len x1 + np_len x2 + (0 + 1 + 1))) (nI_add (np_len x1 + np_len x2) (0 + 1 + 1)) ?_
        refine lv_iload_n hx hb d_Mo_serial_56 rfl (lv_at hl 5 rfl) ?_
        refine lv_bipush (v := 24) hx hb d_Mo_serial_57 (by decide) ?_
        refine lv_bipush (v := 8) hx hb d_Mo_serial_59 (by decide) ?_
        refine lv_iload hx hb d_Mo_serial_61 (lv_at hl 0 rfl) ?_
        refine lv_imul hx hb d_Mo_serial_63 ?_
        refine zi_as (y := nI (8 * (0 + 1 + 1))) (pk_mul 8 (0 + 1 + 1)) ?_
        refine lv_isub hx hb d_Mo_serial_64 ?_
        refine zi_as (y := nI (24 - (8 * (0 + 1 + 1)))) (zi_sub (a := 24) (b := 8 * (0 + 1 + 1)) (by omega)) ?_
        refine lv_ishr hx hb d_Mo_serial_65 ?_
        refine lv_i2b hx hb d_Mo_serial_66 rfl ?_
        refine zg_bast hx hb hK hG hS 0 k315 rfl (vp_in_nI (by omega) (by omega)) d_Mo_serial_67 (fun H locs hG hS => ?_)
        rw [zi_n (np_len x1 + np_len x2 + (0 + 1 + 1)) (by omega)] at hG
        obtain ⟨G316, eG316⟩ : ∃ z : zg_G, z = zg_up G311 q9 (.inl (E.2.1 0, (rB (re rs 0)).length, .inl (upd (upd (upd f9 (np_len x1 + np_len x2 + 0) (vp_nar .byte ((v9 >>> ((nI (24 - (8 * 0))) &&& 31)).toInt8.toInt32))) (np_len x1 + np_len x2 + (0 + 1)) (vp_nar .byte ((v9 >>> ((nI (24 - (8 * (0 + 1)))) &&& 31)).toInt8.toInt32))) (np_len x1 + np_len x2 + (0 + 1 + 1)) (vp_nar .byte ((v9 >>> ((nI (24 - (8 * (0 + 1 + 1)))) &&& 31)).toInt8.toInt32))))) := ⟨_, rfl⟩
        have hG : zP E G316 H := by rw [eG316]; exact hG
        have k317 : G316 a = some (.inr (11, [.int 0, .ref (h2 1), .int (nI tp.length), .ref (h2 3), .ref (h2 4), .int (nI rs.length), .ref (h2 6), .ref (h2 7), .ref (h2 8), .ref (h2 9), .ref (h2 10), .ref (h2 11), .ref (h2 12), .int (nI (wln Wz)), .int co, .ref (h2 15), .int (nI (rPw Wz + ([] : List Int32).length)), .int se, .ref (h2 18), v19, v20])) := by rw [eG316, zg_up_ne (zg_ne k312 k315 (by intro h; simp at h))]; exact k312
        have k318 : G316 (h2 4) = some (.inl (E.2.1 4, 2000, .inr (.inr (.inr (.inr fr2))))) := by rw [eG316, zg_up_ne (zg_ne k313 k315 (by intro h; simp at h))]; exact k313
        have k319 : G316 (rA (re rs 0)) = some (.inr (12, [.ref (rN (re rs 0)), .ref (rD (re rs 0)), (rV (re rs 0)), .int (rT (re rs 0)), .int (rU (re rs 0))])) := by rw [eG316, zg_up_ne (zg_ne k314 k315 (by intro h; simp at h))]; exact k314
        have k320 : G316 q9 = some (.inl (E.2.1 0, (rB (re rs 0)).length, .inl (upd (upd (upd f9 (np_len x1 + np_len x2 + 0) (vp_nar .byte ((v9 >>> ((nI (24 - (8 * 0))) &&& 31)).toInt8.toInt32))) (np_len x1 + np_len x2 + (0 + 1)) (vp_nar .byte ((v9 >>> ((nI (24 - (8 * (0 + 1)))) &&& 31)).toInt8.toInt32))) (np_len x1 + np_len x2 + (0 + 1 + 1)) (vp_nar .byte ((v9 >>> ((nI (24 - (8 * (0 + 1 + 1)))) &&& 31)).toInt8.toInt32))))) := by rw [eG316]; exact zg_up_self _ _ _
        refine lv_iinc (v := nI (0 + 1 + 1 + 1)) (lv' := [(5, .int (nI (0 + 1 + 1 + 1))), (4, .int ((zl4 f9 (np_len x1 + np_len x2)).toInt32)), (3, .int (nI (np_len x1 + np_len x2))), (2, .ref q9), (0, .ref a), (1, .int v9)]) hx hb d_Mo_serial_68 hl (k := 0) rfl (nI_add (0 + 1 + 1) 1) (by decide) rfl (fun ls hl => ?_)
        refine lv_goto (tgt := 45) hx hb d_Mo_serial_71 (by decide) ?_
        refine lv_iload hx hb d_Mo_serial_45 (lv_at hl 0 rfl) ?_
        refine lv_iconst (v := 4) hx hb d_Mo_serial_47 (by decide) ?_
        refine lv_icmp_ge (tgt := 74) hx hb d_Mo_serial_48 (by decide) (fun c48 => ?_) (fun c48 => ?_)
        · have b48 : 4 ≤ (0 + 1 + 1 + 1) := (nI_leI (a := 4) (b := (0 + 1 + 1 + 1)) (by omega) (by omega)).mp c48
          exact absurd b48 (by decide)
        · have b48 : ¬ 4 ≤ (0 + 1 + 1 + 1) := fun q => c48 ((nI_leI (a := 4) (b := (0 + 1 + 1 + 1)) (by omega) (by omega)).mpr q)
          refine lv_aload_n hx hb d_Mo_serial_51 rfl (lv_at hl 3 rfl) ?_
          refine lv_iload_n hx hb d_Mo_serial_52 rfl (lv_at hl 2 rfl) ?_
          refine lv_iload hx hb d_Mo_serial_53 (lv_at hl 0 rfl) ?_
          refine lv_iadd hx hb d_Mo_serial_55 ?_
          refine zi_as (y := nI (np_len x1 + np_len x2 + (0 + 1 + 1 + 1))) (nI_add (np_len x1 + np_len x2) (0 + 1 + 1 + 1)) ?_
          refine lv_iload_n hx hb d_Mo_serial_56 rfl (lv_at hl 5 rfl) ?_
          refine lv_bipush (v := 24) hx hb d_Mo_serial_57 (by decide) ?_
          refine lv_bipush (v := 8) hx hb d_Mo_serial_59 (by decide) ?_
          refine lv_iload hx hb d_Mo_serial_61 (lv_at hl 0 rfl) ?_
          refine lv_imul hx hb d_Mo_serial_63 ?_
          refine zi_as (y := nI (8 * (0 + 1 + 1 + 1))) (pk_mul 8 (0 + 1 + 1 + 1)) ?_
          refine lv_isub hx hb d_Mo_serial_64 ?_
          refine zi_as (y := nI (24 - (8 * (0 + 1 + 1 + 1)))) (zi_sub (a := 24) (b := 8 * (0 + 1 + 1 + 1)) (by omega)) ?_
          refine lv_ishr hx hb d_Mo_serial_65 ?_
          refine lv_i2b hx hb d_Mo_serial_66 rfl ?_
          refine zg_bast hx hb hK hG hS 0 k320 rfl (vp_in_nI (by omega) (by omega)) d_Mo_serial_67 (fun H locs hG hS => ?_)
          rw [zi_n (np_len x1 + np_len x2 + (0 + 1 + 1 + 1)) (by omega)] at hG
          obtain ⟨G321, eG321⟩ : ∃ z : zg_G, z = zg_up G316 q9 (.inl (E.2.1 0, (rB (re rs 0)).length, .inl (upd (upd (upd (upd f9 (np_len x1 + np_len x2 + 0) (vp_nar .byte ((v9 >>> ((nI (24 - (8 * 0))) &&& 31)).toInt8.toInt32))) (np_len x1 + np_len x2 + (0 + 1)) (vp_nar .byte ((v9 >>> ((nI (24 - (8 * (0 + 1)))) &&& 31)).toInt8.toInt32))) (np_len x1 + np_len x2 + (0 + 1 + 1)) (vp_nar .byte ((v9 >>> ((nI (24 - (8 * (0 + 1 + 1)))) &&& 31)).toInt8.toInt32))) (np_len x1 + np_len x2 + (0 + 1 + 1 + 1)) (vp_nar .byte ((v9 >>> ((nI (24 - (8 * (0 + 1 + 1 + 1)))) &&& 31)).toInt8.toInt32))))) := ⟨_, rfl⟩
          have hG : zP E G321 H := by rw [eG321]; exact hG
          have k322 : G321 a = some (.inr (11, [.int 0, .ref (h2 1), .int (nI tp.length), .ref (h2 3), .ref (h2 4), .int (nI rs.length), .ref (h2 6), .ref (h2 7), .ref (h2 8), .ref (h2 9), .ref (h2 10), .ref (h2 11), .ref (h2 12), .int (nI (wln Wz)), .int co, .ref (h2 15), .int (nI (rPw Wz + ([] : List Int32).length)), .int se, .ref (h2 18), v19, v20])) := by rw [eG321, zg_up_ne (zg_ne k317 k320 (by intro h; simp at h))]; exact k317
          have k323 : G321 (h2 4) = some (.inl (E.2.1 4, 2000, .inr (.inr (.inr (.inr fr2))))) := by rw [eG321, zg_up_ne (zg_ne k318 k320 (by intro h; simp at h))]; exact k318
          have k324 : G321 (rA (re rs 0)) = some (.inr (12, [.ref (rN (re rs 0)), .ref (rD (re rs 0)), (rV (re rs 0)), .int (rT (re rs 0)), .int (rU (re rs 0))])) := by rw [eG321, zg_up_ne (zg_ne k319 k320 (by intro h; simp at h))]; exact k319
          have k325 : G321 q9 = some (.inl (E.2.1 0, (rB (re rs 0)).length, .inl (upd (upd (upd (upd f9 (np_len x1 + np_len x2 + 0) (vp_nar .byte ((v9 >>> ((nI (24 - (8 * 0))) &&& 31)).toInt8.toInt32))) (np_len x1 + np_len x2 + (0 + 1)) (vp_nar .byte ((v9 >>> ((nI (24 - (8 * (0 + 1)))) &&& 31)).toInt8.toInt32))) (np_len x1 + np_len x2 + (0 + 1 + 1)) (vp_nar .byte ((v9 >>> ((nI (24 - (8 * (0 + 1 + 1)))) &&& 31)).toInt8.toInt32))) (np_len x1 + np_len x2 + (0 + 1 + 1 + 1)) (vp_nar .byte ((v9 >>> ((nI (24 - (8 * (0 + 1 + 1 + 1)))) &&& 31)).toInt8.toInt32))))) := by rw [eG321]; exact zg_up_self _ _ _
          refine lv_iinc (v := nI (0 + 1 + 1 + 1 + 1)) (lv' := [(5, .int (nI (0 + 1 + 1 + 1 + 1))), (4, .int ((zl4 f9 (np_len x1 + np_len x2)).toInt32)), (3, .int (nI (np_len x1 + np_len x2))), (2, .ref q9), (0, .ref a), (1, .int v9)]) hx hb d_Mo_serial_68 hl (k := 0) rfl (nI_add (0 + 1 + 1 + 1) 1) (by decide) rfl (fun ls hl => ?_)
          refine lv_goto (tgt := 45) hx hb d_Mo_serial_71 (by decide) ?_
          refine lv_iload hx hb d_Mo_serial_45 (lv_at hl 0 rfl) ?_
          refine lv_iconst (v := 4) hx hb d_Mo_serial_47 (by decide) ?_
          refine lv_icmp_ge (tgt := 74) hx hb d_Mo_serial_48 (by decide) (fun c48 => ?_) (fun c48 => ?_)
          · have b48 : 4 ≤ (0 + 1 + 1 + 1 + 1) := (nI_leI (a := 4) (b := (0 + 1 + 1 + 1 + 1)) (by omega) (by omega)).mp c48
            refine lv_aload_n hx hb d_Mo_serial_74 rfl (lv_at hl 4 rfl) ?_
            refine zg_get (ci := 11) (C := "ZoneAnswersModel") (T := T_Mo) (N := 21) hx hb hts zi_Mo hown hK hG k322 rfl 4 (by decide) (hts _ w_1285) (fun _ h9 => h9) rfl d_Mo_serial_75 ?_
            refine lv_iconst (v := 0) hx hb d_Mo_serial_78 (by decide) ?_
            refine zi_as (y := nI 0) (nI_0.symm) ?_
            refine zg_aldq hx hb hK hG 4 k323 rfl (vp_in_nI (by omega) (by omega)) d_Mo_serial_79 ?_
            refine zr_as (y := fr2 0) (by rw [zi_n _ (by omega)]) ?_
            refine zr_some (a := rA (re rs 0)) (hfr2 0 hpos) ?_
            refine lv_aload_n hx hb d_Mo_serial_80 rfl (lv_at hl 3 rfl) ?_
            refine zg_put (ci := 12) (v := .ref q9) (ty := .array .byte) (C := "ZoneAnswersModel$Rec") (T := T_Re) (N := 5) hx hb hts zi_Re t_Re t_Re_ok n_Re hown hK hG hS k324 rfl 1 (by decide) (hts _ w_1266) (fun _ h9 => h9) rfl (by decide +kernel) rfl rfl (Nat.le_of_ble_eq_true rfl) d_Mo_serial_81 (fun H locs hG hS => ?_)
            obtain ⟨G326, eG326⟩ : ∃ z : zg_G, z = zg_up G321 (rA (re rs 0)) (.inr (12, [.ref (rN (re rs 0)), .ref q9, (rV (re rs 0)), .int (rT (re rs 0)), .int (rU (re rs 0))])) := ⟨_, rfl⟩
            have hG : zP E G326 H := by rw [eG326]; exact hG
            have k327 : G326 a = some (.inr (11, [.int 0, .ref (h2 1), .int (nI tp.length), .ref (h2 3), .ref (h2 4), .int (nI rs.length), .ref (h2 6), .ref (h2 7), .ref (h2 8), .ref (h2 9), .ref (h2 10), .ref (h2 11), .ref (h2 12), .int (nI (wln Wz)), .int co, .ref (h2 15), .int (nI (rPw Wz + ([] : List Int32).length)), .int se, .ref (h2 18), v19, v20])) := by rw [eG326, zg_up_ne (zg_ne k322 k324 (by intro h; simp at h))]; exact k322
            have k328 : G326 (h2 4) = some (.inl (E.2.1 4, 2000, .inr (.inr (.inr (.inr fr2))))) := by rw [eG326, zg_up_ne (zg_ne k323 k324 (by intro h; simp at h))]; exact k323
            have k329 : G326 (rA (re rs 0)) = some (.inr (12, [.ref (rN (re rs 0)), .ref q9, (rV (re rs 0)), .int (rT (re rs 0)), .int (rU (re rs 0))])) := by rw [eG326]; exact zg_up_self _ _ _
            have k330 : G326 q9 = some (.inl (E.2.1 0, (rB (re rs 0)).length, .inl (upd (upd (upd (upd f9 (np_len x1 + np_len x2 + 0) (vp_nar .byte ((v9 >>> ((nI (24 - (8 * 0))) &&& 31)).toInt8.toInt32))) (np_len x1 + np_len x2 + (0 + 1)) (vp_nar .byte ((v9 >>> ((nI (24 - (8 * (0 + 1)))) &&& 31)).toInt8.toInt32))) (np_len x1 + np_len x2 + (0 + 1 + 1)) (vp_nar .byte ((v9 >>> ((nI (24 - (8 * (0 + 1 + 1)))) &&& 31)).toInt8.toInt32))) (np_len x1 + np_len x2 + (0 + 1 + 1 + 1)) (vp_nar .byte ((v9 >>> ((nI (24 - (8 * (0 + 1 + 1 + 1)))) &&& 31)).toInt8.toInt32))))) := by rw [eG326, zg_up_ne (zg_ne k325 k324 (by intro h; simp at h))]; exact k325
            refine lv_iload hx hb d_Mo_serial_84 (lv_at hl 1 rfl) ?_
            have hxa0 : zx z0 G1 G306 := by rw [eG306]; exact hx9.upn nq9
            have hxa1 : zx z0 G1 G311 := by rw [eG311]; exact hxa0.upn nq9
            have hxa2 : zx z0 G1 G316 := by rw [eG316]; exact hxa1.upn nq9
            have hxa3 : zx z0 G1 G321 := by rw [eG321]; exact hxa2.upn nq9
            have hBv : ∀ j, j < (rB (re rs 0)).length → f9 j = (rB (re rs 0)).getD j 0 := fun j hj => by rw [hlo9 j (by omega), Nat.zero_add]; exact hr7 j hj
            have hby9 : zBy E G321 q9 (zs20 (rB (re rs 0)) v9) := ⟨_, by rw [zs20_len]; exact k325, rser_f hsl hBv, zf_fitu (zf_fitu (zf_fitu (zf_fitu hft9)))⟩
            obtain ⟨hst7, hs7⟩ := rSt.ser hst1 hxa3 nq9 hby9
            rw [← eG326] at hst7 hs7
            exact hret _ _ _ _ _ _ _ _ _ hr (rfl) (⟨vse_r hst1.gd hsl hft9 hBv, _, _, rVf_ser q9 v9 hst1.gd, List.length_set, rNu_ser q9 v9 hpos, hst7.o hse, hf1.tr hs7⟩) hG hS (by dsimp only; omega) (by dsimp only; omega) d_Mo_serial_86
          · have b48 : ¬ 4 ≤ (0 + 1 + 1 + 1 + 1) := fun q => c48 ((nI_leI (a := 4) (b := (0 + 1 + 1 + 1 + 1)) (by omega) (by omega)).mpr q)
            exact absurd b48 (by decide)
