theorem rNu1_le {rs : List zRt} {j : Nat} (hj : j < rs.length) : rNu1 (re rs j) ≤ rNu rs := by
  have := rNu_set (rs := rs) (q := 0) hj
  omega
theorem rNc1_le {rs : List zRt} {j : Nat} (hj : j < rs.length) : rNc1 (re rs j) ≤ rNc rs := by
  have := rNc_set (rs := rs) (q := 0) hj
  omega
theorem voff_2 : voff 2 = 0 := by decide
theorem voff_15 : voff 15 = 2 := by decide
theorem voff_33 : voff 33 = 6 := by decide
theorem w_1452 : (.methodLink "ZoneAnswersModel" 274 ⟨"ZoneAnswersModel", "answer", "([BI)V"⟩ : Cond) ∈ zw := zw_at 1452 (by decide +kernel) (by decide +kernel)
theorem w_1454 : (.instanceMethod ⟨"ZoneAnswersModel", "answer", "([BI)V"⟩ : Cond) ∈ zw := zw_at 1454 (by decide +kernel) (by decide +kernel)
theorem w_1455 : (.code ⟨"ZoneAnswersModel", "answer", "([BI)V"⟩ prog_12_method_31_code 10 none : Cond) ∈ zw := zw_at 1455 (by decide +kernel) (by decide +kernel)
theorem w_1572 : (.methodLink "ZoneAnswersModel" 278 ⟨"ZoneAnswersModel", "target", "([BI)[B"⟩ : Cond) ∈ zw := zw_at 1572 (by decide +kernel) (by decide +kernel)
theorem w_1574 : (.instanceMethod ⟨"ZoneAnswersModel", "target", "([BI)[B"⟩ : Cond) ∈ zw := zw_at 1574 (by decide +kernel) (by decide +kernel)
theorem w_1575 : (.code ⟨"ZoneAnswersModel", "target", "([BI)[B"⟩ prog_12_method_49_code 4 (some (.array .byte)) : Cond) ∈ zw := zw_at 1575 (by decide +kernel) (by decide +kernel)
theorem wp_36 : (.selects "ZoneAnswersModel" ⟨"ZoneAnswersModel", "answer", "([BI)V"⟩ ⟨"ZoneAnswersModel", "answer", "([BI)V"⟩ : Cond) ∈ zw := zw_pv 36 (y := ⟨"ZoneAnswersModel", "answer", "([BI)V"⟩) rfl (by decide +kernel)
theorem wp_59 : (.selects "ZoneAnswersModel" ⟨"ZoneAnswersModel", "target", "([BI)[B"⟩ ⟨"ZoneAnswersModel", "target", "([BI)[B"⟩ : Cond) ∈ zw := zw_pv 59 (y := ⟨"ZoneAnswersModel", "target", "([BI)[B"⟩) rfl (by decide +kernel)

abbrev rm_Mo_ask (c1 n1 : Nat) : Room := { frames := 15, cells := c1 + 10, slots := n1 + 265, locals := 480 }
set_option maxHeartbeats 4000000 in
set_option maxRecDepth 100000 in
/-- ask(t, secure), of the reference -/
theorem t_Mo_ask (l : Launch) (E : zc_E) (G : zg_G) (a c1 c2 : Nat) (ro : zRo) (lo : np_N) (rs : List zRt) (Wz : zW) (qp : Prop) (nq : Nat × Int32 × np_N × zWs) (th co se : Int32) (tp : List Int32) (v19 v20 : Value) (hst : rSt E G ro a c1 c2 lo rs Wz ([]) qp nq th tp co se v19 v20) (t u : Int32) (hu : u = 0 ∨ u = 1) (hcn : ∀ x, ((rVf rs) x 5).length ≤ 1) (c9 n9 : Nat) (hB9 : ¬ t < 1 → ¬ 65535 < t → ∀ ls, zTn tp ls → rBd (rcp c2 (rPw Wz)) (vask (rVf rs) lo (zscu u) t (np_low ls)).2 ∧ rPi (rcp c1 (wln Wz)) (rcp c2 (rPw Wz)) (vask (rVf rs) lo (zscu u) t (np_low ls)).2 0 - rPi (rcp c1 (wln Wz)) (rcp c2 (rPw Wz)) (([], [], []) : zW) 0 + 40 + rNc rs ≤ c9 ∧ rPi (rcp c1 (wln Wz)) (rcp c2 (rPw Wz)) (vask (rVf rs) lo (zscu u) t (np_low ls)).2 0 - rPi (rcp c1 (wln Wz)) (rcp c2 (rPw Wz)) (([], [], []) : zW) 0 + 2700 + rNu rs ≤ n9) : zMi l E y_Mo_ask c_Mo_ask 7 (some .int) (rm_Mo_ask c9 n9) [.ref a, .int t, .int u] G (fun (r : Int32) (G2 : zg_G) => ((t < 1 ∨ 65535 < t ∨ ¬ ∃ ls, zTn tp ls) ∧ r = 0 ∧ ∃ r2, rSt E G2 r2 a c1 c2 lo rs Wz ([]) qp nq 1 tp co se v19 v20 ∧ zfr ro zKr G r2 G2) ∨ (¬ t < 1 ∧ ¬ 65535 < t ∧ ∃ r2 rs2 ls nq2, zTn tp ls ∧ r = (vask (rVf rs) lo (zscu u) t (np_low ls)).1 ∧ rSt E G2 r2 a (rcp c1 (wln Wz)) (rcp c2 (rPw Wz)) lo rs2 (vask (rVf rs) lo (zscu u) t (np_low ls)).2 [] True nq2 0 [] (vask (rVf rs) lo (zscu u) t (np_low ls)).1 u v19 v20 ∧ rsm rs rs2 ∧ rNu rs2 ≤ rNu rs ∧ zfr ro zKr G r2 G2)) := by
  refine zMi.of (by decide) (Nat.le_of_ble_eq_true rfl) ?_
  intro p e s m args below meth c Q hZ hG hret ls hl
  obtain ⟨hx, hb, hr, hts, hown, hlocks, hml, hnm, hbase, hK, hN, hQ⟩ := hZ
  have hl : lv_has ls 7 [(0, .ref a), (1, .int t), (2, .int u)] := hl
  have hS : zg_S (zc_b E) s.heap s.heap [] := va_S.rf
  obtain ⟨h, eh0, eh1, eh2, hc⟩ := id hst
  obtain ⟨ra, rb, ⟨fm, rt1, rt2, rt3, rt4⟩, rtl, ⟨fo, rn1, rn2, rn3, rn4, rn5⟩, rr, rg, ras⟩ := id hc
  rw [eh0] at ra
  obtain ⟨⟨fr, rm4, hfr⟩, hn2, hRs⟩ := id rr.1
  refine lv_aload_n hx hb d_Mo_ask_0 rfl (lv_at hl 0 rfl) ?_
  refine lv_iconst (v := 0) hx hb d_Mo_ask_1 (by decide) ?_
  refine zg_put (ci := 11) (v := .int 0) (ty := .int) (C := "ZoneAnswersModel") (T := T_Mo) (N := 21) hx hb hts zi_Mo t_Mo t_Mo_ok n_Mo hown hK hG hS ra rfl 0 (by decide) (hts _ w_1281) (fun _ h9 => h9) rfl (by decide +kernel) rfl rfl (Nat.le_of_ble_eq_true rfl) d_Mo_ask_2 (fun H locs hG hS => ?_)
  obtain ⟨G1, eG1⟩ : ∃ z : zg_G, z = zg_up G a (.inr (11, [.int 0, .ref (h 1), .int (nI tp.length), .ref (h 3), .ref (h 4), .int (nI rs.length), .ref (h 6), .ref (h 7), .ref (h 8), .ref (h 9), .ref (h 10), .ref (h 11), .ref (h 12), .int (nI (wln Wz)), .int co, .ref (h 15), .int (nI (rPw Wz + ([] : List Int32).length)), .int se, .ref (h 18), v19, v20])) := ⟨_, rfl⟩
  have hG : zP E G1 H := by rw [eG1]; exact hG
  have k2 : G1 a = some (.inr (11, [.int 0, .ref (h 1), .int (nI tp.length), .ref (h 3), .ref (h 4), .int (nI rs.length), .ref (h 6), .ref (h 7), .ref (h 8), .ref (h 9), .ref (h 10), .ref (h 11), .ref (h 12), .int (nI (wln Wz)), .int co, .ref (h 15), .int (nI (rPw Wz + ([] : List Int32).length)), .int se, .ref (h 18), v19, v20])) := by rw [eG1]; exact zg_up_self _ _ _
  have k3 : G1 (h 4) = some (.inl (E.2.1 4, 2000, .inr (.inr (.inr (.inr fr))))) := by rw [eG1, zg_up_ne (zg_ne rm4 ra (by intro h; simp at h))]; exact rm4
  have k4 : G1 (h 3) = some (.inl (E.2.1 0, np_len lo, .inl fo)) := by rw [eG1, zg_up_ne (zg_ne rn1 ra (by intro h; simp at h))]; exact rn1
  have k5 : G1 (h 1) = some (.inl (E.2.1 0, 65536, .inl fm)) := by rw [eG1, zg_up_ne (zg_ne rt1 ra (by intro h; simp at h))]; exact rt1
  obtain ⟨hst1, hs1⟩ := rSt.set hst 0 co se v19 v20 ra
  rw [← eG1] at hst1 hs1
  obtain ⟨h1, eh01, eh11, eh21, hc1⟩ := id hst1
  obtain ⟨ra1, rb1, ⟨fm1, rt11, rt21, rt31, rt41⟩, rtl1, ⟨fo1, rn11, rn21, rn31, rn41, rn51⟩, rr1, rg1, ras1⟩ := id hc1
  rw [eh01] at ra1
  obtain ⟨⟨fr1, rm41, hfr1⟩, hn21, hRs1⟩ := id rr1.1
  refine lv_aload_n hx hb d_Mo_ask_5 rfl (lv_at hl 0 rfl) ?_
  have hGo6 := hG
  refine zk_q (va_runV (As := []) (rest := []) ⟨hx, hb, hml, hown, hts⟩ (t_Mo_whole l E G1 a c1 c2 ro lo rs Wz [] qp nq 0 co se tp v19 v20 hst1) (zcV 0 hts w_1433 w_1435 wp_34 w_30 w_1436 (by decide +kernel) ⟨Nat.le_of_ble_eq_true rfl, Nat.le_of_ble_eq_true rfl⟩) (zc_preV hbase hK hN hQ hG hS ra1 rfl) rfl rfl hl.1 rfl (lv_room (Nat.le_of_ble_eq_true rfl)) d_Mo_ask_6 ⟨(by dsimp only; omega), (by dsimp only; omega)⟩) hS (fun r6 G6 H locs hp6 hG hS => ?_)
  rcases hp6 with ⟨ro2, ls9, q9, hTn, er6, hst2, hnm2, hz2⟩ | ⟨hnT, er6, eg6⟩
  · refine zr_some (a := q9) er6 ?_
    have hf2 : zfr ro zKr G ro2 G6 := hs1.tr (hz2.w (fun _ z => z.elim))
    obtain ⟨h2, eh02, eh12, eh22, hc2⟩ := id hst2
    obtain ⟨ra2, rb2, ⟨fm2, rt12, rt22, rt32, rt42⟩, rtl2, ⟨fo2, rn12, rn22, rn32, rn42, rn52⟩, rr2, rg2, ras2⟩ := id hc2
    rw [eh02] at ra2
    obtain ⟨⟨fr2, rm42, hfr2⟩, hn22, hRs2⟩ := id rr2.1
    obtain ⟨f_q92, n1_q92, n2_q92, n3_q92, n4_q92, n5_q92⟩ := id hnm2
    have sm_q92 := n3_q92.2
    refine lv_astore_n (lv' := [(3, .ref q9), (0, .ref a), (1, .int t), (2, .int u)]) hx hb d_Mo_ask_9 rfl hl (by decide) rfl (fun ls hl => ?_)
    refine lv_aload_n hx hb d_Mo_ask_10 rfl (lv_at hl 0 rfl) ?_
    refine lv_ifnull hx hb d_Mo_ask_11 ?_
    refine lv_iload_n hx hb d_Mo_ask_14 rfl (lv_at hl 2 rfl) ?_
    refine lv_iconst (v := 1) hx hb d_Mo_ask_15 (by decide) ?_
    refine lv_icmp_lt (tgt := 25) hx hb d_Mo_ask_16 (by decide) (fun c16 => ?_) (fun c16 => ?_)
    · have hbad : t < 1 ∨ 65535 < t ∨ ¬ ∃ ls, zTn tp ls := Or.inl c16
      refine lv_aload_n hx hb d_Mo_ask_25 rfl (lv_at hl 1 rfl) ?_
      refine lv_iconst (v := 1) hx hb d_Mo_ask_26 (by decide) ?_
      have hGo27 := hG
      refine zk_i (va_runV (As := [.int 1]) (rest := []) ⟨hx, hb, hml, hown, hts⟩ (t_Mo_fail l E G6 a (h2 1) (h2 3) (h2 4) (h2 6) (h2 7) (h2 8) (h2 9) (h2 10) (h2 11) (h2 12) (h2 15) (h2 18) 0 (nI tp.length) (nI rs.length) (nI (wln Wz)) co (nI (rPw Wz + ([] : List Int32).length)) se v19 v20 ra2 1) (zcV 1 hts w_1354 w_1356 wp_26 w_30 w_1357 (by decide +kernel) ⟨Nat.le_of_ble_eq_true rfl, Nat.le_of_ble_eq_true rfl⟩) (zc_preV hbase hK hN hQ hG hS ra2 rfl) rfl rfl hl.1 rfl (lv_room (Nat.le_of_ble_eq_true rfl)) d_Mo_ask_27 ⟨(by dsimp only; omega), (by dsimp only; omega)⟩) hS (fun r27 G27 H locs hp27 hG hS => ?_)
      refine zi_as (y := 0) hp27.1 ?_
      obtain ⟨hstf, hsf⟩ := rSt.set hst2 1 co se v19 v20 ra2
      rw [← hp27.2] at hstf hsf
      have hff := hf2.tr hsf
      exact hret _ _ _ _ _ _ _ _ _ hr (rfl) (Or.inl ⟨hbad, rfl, _, hstf, hff⟩) hG hS (by dsimp only; omega) (by dsimp only; omega) d_Mo_ask_30
    · refine lv_iload_n hx hb d_Mo_ask_19 rfl (lv_at hl 2 rfl) ?_
      refine lv_ldc hx hb hown (hts _ w_1386) d_Mo_ask_20 ?_
      refine lv_icmp_le (tgt := 31) hx hb d_Mo_ask_22 (by decide) (fun c22 => ?_) (fun c22 => ?_)
      · refine lv_aload_n hx hb d_Mo_ask_31 rfl (lv_at hl 1 rfl) ?_
        refine lv_iconst (v := 0) hx hb d_Mo_ask_32 (by decide) ?_
        refine zi_as (y := nI 0) (nI_0.symm) ?_
        refine zg_put (ci := 11) (v := .int (nI 0)) (ty := .int) (C := "ZoneAnswersModel") (T := T_Mo) (N := 21) hx hb hts zi_Mo t_Mo t_Mo_ok n_Mo hown hK hG hS ra2 rfl 2 (by decide) (hts _ w_1283) (fun _ h9 => h9) rfl (by decide +kernel) rfl rfl (Nat.le_of_ble_eq_true rfl) d_Mo_ask_33 (fun H locs hG hS => ?_)
        obtain ⟨G306, eG306⟩ : ∃ z : zg_G, z = zg_up G6 a (.inr (11, [.int 0, .ref (h2 1), .int (nI 0), .ref (h2 3), .ref (h2 4), .int (nI rs.length), .ref (h2 6), .ref (h2 7), .ref (h2 8), .ref (h2 9), .ref (h2 10), .ref (h2 11), .ref (h2 12), .int (nI (wln Wz)), .int co, .ref (h2 15), .int (nI (rPw Wz + ([] : List Int32).length)), .int se, .ref (h2 18), v19, v20])) := ⟨_, rfl⟩
        have hG : zP E G306 H := by rw [eG306]; exact hG
        have k307 : G306 a = some (.inr (11, [.int 0, .ref (h2 1), .int (nI 0), .ref (h2 3), .ref (h2 4), .int (nI rs.length), .ref (h2 6), .ref (h2 7), .ref (h2 8), .ref (h2 9), .ref (h2 10), .ref (h2 11), .ref (h2 12), .int (nI (wln Wz)), .int co, .ref (h2 15), .int (nI (rPw Wz + ([] : List Int32).length)), .int se, .ref (h2 18), v19, v20])) := by rw [eG306]; exact zg_up_self _ _ _
        refine lv_aload_n hx hb d_Mo_ask_36 rfl (lv_at hl 1 rfl) ?_
        refine lv_iconst (v := 0) hx hb d_Mo_ask_37 (by decide) ?_
        refine zi_as (y := nI 0) (nI_0.symm) ?_
        refine zg_put (ci := 11) (v := .int (nI 0)) (ty := .int) (C := "ZoneAnswersModel") (T := T_Mo) (N := 21) hx hb hts zi_Mo t_Mo t_Mo_ok n_Mo hown hK hG hS k307 rfl 13 (by decide) (hts _ w_1294) (fun _ h9 => h9) rfl (by decide +kernel) rfl rfl (Nat.le_of_ble_eq_true rfl) d_Mo_ask_38 (fun H locs hG hS => ?_)
        obtain ⟨G308, eG308⟩ : ∃ z : zg_G, z = zg_up G306 a (.inr (11, [.int 0, .ref (h2 1), .int (nI 0), .ref (h2 3), .ref (h2 4), .int (nI rs.length), .ref (h2 6), .ref (h2 7), .ref (h2 8), .ref (h2 9), .ref (h2 10), .ref (h2 11), .ref (h2 12), .int (nI 0), .int co, .ref (h2 15), .int (nI (rPw Wz + ([] : List Int32).length)), .int se, .ref (h2 18), v19, v20])) := ⟨_, rfl⟩
        have hG : zP E G308 H := by rw [eG308]; exact hG
        have k309 : G308 a = some (.inr (11, [.int 0, .ref (h2 1), .int (nI 0), .ref (h2 3), .ref (h2 4), .int (nI rs.length), .ref (h2 6), .ref (h2 7), .ref (h2 8), .ref (h2 9), .ref (h2 10), .ref (h2 11), .ref (h2 12), .int (nI 0), .int co, .ref (h2 15), .int (nI (rPw Wz + ([] : List Int32).length)), .int se, .ref (h2 18), v19, v20])) := by rw [eG308]; exact zg_up_self _ _ _
        refine lv_aload_n hx hb d_Mo_ask_41 rfl (lv_at hl 1 rfl) ?_
        refine lv_iconst (v := 0) hx hb d_Mo_ask_42 (by decide) ?_
        refine zi_as (y := nI 0) (nI_0.symm) ?_
        refine zg_put (ci := 11) (v := .int (nI 0)) (ty := .int) (C := "ZoneAnswersModel") (T := T_Mo) (N := 21) hx hb hts zi_Mo t_Mo t_Mo_ok n_Mo hown hK hG hS k309 rfl 16 (by decide) (hts _ w_1297) (fun _ h9 => h9) rfl (by decide +kernel) rfl rfl (Nat.le_of_ble_eq_true rfl) d_Mo_ask_43 (fun H locs hG hS => ?_)
        obtain ⟨G310, eG310⟩ : ∃ z : zg_G, z = zg_up G308 a (.inr (11, [.int 0, .ref (h2 1), .int (nI 0), .ref (h2 3), .ref (h2 4), .int (nI rs.length), .ref (h2 6), .ref (h2 7), .ref (h2 8), .ref (h2 9), .ref (h2 10), .ref (h2 11), .ref (h2 12), .int (nI 0), .int co, .ref (h2 15), .int (nI 0), .int se, .ref (h2 18), v19, v20])) := ⟨_, rfl⟩
        have hG : zP E G310 H := by rw [eG310]; exact hG
        have k311 : G310 a = some (.inr (11, [.int 0, .ref (h2 1), .int (nI 0), .ref (h2 3), .ref (h2 4), .int (nI rs.length), .ref (h2 6), .ref (h2 7), .ref (h2 8), .ref (h2 9), .ref (h2 10), .ref (h2 11), .ref (h2 12), .int (nI 0), .int co, .ref (h2 15), .int (nI 0), .int se, .ref (h2 18), v19, v20])) := by rw [eG310]; exact zg_up_self _ _ _
        refine lv_aload_n hx hb d_Mo_ask_46 rfl (lv_at hl 1 rfl) ?_
        refine lv_iconst (v := 0) hx hb d_Mo_ask_47 (by decide) ?_
        refine zg_put (ci := 11) (v := .int 0) (ty := .int) (C := "ZoneAnswersModel") (T := T_Mo) (N := 21) hx hb hts zi_Mo t_Mo t_Mo_ok n_Mo hown hK hG hS k311 rfl 14 (by decide) (hts _ w_1295) (fun _ h9 => h9) rfl (by decide +kernel) rfl rfl (Nat.le_of_ble_eq_true rfl) d_Mo_ask_48 (fun H locs hG hS => ?_)
        obtain ⟨G312, eG312⟩ : ∃ z : zg_G, z = zg_up G310 a (.inr (11, [.int 0, .ref (h2 1), .int (nI 0), .ref (h2 3), .ref (h2 4), .int (nI rs.length), .ref (h2 6), .ref (h2 7), .ref (h2 8), .ref (h2 9), .ref (h2 10), .ref (h2 11), .ref (h2 12), .int (nI 0), .int 0, .ref (h2 15), .int (nI 0), .int se, .ref (h2 18), v19, v20])) := ⟨_, rfl⟩
        have hG : zP E G312 H := by rw [eG312]; exact hG
        have k313 : G312 a = some (.inr (11, [.int 0, .ref (h2 1), .int (nI 0), .ref (h2 3), .ref (h2 4), .int (nI rs.length), .ref (h2 6), .ref (h2 7), .ref (h2 8), .ref (h2 9), .ref (h2 10), .ref (h2 11), .ref (h2 12), .int (nI 0), .int 0, .ref (h2 15), .int (nI 0), .int se, .ref (h2 18), v19, v20])) := by rw [eG312]; exact zg_up_self _ _ _
        refine lv_aload_n hx hb d_Mo_ask_51 rfl (lv_at hl 1 rfl) ?_
        refine lv_iload_n hx hb d_Mo_ask_52 rfl (lv_at hl 3 rfl) ?_
        refine zg_put (ci := 11) (v := .int u) (ty := .boolean) (C := "ZoneAnswersModel") (T := T_Mo) (N := 21) hx hb hts zi_Mo t_Mo t_Mo_ok n_Mo hown hK hG hS k313 rfl 17 (by decide) (hts _ w_1298) (fun _ h9 => h9) rfl (by decide +kernel) (by rcases hu with z | z <;> rw [z] <;> rfl) (by rcases hu with z | z <;> rw [z] <;> rfl) (Nat.le_of_ble_eq_true rfl) d_Mo_ask_53 (fun H locs hG hS => ?_)
        obtain ⟨G314, eG314⟩ : ∃ z : zg_G, z = zg_up G312 a (.inr (11, [.int 0, .ref (h2 1), .int (nI 0), .ref (h2 3), .ref (h2 4), .int (nI rs.length), .ref (h2 6), .ref (h2 7), .ref (h2 8), .ref (h2 9), .ref (h2 10), .ref (h2 11), .ref (h2 12), .int (nI 0), .int 0, .ref (h2 15), .int (nI 0), .int u, .ref (h2 18), v19, v20])) := ⟨_, rfl⟩
        have hG : zP E G314 H := by rw [eG314]; exact hG
        have k315 : G314 a = some (.inr (11, [.int 0, .ref (h2 1), .int (nI 0), .ref (h2 3), .ref (h2 4), .int (nI rs.length), .ref (h2 6), .ref (h2 7), .ref (h2 8), .ref (h2 9), .ref (h2 10), .ref (h2 11), .ref (h2 12), .int (nI 0), .int 0, .ref (h2 15), .int (nI 0), .int u, .ref (h2 18), v19, v20])) := by rw [eG314]; exact zg_up_self _ _ _
        obtain ⟨hBt, hc9, hn9⟩ := hB9 c16 (Int32.not_lt.mpr c22) ls9 hTn
        have eGf : G314 = zg_up G6 a (.inr (11, [.int 0, .ref (h2 1), .int (nI 0), .ref (h2 3), .ref (h2 4), .int (nI rs.length), .ref (h2 6), .ref (h2 7), .ref (h2 8), .ref (h2 9), .ref (h2 10), .ref (h2 11), .ref (h2 12), .int (nI 0), .int 0, .ref (h2 15), .int (nI 0), .int u, .ref (h2 18), v19, v20])) := by rw [eG314, eG312, eG310, eG308, eG306, zg_up_up, zg_up_up, zg_up_up, zg_up_up]
        obtain ⟨hst3, hs3⟩ := rSt.clr hst2 _ _ _ _ _ _ 0 0 u ra2
        rw [← eGf] at hst3 hs3
        obtain ⟨d1, ed1⟩ : ∃ z, z = rcp c1 (wln Wz) := ⟨_, rfl⟩
        obtain ⟨d2, ed2⟩ : ∃ z, z = rcp c2 (rPw Wz) := ⟨_, rfl⟩
        have hst3 : rSt E G314 ro2 a d1 d2 lo rs (([], [], []) : zW) [] True (0, 0, [], []) 0 [] 0 u v19 v20 := by rw [ed1, ed2]; exact hst3
        have hf3 := hf2.tr hs3
        have hnm3 := hnm2.fr hs3 zKr_0
        rw [← ed1, ← ed2] at hn9 hc9
        rw [← ed2] at hBt
        have hd1 : 0 < d1 := by have := hst3.cs.1; omega
        have hd2 : 0 < d2 := by have := hst3.cs.2.1; omega
        have hgd := hst3.gd
        obtain ⟨h3, eh03, eh13, eh23, hc3⟩ := id hst3
        obtain ⟨ra3, rb3, ⟨fm3, rt13, rt23, rt33, rt43⟩, rtl3, ⟨fo3, rn13, rn23, rn33, rn43, rn53⟩, rr3, rg3, ras3⟩ := id hc3
        rw [eh03] at ra3
        obtain ⟨⟨fr3, rm43, hfr3⟩, hn23, hRs3⟩ := id rr3.1
        obtain ⟨f_q93, n1_q93, n2_q93, n3_q93, n4_q93, n5_q93⟩ := id hnm3
        have sm_q93 := n3_q93.2
        refine lv_aload_n hx hb d_Mo_ask_56 rfl (lv_at hl 0 rfl) ?_
        refine lv_aload_n hx hb d_Mo_ask_57 rfl (lv_at hl 1 rfl) ?_
        refine zg_get (ci := 11) (C := "ZoneAnswersModel") (T := T_Mo) (N := 21) hx hb hts zi_Mo hown hK hG ra3 rfl 3 (by decide) (hts _ w_1284) (fun _ h9 => h9) rfl d_Mo_ask_58 ?_
        refine zk_i (va_runS (As := [.ref q9, .ref (h3 3)]) (rest := []) ⟨hx, hb, hml, hown, hts⟩ (t_Ns_below l E G314 q9 (np_low ls9) f_q93 n1_q93 n2_q93 n3_q93 (h3 3) lo fo3 rn13 rn23 rn33) (zcS 2 hts w_1392 w_1393 w_33 w_1394 (by decide +kernel) ⟨Nat.le_of_ble_eq_true rfl, Nat.le_of_ble_eq_true rfl⟩) (zc_pre hbase hK hN hQ hG hS) rfl rfl hl.1 rfl (lv_room (Nat.le_of_ble_eq_true rfl)) d_Mo_ask_61 ⟨(by dsimp only; omega), (by dsimp only; omega)⟩) hS (fun r61 G61 H locs hp61 hG hS => ?_)
        have hG : zP E G314 H := hp61.2 ▸ hG
        refine lv_if_ne (tgt := 77) hx hb d_Mo_ask_64 (by decide) (fun c64 => ?_) (fun c64 => ?_)
        · have hlox := hp61.1.nz c64
          have hak := vask_y (V := (rVf rs)) (sec := zscu u) (t := t) hlox
          have hle0 : zLe (vfo (rVf rs) lo (zscu u) t 9 (([], [], []) : zW) (np_low ls9)).2 (vask (rVf rs) lo (zscu u) t (np_low ls9)).2 := by rw [hak]; exact vfold_le _ (fun W e => vam_le _ _ W e) _ _
          have hBv := hBt.le hd2 hle0
          have hwb := hBv.1
          have hp0 := rPi_le (n := 0) (m := 0) hd1 hd2 hle0 (rPw_le hle0)
          have hlz : zLe (([], [], []) : zW) (vfo (rVf rs) lo (zscu u) t 9 (([], [], []) : zW) (np_low ls9)).2 := vfo_le _ _ _
          have hpz := rPi_le (n := 0) (m := 0) hd1 hd2 hlz (rPw_le hlz)
          refine lv_aload_n hx hb d_Mo_ask_77 rfl (lv_at hl 1 rfl) ?_
          refine lv_aload_n hx hb d_Mo_ask_78 rfl (lv_at hl 0 rfl) ?_
          refine lv_iload_n hx hb d_Mo_ask_79 rfl (lv_at hl 2 rfl) ?_
          have hGo80 := hG
          refine zk_v (va_runV (As := [.ref q9, .int t]) (rest := []) ⟨hx, hb, hml, hown, hts⟩ (t_Mo_answer l E G314 a d1 d2 ro2 lo rs (([], [], []) : zW) [] 0 0 u [] v19 v20 hst3 q9 (np_low ls9) hnm3 t rfl hcn hBv) (zcV 2 hts w_1452 w_1454 wp_36 w_30 w_1455 (by decide +kernel) ⟨Nat.le_of_ble_eq_true rfl, Nat.le_of_ble_eq_true rfl⟩) (zc_preV hbase hK hN hQ hG hS ra3 rfl) rfl rfl hl.1 rfl (lv_room (Nat.le_of_ble_eq_true rfl)) d_Mo_ask_80 ⟨(by dsimp only [List.length_nil]; omega), (by dsimp only [List.length_nil]; omega)⟩) hS (fun G80 H locs hp80 hG hS => ?_)
          obtain ⟨ro4, hst4, hs4⟩ := hp80
          obtain ⟨ws0, hw1, hw2, hw3, hst4⟩ := hst4.wp
          have hst4 : rSt E G80 ro4 a d1 d2 lo rs ((vfo (rVf rs) lo (zscu u) t 9 (([], [], []) : zW) (np_low ls9)).2) [] True (wln ((vfo (rVf rs) lo (zscu u) t 9 (([], [], []) : zW) (np_low ls9)).2), 0, [], ws0) 0 [] ((vfo (rVf rs) lo (zscu u) t 9 (([], [], []) : zW) (np_low ls9)).1) u v19 v20 := hst4
          have hf4 := hf3.tr hs4
          refine zW_more (cells2 := rPi d1 d2 ((vfo (rVf rs) lo (zscu u) t 9 (([], [], []) : zW) (np_low ls9)).2) 0 - rPi d1 d2 (([], [], []) : zW) 0 + 40 + (rNc rs - rNc rs) + 5) (slots2 := rPi d1 d2 ((vfo (rVf rs) lo (zscu u) t 9 (([], [], []) : zW) (np_low ls9)).2) 0 - rPi d1 d2 (([], [], []) : zW) 0 + 2700 + (rNu rs - rNu rs) + 5 + 255) (by dsimp only [List.length_nil]; omega) (by dsimp only [List.length_nil]; omega) ?_
          have hWE : (vask (rVf rs) lo (zscu u) t (np_low ls9)).2 = rFo (rVf rs) lo ws0 (vfo (rVf rs) lo (zscu u) t 9 (([], [], []) : zW) (np_low ls9)).2 ws0.length := by rw [rFo_all hw1, hak]
          obtain ⟨h4, eh04, eh14, eh24, hc4⟩ := id hst4
          obtain ⟨ra4, rb4, ⟨fm4, rt14, rt24, rt34, rt44⟩, rtl4, ⟨fo4, rn14, rn24, rn34, rn44, rn54⟩, rr4, rg4, ras4⟩ := id hc4
          rw [eh04] at ra4
          obtain ⟨⟨fr4, rm44, hfr4⟩, hn24, hRs4⟩ := id rr4.1
          refine lv_aload_n hx hb d_Mo_ask_83 rfl (lv_at hl 1 rfl) ?_
          refine zg_get (ci := 11) (C := "ZoneAnswersModel") (T := T_Mo) (N := 21) hx hb hts zi_Mo hown hK hG ra4 rfl 13 (by decide) (hts _ w_1294) (fun _ h9 => h9) rfl d_Mo_ask_84 ?_
          refine lv_istore (lv' := [(4, .int (nI (wln ((vfo (rVf rs) lo (zscu u) t 9 (([], [], []) : zW) (np_low ls9)).2)))), (3, .ref q9), (0, .ref a), (1, .int t), (2, .int u)]) hx hb d_Mo_ask_87 hl (by decide) rfl (fun ls hl => ?_)
          refine lv_iconst (v := 0) hx hb d_Mo_ask_89 (by decide) ?_
          refine zi_as (y := nI 0) (nI_0.symm) ?_
          refine lv_istore (lv' := [(5, .int (nI 0)), (4, .int (nI (wln ((vfo (rVf rs) lo (zscu u) t 9 (([], [], []) : zW) (np_low ls9)).2)))), (3, .ref q9), (0, .ref a), (1, .int t), (2, .int u)]) hx hb d_Mo_ask_90 hl (by decide) rfl (fun ls hl => ?_)
          have loop92 : ∀ (N : Nat) (Gv : zg_G) (i : Nat) (rs8 : List zRt) (ro8 : zRo) (H : Heap) (locs : List Loc), (ws0.length - i) < N → (i ≤ ws0.length) → (rSt E Gv ro8 a d1 d2 lo rs8 (rFo (rVf rs) lo ws0 (vfo (rVf rs) lo (zscu u) t 9 (([], [], []) : zW) (np_low ls9)).2 i) [] True (wln (rFo (rVf rs) lo ws0 (vfo (rVf rs) lo (zscu u) t 9 (([], [], []) : zW) (np_low ls9)).2 i), 0, [], ws0) 0 [] ((vfo (rVf rs) lo (zscu u) t 9 (([], [], []) : zW) (np_low ls9)).1) u v19 v20) → (rsm rs rs8) → (rNu rs8 ≤ rNu rs) → (rNc rs8 ≤ rNc rs) → (zfr ro zKr G ro8 Gv) → zP E Gv H → zg_S (zc_b E) s.heap H locs → ∀ (ls : Array Slot), lv_has ls 7 [(0, .ref a), (4, .int (nI (wln (vfo (rVf rs) lo (zscu u) t 9 (([], [], []) : zW) (np_low ls9)).2))), (5, .int (nI i))] → W p l e (rm_Mo_ask c9 n9) s m args below meth c H locs (rPi d1 d2 (rFo (rVf rs) lo ws0 (vfo (rVf rs) lo (zscu u) t 9 (([], [], []) : zW) (np_low ls9)).2 i) 0 - rPi d1 d2 (([], [], []) : zW) 0 + 40 + (rNc rs - rNc rs8) + 5) (rPi d1 d2 (rFo (rVf rs) lo ws0 (vfo (rVf rs) lo (zscu u) t 9 (([], [], []) : zW) (np_low ls9)).2 i) 0 - rPi d1 d2 (([], [], []) : zW) 0 + 2700 + (rNu rs - rNu rs8) + 5 + 255) Q (F0 m 92 ls []) := by
            intro N
            induction N with
            | zero =>
              intro Gv i rs8 ro8 H locs hlt
              exact absurd hlt (Nat.not_lt_zero _)
            | succ N ih =>
              intro Gv i rs8 ro8 H locs hlt hi hst8 hrs hnu hnc hf8 hG hS ls hl
              obtain ⟨h8, eh08, eh18, eh28, hc8⟩ := id hst8
              obtain ⟨ra8, rb8, ⟨fm8, rt18, rt28, rt38, rt48⟩, rtl8, ⟨fo8, rn18, rn28, rn38, rn48, rn58⟩, rr8, rg8, ras8⟩ := id hc8
              rw [eh08] at ra8
              obtain ⟨⟨fr8, rm48, hfr8⟩, hn28, hRs8⟩ := id rr8.1
              have hV8 : rVf rs8 = (rVf rs) := hrs.V
              have hleI : zLe (rFo (rVf rs) lo ws0 (vfo (rVf rs) lo (zscu u) t 9 (([], [], []) : zW) (np_low ls9)).2 i) (vask (rVf rs) lo (zscu u) t (np_low ls9)).2 := by rw [hWE]; exact rFo_le hi
              have hpI := rPi_le (n := 0) (m := 0) hd1 hd2 hleI (rPw_le hleI)
              have hle0I : zLe (vfo (rVf rs) lo (zscu u) t 9 (([], [], []) : zW) (np_low ls9)).2 (rFo (rVf rs) lo ws0 (vfo (rVf rs) lo (zscu u) t 9 (([], [], []) : zW) (np_low ls9)).2 i) := rFo_le (i := 0) (Nat.zero_le _)
              have hp0I := rPi_le (n := 0) (m := 0) hd1 hd2 hle0I (rPw_le hle0I)
              refine lv_iload hx hb d_Mo_ask_92 (lv_at hl 2 rfl) ?_
              refine lv_iload hx hb d_Mo_ask_94 (lv_at hl 1 rfl) ?_
              refine lv_icmp_ge (tgt := 227) hx hb d_Mo_ask_96 (by decide) (fun c96 => ?_) (fun c96 => ?_)
              · have b96 : (wln (vfo (rVf rs) lo (zscu u) t 9 (([], [], []) : zW) (np_low ls9)).2) ≤ i := (nI_leI (a := (wln (vfo (rVf rs) lo (zscu u) t 9 (([], [], []) : zW) (np_low ls9)).2)) (b := i) (by omega) (by omega)).mp c96
                refine lv_aload_n hx hb d_Mo_ask_227 rfl (lv_at hl 0 rfl) ?_
                refine zg_get (ci := 11) (C := "ZoneAnswersModel") (T := T_Mo) (N := 21) hx hb hts zi_Mo hown hK hG ra8 rfl 14 (by decide) (hts _ w_1295) (fun _ h9 => h9) rfl d_Mo_ask_228 ?_
                exact hret _ _ _ _ _ _ _ _ _ hr (rfl) (Or.inr ⟨c16, Int32.not_lt.mpr c22, ro8, rs8, ls9, _, hTn, by rw [hak], by rw [hWE, show ws0.length = i by omega, show (vask (rVf rs) lo (zscu u) t (np_low ls9)).1 = (vfo (rVf rs) lo (zscu u) t 9 (([], [], []) : zW) (np_low ls9)).1 from by rw [hak], ← ed1, ← ed2]; exact hst8, hrs, hnu, hf8⟩) hG hS (by dsimp only; omega) (by dsimp only; omega) d_Mo_ask_231
              · have b96 : ¬ (wln (vfo (rVf rs) lo (zscu u) t 9 (([], [], []) : zW) (np_low ls9)).2) ≤ i := fun q => c96 ((nI_leI (a := (wln (vfo (rVf rs) lo (zscu u) t 9 (([], [], []) : zW) (np_low ls9)).2)) (b := i) (by omega) (by omega)).mpr q)
                have hin : i < ws0.length := by omega
                obtain ⟨cap8, f68, f78, f128, hcp1, hcp2, g6, g7, g12, e6, e7, e12⟩ := rCx.row hc8 trivial hin
                have e6 : f68 i = (we ws0 i).1 := e6
                have e7 : f78 i = (we ws0 i).2.2.1 := e7
                refine lv_aload_n hx hb d_Mo_ask_99 rfl (lv_at hl 0 rfl) ?_
                refine zg_get (ci := 11) (C := "ZoneAnswersModel") (T := T_Mo) (N := 21) hx hb hts zi_Mo hown hK hG ra8 rfl 6 (by decide) (hts _ w_1287) (fun _ h9 => h9) rfl d_Mo_ask_100 ?_
                refine lv_iload hx hb d_Mo_ask_103 (lv_at hl 2 rfl) ?_
                refine zg_iald hx hb hK hG 1 g6 rfl (vp_in_nI (by omega) (by omega)) d_Mo_ask_105 ?_
                refine zi_as (y := (we ws0 i).1) (by rw [zi_n _ (by omega)]; exact e6) ?_
                refine lv_iconst (v := 1) hx hb d_Mo_ask_106 (by decide) ?_
                refine lv_icmp_ne (tgt := 221) hx hb d_Mo_ask_107 (by decide) (fun c107 => ?_) (fun c107 => ?_)
                · refine lv_iinc (v := nI (i + 1)) (lv' := [(5, .int (nI (i + 1))), (0, .ref a), (4, .int (nI (wln (vfo (rVf rs) lo (zscu u) t 9 (([], [], []) : zW) (np_low ls9)).2)))]) hx hb d_Mo_ask_221 hl (k := 2) rfl (nI_add i 1) (by decide) rfl (fun ls hl => ?_)
                  refine lv_goto (tgt := 92) hx hb d_Mo_ask_224 (by decide) ?_
                  have hsk : rFo (rVf rs) lo ws0 (vfo (rVf rs) lo (zscu u) t 9 (([], [], []) : zW) (np_low ls9)).2 (i + 1) = rFo (rVf rs) lo ws0 (vfo (rVf rs) lo (zscu u) t 9 (([], [], []) : zW) (np_low ls9)).2 i := rFo_n hin c107
                  have hst6 : rSt E Gv ro8 a d1 d2 lo rs8 (rFo (rVf rs) lo ws0 (vfo (rVf rs) lo (zscu u) t 9 (([], [], []) : zW) (np_low ls9)).2 (i + 1)) [] True (wln (rFo (rVf rs) lo ws0 (vfo (rVf rs) lo (zscu u) t 9 (([], [], []) : zW) (np_low ls9)).2 (i + 1)), 0, [], ws0) 0 [] ((vfo (rVf rs) lo (zscu u) t 9 (([], [], []) : zW) (np_low ls9)).1) u v19 v20 := by rw [hsk]; exact hst8
                  refine zW_more (cells2 := rPi d1 d2 (rFo (rVf rs) lo ws0 (vfo (rVf rs) lo (zscu u) t 9 (([], [], []) : zW) (np_low ls9)).2 (i + 1)) 0 - rPi d1 d2 (([], [], []) : zW) 0 + 40 + (rNc rs - rNc rs8) + 5) (slots2 := rPi d1 d2 (rFo (rVf rs) lo ws0 (vfo (rVf rs) lo (zscu u) t 9 (([], [], []) : zW) (np_low ls9)).2 (i + 1)) 0 - rPi d1 d2 (([], [], []) : zW) 0 + 2700 + (rNu rs - rNu rs8) + 5 + 255) (by rw [hsk]; exact Nat.le_refl _) (by rw [hsk]; exact Nat.le_refl _) ?_
                  exact ih Gv (i + 1) rs8 ro8 _ _ (by omega) (by omega) (hst6) (hrs) (hnu) (hnc) (hf8) hG hS ls (lv_sub hl [1, 2, 0] rfl)
                · obtain ⟨j8, hj8, ej1, ej2, ej3⟩ := e12 c107
                  have ej2 : rT (re rs8 j8) = (we ws0 i).2.2.1 := ej2
                  have ej3 : rB (re rs8 j8) = (we ws0 i).2.2.2.2 := ej3
                  have ej1 : f128 i = some (rD (re rs8 j8)) := ej1
                  refine lv_aload_n hx hb d_Mo_ask_110 rfl (lv_at hl 0 rfl) ?_
                  refine zg_get (ci := 11) (C := "ZoneAnswersModel") (T := T_Mo) (N := 21) hx hb hts zi_Mo hown hK hG ra8 rfl 7 (by decide) (hts _ w_1288) (fun _ h9 => h9) rfl d_Mo_ask_111 ?_
                  refine lv_iload hx hb d_Mo_ask_114 (lv_at hl 2 rfl) ?_
                  refine zg_iald hx hb hK hG 1 g7 rfl (vp_in_nI (by omega) (by omega)) d_Mo_ask_116 ?_
                  refine zi_as (y := (we ws0 i).2.2.1) (by rw [zi_n _ (by omega)]; exact e7) ?_
                  refine lv_iconst (v := 2) hx hb d_Mo_ask_117 (by decide) ?_
                  refine lv_icmp_eq (tgt := 148) hx hb d_Mo_ask_118 (by decide) (fun c118 => ?_) (fun c118 => ?_)
                  · refine lv_aload_n hx hb d_Mo_ask_148 rfl (lv_at hl 0 rfl) ?_
                    refine lv_aload_n hx hb d_Mo_ask_149 rfl (lv_at hl 0 rfl) ?_
                    refine zg_get (ci := 11) (C := "ZoneAnswersModel") (T := T_Mo) (N := 21) hx hb hts zi_Mo hown hK hG ra8 rfl 12 (by decide) (hts _ w_1293) (fun _ h9 => h9) rfl d_Mo_ask_150 ?_
                    refine lv_iload hx hb d_Mo_ask_153 (lv_at hl 2 rfl) ?_
                    refine zg_aldA hx hb hK hG 5 g12 rfl (vp_in_nI (by omega) (by omega)) d_Mo_ask_155 ?_
                    refine zr_as (y := f128 i) (by rw [zi_n _ (by omega)]) ?_
                    refine zr_some (a := rD (re rs8 j8)) (ej1) ?_
                    refine lv_aload_n hx hb d_Mo_ask_156 rfl (lv_at hl 0 rfl) ?_
                    refine zg_get (ci := 11) (C := "ZoneAnswersModel") (T := T_Mo) (N := 21) hx hb hts zi_Mo hown hK hG ra8 rfl 7 (by decide) (hts _ w_1288) (fun _ h9 => h9) rfl d_Mo_ask_157 ?_
                    refine lv_iload hx hb d_Mo_ask_160 (lv_at hl 2 rfl) ?_
                    refine zg_iald hx hb hK hG 1 g7 rfl (vp_in_nI (by omega) (by omega)) d_Mo_ask_162 ?_
                    refine zi_as (y := (we ws0 i).2.2.1) (by rw [zi_n _ (by omega)]; exact e7) ?_
                    refine lv_iconst (v := 2) hx hb d_Mo_ask_163 (by decide) ?_
                    refine lv_icmp_ne (tgt := 171) hx hb d_Mo_ask_164 (by decide) (fun c164 => ?_) (fun c164 => ?_)
                    · exact absurd c118 c164
                    · refine lv_iconst (v := 0) hx hb d_Mo_ask_167 (by decide) ?_
                      refine zi_as (y := nI 0) (nI_0.symm) ?_
                      refine lv_goto (tgt := 189) hx hb d_Mo_ask_168 (by decide) ?_
                      have hGo189 := hG
                      refine zk_q (va_runV (As := [.ref (rD (re rs8 j8)), .int (nI 0)]) (rest := []) ⟨hx, hb, hml, hown, hts⟩ (t_Mo_target l E Gv a d1 d2 ro8 lo rs8 (rFo (rVf rs) lo ws0 (vfo (rVf rs) lo (zscu u) t 9 (([], [], []) : zW) (np_low ls9)).2 i) [] True (wln (rFo (rVf rs) lo ws0 (vfo (rVf rs) lo (zscu u) t 9 (([], [], []) : zW) (np_low ls9)).2 i), 0, [], ws0) 0 ((vfo (rVf rs) lo (zscu u) t 9 (([], [], []) : zW) (np_low ls9)).1) u [] v19 v20 hst8 j8 hj8 0 (by rw [ej2, c118]; decide) (by rw [ej2]; exact Or.inl c118)) (zcV 2 hts w_1572 w_1574 wp_59 w_30 w_1575 (by decide +kernel) ⟨Nat.le_of_ble_eq_true rfl, Nat.le_of_ble_eq_true rfl⟩) (zc_preV hbase hK hN hQ hG hS ra8 rfl) rfl rfl hl.1 rfl (lv_room (Nat.le_of_ble_eq_true rfl)) d_Mo_ask_189 ⟨(by have := rNc1_le hj8; dsimp only [List.length_nil]; omega), (by have := rNu1_le hj8; dsimp only [List.length_nil]; omega)⟩) hS (fun r189 G189 H locs hp189 hG hS => ?_)
                      obtain ⟨ro5, rs5, q5, er5, hst5, hrs5, hnm5, hs5, hnu5, hnc5⟩ := hp189
                      rw [ej2, ej3] at hnm5
                      refine zr_some (a := q5) er5 ?_
                      have hf5 := hf8.tr hs5
                      have hrsq := hrs.tr hrs5
                      have hV5 : rVf rs5 = (rVf rs) := hrsq.V
                      have hnuq := rNu1_le hj8
                      have hncq := rNc1_le hj8
                      refine zW_more (cells2 := rPi d1 d2 (rFo (rVf rs) lo ws0 (vfo (rVf rs) lo (zscu u) t 9 (([], [], []) : zW) (np_low ls9)).2 i) 0 - rPi d1 d2 (([], [], []) : zW) 0 + 40 + (rNc rs - rNc rs5) + 5) (slots2 := rPi d1 d2 (rFo (rVf rs) lo ws0 (vfo (rVf rs) lo (zscu u) t 9 (([], [], []) : zW) (np_low ls9)).2 i) 0 - rPi d1 d2 (([], [], []) : zW) 0 + 2700 + (rNu rs - rNu rs5) + 5 + 255) (by dsimp only [List.length_nil]; omega) (by dsimp only [List.length_nil]; omega) ?_
                      obtain ⟨h5, eh05, eh15, eh25, hc5⟩ := id hst5
                      obtain ⟨ra5, rb5, ⟨fm5, rt15, rt25, rt35, rt45⟩, rtl5, ⟨fo5, rn15, rn25, rn35, rn45, rn55⟩, rr5, rg5, ras5⟩ := id hc5
                      rw [eh05] at ra5
                      obtain ⟨⟨fr5, rm45, hfr5⟩, hn25, hRs5⟩ := id rr5.1
                      obtain ⟨f_q55, n1_q55, n2_q55, n3_q55, n4_q55, n5_q55⟩ := id hnm5
                      have sm_q55 := n3_q55.2
                      refine lv_astore (lv' := [(6, .ref q5), (0, .ref a), (4, .int (nI (wln (vfo (rVf rs) lo (zscu u) t 9 (([], [], []) : zW) (np_low ls9)).2))), (5, .int (nI i))]) hx hb d_Mo_ask_192 hl (by decide) rfl (fun ls hl => ?_)
                      refine lv_aload hx hb d_Mo_ask_194 (lv_at hl 0 rfl) ?_
                      refine lv_aload_n hx hb d_Mo_ask_196 rfl (lv_at hl 1 rfl) ?_
                      refine zg_get (ci := 11) (C := "ZoneAnswersModel") (T := T_Mo) (N := 21) hx hb hts zi_Mo hown hK hG ra5 rfl 3 (by decide) (hts _ w_1284) (fun _ h9 => h9) rfl d_Mo_ask_197 ?_
                      refine zk_i (va_runS (As := [.ref q5, .ref (h5 3)]) (rest := []) ⟨hx, hb, hml, hown, hts⟩ (t_Ns_below l E G189 q5 (vtg (we ws0 i).2.2.1 (we ws0 i).2.2.2.2) f_q55 n1_q55 n2_q55 n3_q55 (h5 3) lo fo5 rn15 rn25 rn35) (zcS 2 hts w_1392 w_1393 w_33 w_1394 (by decide +kernel) ⟨Nat.le_of_ble_eq_true rfl, Nat.le_of_ble_eq_true rfl⟩) (zc_pre hbase hK hN hQ hG hS) rfl rfl hl.1 rfl (lv_room (Nat.le_of_ble_eq_true rfl)) d_Mo_ask_200 ⟨(by dsimp only [List.length_nil]; omega), (by dsimp only [List.length_nil]; omega)⟩) hS (fun r200 G200 H locs hp200 hG hS => ?_)
                      have hG : zP E G189 H := hp200.2 ▸ hG
                      refine lv_if_eq (tgt := 221) hx hb d_Mo_ask_203 (by decide) (fun c203 => ?_) (fun c203 => ?_)
                      · refine lv_iinc (v := nI (i + 1)) (lv' := [(5, .int (nI (i + 1))), (6, .ref q5), (0, .ref a), (4, .int (nI (wln (vfo (rVf rs) lo (zscu u) t 9 (([], [], []) : zW) (np_low ls9)).2)))]) hx hb d_Mo_ask_221 hl (k := 3) rfl (nI_add i 1) (by decide) rfl (fun ls hl => ?_)
                        refine lv_goto (tgt := 92) hx hb d_Mo_ask_224 (by decide) ?_
                        have hsk : rFo (rVf rs) lo ws0 (vfo (rVf rs) lo (zscu u) t 9 (([], [], []) : zW) (np_low ls9)).2 (i + 1) = rFo (rVf rs) lo ws0 (vfo (rVf rs) lo (zscu u) t 9 (([], [], []) : zW) (np_low ls9)).2 i := (rFo_y hin c107).trans (vam_out (e := (we ws0 i).2) hgd (hp200.1.z c203))
                        have hst6 : rSt E G189 ro5 a d1 d2 lo rs5 (rFo (rVf rs) lo ws0 (vfo (rVf rs) lo (zscu u) t 9 (([], [], []) : zW) (np_low ls9)).2 (i + 1)) [] True (wln (rFo (rVf rs) lo ws0 (vfo (rVf rs) lo (zscu u) t 9 (([], [], []) : zW) (np_low ls9)).2 (i + 1)), 0, [], ws0) 0 [] ((vfo (rVf rs) lo (zscu u) t 9 (([], [], []) : zW) (np_low ls9)).1) u v19 v20 := by rw [hsk]; exact hst5
                        refine zW_more (cells2 := rPi d1 d2 (rFo (rVf rs) lo ws0 (vfo (rVf rs) lo (zscu u) t 9 (([], [], []) : zW) (np_low ls9)).2 (i + 1)) 0 - rPi d1 d2 (([], [], []) : zW) 0 + 40 + (rNc rs - rNc rs5) + 5) (slots2 := rPi d1 d2 (rFo (rVf rs) lo ws0 (vfo (rVf rs) lo (zscu u) t 9 (([], [], []) : zW) (np_low ls9)).2 (i + 1)) 0 - rPi d1 d2 (([], [], []) : zW) 0 + 2700 + (rNu rs - rNu rs5) + 5 + 255) (by rw [hsk]; exact Nat.le_refl _) (by rw [hsk]; exact Nat.le_refl _) ?_
                        exact ih G189 (i + 1) rs5 ro5 _ _ (by omega) (by omega) (hst6) (hrsq) (by omega) (by omega) (hf5) hG hS ls (lv_sub hl [2, 3, 0] rfl)
                      · refine lv_aload_n hx hb d_Mo_ask_206 rfl (lv_at hl 1 rfl) ?_
                        refine lv_aload hx hb d_Mo_ask_207 (lv_at hl 0 rfl) ?_
                        have hGo209 := hG
                        refine zk_i (va_runV (As := [.ref q5]) (rest := []) ⟨hx, hb, hml, hown, hts⟩ (t_Mo_cutOver_s l hst5 q5 (vtg (we ws0 i).2.2.1 (we ws0 i).2.2.2.2) hnm5) (zcV 1 hts w_1456 w_1458 wp_37 w_30 w_1459 (by decide +kernel) ⟨Nat.le_of_ble_eq_true rfl, Nat.le_of_ble_eq_true rfl⟩) (zc_preV hbase hK hN hQ hG hS ra5 rfl) rfl rfl hl.1 rfl (lv_room (Nat.le_of_ble_eq_true rfl)) d_Mo_ask_209 ⟨(by dsimp only [List.length_nil]; omega), (by dsimp only [List.length_nil]; omega)⟩) hS (fun r209 G209 H locs hp209 hG hS => ?_)
                        rcases hp209 with ⟨⟨kc, hkc, hvy, er209⟩ | ⟨hvn, er209⟩, eg209⟩
                        · have hG : zP E G189 H := eg209 ▸ hG
                          refine zi_as (y := nI (np_pos (vtg (we ws0 i).2.2.1 (we ws0 i).2.2.2.2) kc)) er209 ?_
                          have hpk := np_pos_le (vtg (we ws0 i).2.2.1 (we ws0 i).2.2.2.2) kc hkc
                          rw [hV5] at hvy
                          refine lv_if_ge (tgt := 221) hx hb d_Mo_ask_212 (by decide) (fun c212 => ?_) (fun c212 => ?_)
                          · have b212 : 0 ≤ (np_pos (vtg (we ws0 i).2.2.1 (we ws0 i).2.2.2.2) kc) := (nI_leI (a := 0) (b := (np_pos (vtg (we ws0 i).2.2.1 (we ws0 i).2.2.2.2) kc)) (by omega) (by omega)).mp c212
                            refine lv_iinc (v := nI (i + 1)) (lv' := [(5, .int (nI (i + 1))), (6, .ref q5), (0, .ref a), (4, .int (nI (wln (vfo (rVf rs) lo (zscu u) t 9 (([], [], []) : zW) (np_low ls9)).2)))]) hx hb d_Mo_ask_221 hl (k := 3) rfl (nI_add i 1) (by decide) rfl (fun ls hl => ?_)
                            refine lv_goto (tgt := 92) hx hb d_Mo_ask_224 (by decide) ?_
                            have hsk : rFo (rVf rs) lo ws0 (vfo (rVf rs) lo (zscu u) t 9 (([], [], []) : zW) (np_low ls9)).2 (i + 1) = rFo (rVf rs) lo ws0 (vfo (rVf rs) lo (zscu u) t 9 (([], [], []) : zW) (np_low ls9)).2 i := (rFo_y hin c107).trans (vam_cut (e := (we ws0 i).2) (by rw [show vco (rVf rs) lo (vtg (we ws0 i).2.2.1 (we ws0 i).2.2.2.2) = _ from hvy]; exact Option.some_ne_none _))
                            have hst6 : rSt E G189 ro5 a d1 d2 lo rs5 (rFo (rVf rs) lo ws0 (vfo (rVf rs) lo (zscu u) t 9 (([], [], []) : zW) (np_low ls9)).2 (i + 1)) [] True (wln (rFo (rVf rs) lo ws0 (vfo (rVf rs) lo (zscu u) t 9 (([], [], []) : zW) (np_low ls9)).2 (i + 1)), 0, [], ws0) 0 [] ((vfo (rVf rs) lo (zscu u) t 9 (([], [], []) : zW) (np_low ls9)).1) u v19 v20 := by rw [hsk]; exact hst5
                            refine zW_more (cells2 := rPi d1 d2 (rFo (rVf rs) lo ws0 (vfo (rVf rs) lo (zscu u) t 9 (([], [], []) : zW) (np_low ls9)).2 (i + 1)) 0 - rPi d1 d2 (([], [], []) : zW) 0 + 40 + (rNc rs - rNc rs5) + 5) (slots2 := rPi d1 d2 (rFo (rVf rs) lo ws0 (vfo (rVf rs) lo (zscu u) t 9 (([], [], []) : zW) (np_low ls9)).2 (i + 1)) 0 - rPi d1 d2 (([], [], []) : zW) 0 + 2700 + (rNu rs - rNu rs5) + 5 + 255) (by rw [hsk]; exact Nat.le_refl _) (by rw [hsk]; exact Nat.le_refl _) ?_
                            exact ih G189 (i + 1) rs5 ro5 _ _ (by omega) (by omega) (hst6) (hrsq) (by omega) (by omega) (hf5) hG hS ls (lv_sub hl [2, 3, 0] rfl)
                          · have b212 : ¬ 0 ≤ (np_pos (vtg (we ws0 i).2.2.1 (we ws0 i).2.2.2.2) kc) := fun q => c212 ((nI_leI (a := 0) (b := (np_pos (vtg (we ws0 i).2.2.1 (we ws0 i).2.2.2.2) kc)) (by omega) (by omega)).mpr q)
                            exact absurd (Int32.not_lt.mp (nI_pos (by omega))) c212
                        · have hG : zP E G189 H := eg209 ▸ hG
                          refine zi_as (y := (-1)) er209 ?_
                          rw [hV5] at hvn
                          refine lv_if_ge (tgt := 221) hx hb d_Mo_ask_212 (by decide) (fun c212 => ?_) (fun c212 => ?_)
                          · exact absurd c212 (by decide)
                          · refine lv_aload_n hx hb d_Mo_ask_215 rfl (lv_at hl 1 rfl) ?_
                            refine lv_aload hx hb d_Mo_ask_216 (lv_at hl 0 rfl) ?_
                            have eW9 : rFo (rVf rs) lo ws0 (vfo (rVf rs) lo (zscu u) t 9 (([], [], []) : zW) (np_low ls9)).2 (i + 1) = vao (rVf rs) (rFo (rVf rs) lo ws0 (vfo (rVf rs) lo (zscu u) t 9 (([], [], []) : zW) (np_low ls9)).2 i) (vtg (we ws0 i).2.2.1 (we ws0 i).2.2.2.2) := by rw [rFo_y hin c107]; exact vam_yes (e := (we ws0 i).2) (Or.inl c118) hvn
                            have hle9 : zLe (rFo (rVf rs) lo ws0 (vfo (rVf rs) lo (zscu u) t 9 (([], [], []) : zW) (np_low ls9)).2 (i + 1)) (vask (rVf rs) lo (zscu u) t (np_low ls9)).2 := by rw [hWE]; exact rFo_le hin
                            have hp9 := rPi_le (n := 0) (m := 0) hd1 hd2 hle9 (rPw_le hle9)
                            have hb9 := (hBt.le hd2 hle9).1
                            have hle10 : zLe (rFo (rVf rs) lo ws0 (vfo (rVf rs) lo (zscu u) t 9 (([], [], []) : zW) (np_low ls9)).2 i) (rFo (rVf rs) lo ws0 (vfo (rVf rs) lo (zscu u) t 9 (([], [], []) : zW) (np_low ls9)).2 (i + 1)) := rFo_le (Nat.le_succ i)
                            have hp10 := rPi_le (n := 0) (m := 0) hd1 hd2 hle10 (rPw_le hle10)
                            have hmq := t_Mo_more l E G189 a d1 d2 ro5 lo rs5 (rFo (rVf rs) lo ws0 (vfo (rVf rs) lo (zscu u) t 9 (([], [], []) : zW) (np_low ls9)).2 i) ws0 0 ((vfo (rVf rs) lo (zscu u) t 9 (([], [], []) : zW) (np_low ls9)).1) u [] v19 v20 hst5 q5 (vtg (we ws0 i).2.2.1 (we ws0 i).2.2.2.2) hnm5 (by rw [hV5, ← eW9]; exact hb9)
                            rw [hV5] at hmq
                            have eP9 : rPi d1 d2 (rFo (rVf rs) lo ws0 (vfo (rVf rs) lo (zscu u) t 9 (([], [], []) : zW) (np_low ls9)).2 (i + 1)) 0 = rPi d1 d2 (rMr (rVf rs) (rFo (rVf rs) lo ws0 (vfo (rVf rs) lo (zscu u) t 9 (([], [], []) : zW) (np_low ls9)).2 i) (vtg (we ws0 i).2.2.1 (we ws0 i).2.2.2.2) 2) 0 := by rw [eW9]; rfl
                            have hGo218 := hG
                            refine zk_v (va_runV (As := [.ref q5]) (rest := []) ⟨hx, hb, hml, hown, hts⟩ (hmq) (zcV 1 hts w_1532 w_1534 wp_50 w_30 w_1535 (by decide +kernel) ⟨Nat.le_of_ble_eq_true rfl, Nat.le_of_ble_eq_true rfl⟩) (zc_preV hbase hK hN hQ hG hS ra5 rfl) rfl rfl hl.1 rfl (lv_room (Nat.le_of_ble_eq_true rfl)) d_Mo_ask_218 ⟨(by dsimp only [List.length_nil]; omega), (by dsimp only [List.length_nil]; omega)⟩) hS (fun G218 H locs hp218 hG hS => ?_)
                            obtain ⟨ro6, hst6, hs6⟩ := hp218
                            have hst6 : rSt E G218 ro6 a d1 d2 lo rs5 (rFo (rVf rs) lo ws0 (vfo (rVf rs) lo (zscu u) t 9 (([], [], []) : zW) (np_low ls9)).2 (i + 1)) [] True (wln (rFo (rVf rs) lo ws0 (vfo (rVf rs) lo (zscu u) t 9 (([], [], []) : zW) (np_low ls9)).2 (i + 1)), 0, [], ws0) 0 [] ((vfo (rVf rs) lo (zscu u) t 9 (([], [], []) : zW) (np_low ls9)).1) u v19 v20 := by rw [eW9]; exact hst6
                            have hf6 := hf5.tr hs6
                            refine lv_iinc (v := nI (i + 1)) (lv' := [(5, .int (nI (i + 1))), (6, .ref q5), (0, .ref a), (4, .int (nI (wln (vfo (rVf rs) lo (zscu u) t 9 (([], [], []) : zW) (np_low ls9)).2)))]) hx hb d_Mo_ask_221 hl (k := 3) rfl (nI_add i 1) (by decide) rfl (fun ls hl => ?_)
                            refine lv_goto (tgt := 92) hx hb d_Mo_ask_224 (by decide) ?_
                            refine zW_more (cells2 := rPi d1 d2 (rFo (rVf rs) lo ws0 (vfo (rVf rs) lo (zscu u) t 9 (([], [], []) : zW) (np_low ls9)).2 (i + 1)) 0 - rPi d1 d2 (([], [], []) : zW) 0 + 40 + (rNc rs - rNc rs5) + 5) (slots2 := rPi d1 d2 (rFo (rVf rs) lo ws0 (vfo (rVf rs) lo (zscu u) t 9 (([], [], []) : zW) (np_low ls9)).2 (i + 1)) 0 - rPi d1 d2 (([], [], []) : zW) 0 + 2700 + (rNu rs - rNu rs5) + 5 + 255) (by dsimp only [List.length_nil]; omega) (by dsimp only [List.length_nil]; omega) ?_
                            exact ih G218 (i + 1) rs5 ro6 _ _ (by omega) (by omega) (hst6) (hrsq) (by omega) (by omega) (hf6) hG hS ls (lv_sub hl [2, 3, 0] rfl)
                  · refine lv_aload_n hx hb d_Mo_ask_121 rfl (lv_at hl 0 rfl) ?_
                    refine zg_get (ci := 11) (C := "ZoneAnswersModel") (T := T_Mo) (N := 21) hx hb hts zi_Mo hown hK hG ra8 rfl 7 (by decide) (hts _ w_1288) (fun _ h9 => h9) rfl d_Mo_ask_122 ?_
                    refine lv_iload hx hb d_Mo_ask_125 (lv_at hl 2 rfl) ?_
                    refine zg_iald hx hb hK hG 1 g7 rfl (vp_in_nI (by omega) (by omega)) d_Mo_ask_127 ?_
                    refine zi_as (y := (we ws0 i).2.2.1) (by rw [zi_n _ (by omega)]; exact e7) ?_
                    refine lv_bipush (v := 15) hx hb d_Mo_ask_128 (by decide) ?_
                    refine lv_icmp_eq (tgt := 148) hx hb d_Mo_ask_130 (by decide) (fun c130 => ?_) (fun c130 => ?_)
                    · refine lv_aload_n hx hb d_Mo_ask_148 rfl (lv_at hl 0 rfl) ?_
                      refine lv_aload_n hx hb d_Mo_ask_149 rfl (lv_at hl 0 rfl) ?_
                      refine zg_get (ci := 11) (C := "ZoneAnswersModel") (T := T_Mo) (N := 21) hx hb hts zi_Mo hown hK hG ra8 rfl 12 (by decide) (hts _ w_1293) (fun _ h9 => h9) rfl d_Mo_ask_150 ?_
                      refine lv_iload hx hb d_Mo_ask_153 (lv_at hl 2 rfl) ?_
                      refine zg_aldA hx hb hK hG 5 g12 rfl (vp_in_nI (by omega) (by omega)) d_Mo_ask_155 ?_
                      refine zr_as (y := f128 i) (by rw [zi_n _ (by omega)]) ?_
                      refine zr_some (a := rD (re rs8 j8)) (ej1) ?_
                      refine lv_aload_n hx hb d_Mo_ask_156 rfl (lv_at hl 0 rfl) ?_
                      refine zg_get (ci := 11) (C := "ZoneAnswersModel") (T := T_Mo) (N := 21) hx hb hts zi_Mo hown hK hG ra8 rfl 7 (by decide) (hts _ w_1288) (fun _ h9 => h9) rfl d_Mo_ask_157 ?_
                      refine lv_iload hx hb d_Mo_ask_160 (lv_at hl 2 rfl) ?_
                      refine zg_iald hx hb hK hG 1 g7 rfl (vp_in_nI (by omega) (by omega)) d_Mo_ask_162 ?_
                      refine zi_as (y := (we ws0 i).2.2.1) (by rw [zi_n _ (by omega)]; exact e7) ?_
                      refine lv_iconst (v := 2) hx hb d_Mo_ask_163 (by decide) ?_
                      refine lv_icmp_ne (tgt := 171) hx hb d_Mo_ask_164 (by decide) (fun c164 => ?_) (fun c164 => ?_)
                      · refine lv_aload_n hx hb d_Mo_ask_171 rfl (lv_at hl 0 rfl) ?_
                        refine zg_get (ci := 11) (C := "ZoneAnswersModel") (T := T_Mo) (N := 21) hx hb hts zi_Mo hown hK hG ra8 rfl 7 (by decide) (hts _ w_1288) (fun _ h9 => h9) rfl d_Mo_ask_172 ?_
                        refine lv_iload hx hb d_Mo_ask_175 (lv_at hl 2 rfl) ?_
                        refine zg_iald hx hb hK hG 1 g7 rfl (vp_in_nI (by omega) (by omega)) d_Mo_ask_177 ?_
                        refine zi_as (y := (we ws0 i).2.2.1) (by rw [zi_n _ (by omega)]; exact e7) ?_
                        refine lv_bipush (v := 15) hx hb d_Mo_ask_178 (by decide) ?_
                        refine lv_icmp_ne (tgt := 187) hx hb d_Mo_ask_180 (by decide) (fun c180 => ?_) (fun c180 => ?_)
                        · exact absurd c130 c180
                        · refine lv_iconst (v := 2) hx hb d_Mo_ask_183 (by decide) ?_
                          refine zi_as (y := nI 2) (by decide) ?_
                          refine lv_goto (tgt := 189) hx hb d_Mo_ask_184 (by decide) ?_
                          have hGo189 := hG
                          refine zk_q (va_runV (As := [.ref (rD (re rs8 j8)), .int (nI 2)]) (rest := []) ⟨hx, hb, hml, hown, hts⟩ (t_Mo_target l E Gv a d1 d2 ro8 lo rs8 (rFo (rVf rs) lo ws0 (vfo (rVf rs) lo (zscu u) t 9 (([], [], []) : zW) (np_low ls9)).2 i) [] True (wln (rFo (rVf rs) lo ws0 (vfo (rVf rs) lo (zscu u) t 9 (([], [], []) : zW) (np_low ls9)).2 i), 0, [], ws0) 0 ((vfo (rVf rs) lo (zscu u) t 9 (([], [], []) : zW) (np_low ls9)).1) u [] v19 v20 hst8 j8 hj8 2 (by rw [ej2, c130]; decide) (by rw [ej2]; exact Or.inr (Or.inl c130))) (zcV 2 hts w_1572 w_1574 wp_59 w_30 w_1575 (by decide +kernel) ⟨Nat.le_of_ble_eq_true rfl, Nat.le_of_ble_eq_true rfl⟩) (zc_preV hbase hK hN hQ hG hS ra8 rfl) rfl rfl hl.1 rfl (lv_room (Nat.le_of_ble_eq_true rfl)) d_Mo_ask_189 ⟨(by have := rNc1_le hj8; dsimp only [List.length_nil]; omega), (by have := rNu1_le hj8; dsimp only [List.length_nil]; omega)⟩) hS (fun r189 G189 H locs hp189 hG hS => ?_)
                          obtain ⟨ro5, rs5, q5, er5, hst5, hrs5, hnm5, hs5, hnu5, hnc5⟩ := hp189
                          rw [ej2, ej3] at hnm5
                          refine zr_some (a := q5) er5 ?_
                          have hf5 := hf8.tr hs5
                          have hrsq := hrs.tr hrs5
                          have hV5 : rVf rs5 = (rVf rs) := hrsq.V
                          have hnuq := rNu1_le hj8
                          have hncq := rNc1_le hj8
                          refine zW_more (cells2 := rPi d1 d2 (rFo (rVf rs) lo ws0 (vfo (rVf rs) lo (zscu u) t 9 (([], [], []) : zW) (np_low ls9)).2 i) 0 - rPi d1 d2 (([], [], []) : zW) 0 + 40 + (rNc rs - rNc rs5) + 5) (slots2 := rPi d1 d2 (rFo (rVf rs) lo ws0 (vfo (rVf rs) lo (zscu u) t 9 (([], [], []) : zW) (np_low ls9)).2 i) 0 - rPi d1 d2 (([], [], []) : zW) 0 + 2700 + (rNu rs - rNu rs5) + 5 + 255) (by dsimp only [List.length_nil]; omega) (by dsimp only [List.length_nil]; omega) ?_
                          obtain ⟨h5, eh05, eh15, eh25, hc5⟩ := id hst5
                          obtain ⟨ra5, rb5, ⟨fm5, rt15, rt25, rt35, rt45⟩, rtl5, ⟨fo5, rn15, rn25, rn35, rn45, rn55⟩, rr5, rg5, ras5⟩ := id hc5
                          rw [eh05] at ra5
                          obtain ⟨⟨fr5, rm45, hfr5⟩, hn25, hRs5⟩ := id rr5.1
                          obtain ⟨f_q55, n1_q55, n2_q55, n3_q55, n4_q55, n5_q55⟩ := id hnm5
                          have sm_q55 := n3_q55.2
                          refine lv_astore (lv' := [(6, .ref q5), (0, .ref a), (4, .int (nI (wln (vfo (rVf rs) lo (zscu u) t 9 (([], [], []) : zW) (np_low ls9)).2))), (5, .int (nI i))]) hx hb d_Mo_ask_192 hl (by decide) rfl (fun ls hl => ?_)
                          refine lv_aload hx hb d_Mo_ask_194 (lv_at hl 0 rfl) ?_
                          refine lv_aload_n hx hb d_Mo_ask_196 rfl (lv_at hl 1 rfl) ?_
                          refine zg_get (ci := 11) (C := "ZoneAnswersModel") (T := T_Mo) (N := 21) hx hb hts zi_Mo hown hK hG ra5 rfl 3 (by decide) (hts _ w_1284) (fun _ h9 => h9) rfl d_Mo_ask_197 ?_
                          refine zk_i (va_runS (As := [.ref q5, .ref (h5 3)]) (rest := []) ⟨hx, hb, hml, hown, hts⟩ (t_Ns_below l E G189 q5 (vtg (we ws0 i).2.2.1 (we ws0 i).2.2.2.2) f_q55 n1_q55 n2_q55 n3_q55 (h5 3) lo fo5 rn15 rn25 rn35) (zcS 2 hts w_1392 w_1393 w_33 w_1394 (by decide +kernel) ⟨Nat.le_of_ble_eq_true rfl, Nat.le_of_ble_eq_true rfl⟩) (zc_pre hbase hK hN hQ hG hS) rfl rfl hl.1 rfl (lv_room (Nat.le_of_ble_eq_true rfl)) d_Mo_ask_200 ⟨(by dsimp only [List.length_nil]; omega), (by dsimp only [List.length_nil]; omega)⟩) hS (fun r200 G200 H locs hp200 hG hS => ?_)
                          have hG : zP E G189 H := hp200.2 ▸ hG
                          refine lv_if_eq (tgt := 221) hx hb d_Mo_ask_203 (by decide) (fun c203 => ?_) (fun c203 => ?_)
                          · refine lv_iinc (v := nI (i + 1)) (lv' := [(5, .int (nI (i + 1))), (6, .ref q5), (0, .ref a), (4, .int (nI (wln (vfo (rVf rs) lo (zscu u) t 9 (([], [], []) : zW) (np_low ls9)).2)))]) hx hb d_Mo_ask_221 hl (k := 3) rfl (nI_add i 1) (by decide) rfl (fun ls hl => ?_)
                            refine lv_goto (tgt := 92) hx hb d_Mo_ask_224 (by decide) ?_
                            have hsk : rFo (rVf rs) lo ws0 (vfo (rVf rs) lo (zscu u) t 9 (([], [], []) : zW) (np_low ls9)).2 (i + 1) = rFo (rVf rs) lo ws0 (vfo (rVf rs) lo (zscu u) t 9 (([], [], []) : zW) (np_low ls9)).2 i := (rFo_y hin c107).trans (vam_out (e := (we ws0 i).2) hgd (hp200.1.z c203))
                            have hst6 : rSt E G189 ro5 a d1 d2 lo rs5 (rFo (rVf rs) lo ws0 (vfo (rVf rs) lo (zscu u) t 9 (([], [], []) : zW) (np_low ls9)).2 (i + 1)) [] True (wln (rFo (rVf rs) lo ws0 (vfo (rVf rs) lo (zscu u) t 9 (([], [], []) : zW) (np_low ls9)).2 (i + 1)), 0, [], ws0) 0 [] ((vfo (rVf rs) lo (zscu u) t 9 (([], [], []) : zW) (np_low ls9)).1) u v19 v20 := by rw [hsk]; exact hst5
                            refine zW_more (cells2 := rPi d1 d2 (rFo (rVf rs) lo ws0 (vfo (rVf rs) lo (zscu u) t 9 (([], [], []) : zW) (np_low ls9)).2 (i + 1)) 0 - rPi d1 d2 (([], [], []) : zW) 0 + 40 + (rNc rs - rNc rs5) + 5) (slots2 := rPi d1 d2 (rFo (rVf rs) lo ws0 (vfo (rVf rs) lo (zscu u) t 9 (([], [], []) : zW) (np_low ls9)).2 (i + 1)) 0 - rPi d1 d2 (([], [], []) : zW) 0 + 2700 + (rNu rs - rNu rs5) + 5 + 255) (by rw [hsk]; exact Nat.le_refl _) (by rw [hsk]; exact Nat.le_refl _) ?_
                            exact ih G189 (i + 1) rs5 ro5 _ _ (by omega) (by omega) (hst6) (hrsq) (by omega) (by omega) (hf5) hG hS ls (lv_sub hl [2, 3, 0] rfl)
                          · refine lv_aload_n hx hb d_Mo_ask_206 rfl (lv_at hl 1 rfl) ?_
                            refine lv_aload hx hb d_Mo_ask_207 (lv_at hl 0 rfl) ?_
                            have hGo209 := hG
                            refine zk_i (va_runV (As := [.ref q5]) (rest := []) ⟨hx, hb, hml, hown, hts⟩ (t_Mo_cutOver_s l hst5 q5 (vtg (we ws0 i).2.2.1 (we ws0 i).2.2.2.2) hnm5) (zcV 1 hts w_1456 w_1458 wp_37 w_30 w_1459 (by decide +kernel) ⟨Nat.le_of_ble_eq_true rfl, Nat.le_of_ble_eq_true rfl⟩) (zc_preV hbase hK hN hQ hG hS ra5 rfl) rfl rfl hl.1 rfl (lv_room (Nat.le_of_ble_eq_true rfl)) d_Mo_ask_209 ⟨(by dsimp only [List.length_nil]; omega), (by dsimp only [List.length_nil]; omega)⟩) hS (fun r209 G209 H locs hp209 hG hS => ?_)
                            rcases hp209 with ⟨⟨kc, hkc, hvy, er209⟩ | ⟨hvn, er209⟩, eg209⟩
                            · have hG : zP E G189 H := eg209 ▸ hG
                              refine zi_as (y := nI (np_pos (vtg (we ws0 i).2.2.1 (we ws0 i).2.2.2.2) kc)) er209 ?_
                              have hpk := np_pos_le (vtg (we ws0 i).2.2.1 (we ws0 i).2.2.2.2) kc hkc
                              rw [hV5] at hvy
                              refine lv_if_ge (tgt := 221) hx hb d_Mo_ask_212 (by decide) (fun c212 => ?_) (fun c212 => ?_)
                              · have b212 : 0 ≤ (np_pos (vtg (we ws0 i).2.2.1 (we ws0 i).2.2.2.2) kc) := (nI_leI (a := 0) (b := (np_pos (vtg (we ws0 i).2.2.1 (we ws0 i).2.2.2.2) kc)) (by omega) (by omega)).mp c212
                                refine lv_iinc (v := nI (i + 1)) (lv' := [(5, .int (nI (i + 1))), (6, .ref q5), (0, .ref a), (4, .int (nI (wln (vfo (rVf rs) lo (zscu u) t 9 (([], [], []) : zW) (np_low ls9)).2)))]) hx hb d_Mo_ask_221 hl (k := 3) rfl (nI_add i 1) (by decide) rfl (fun ls hl => ?_)
                                refine lv_goto (tgt := 92) hx hb d_Mo_ask_224 (by decide) ?_
                                have hsk : rFo (rVf rs) lo ws0 (vfo (rVf rs) lo (zscu u) t 9 (([], [], []) : zW) (np_low ls9)).2 (i + 1) = rFo (rVf rs) lo ws0 (vfo (rVf rs) lo (zscu u) t 9 (([], [], []) : zW) (np_low ls9)).2 i := (rFo_y hin c107).trans (vam_cut (e := (we ws0 i).2) (by rw [show vco (rVf rs) lo (vtg (we ws0 i).2.2.1 (we ws0 i).2.2.2.2) = _ from hvy]; exact Option.some_ne_none _))
                                have hst6 : rSt E G189 ro5 a d1 d2 lo rs5 (rFo (rVf rs) lo ws0 (vfo (rVf rs) lo (zscu u) t 9 (([], [], []) : zW) (np_low ls9)).2 (i + 1)) [] True (wln (rFo (rVf rs) lo ws0 (vfo (rVf rs) lo (zscu u) t 9 (([], [], []) : zW) (np_low ls9)).2 (i + 1)), 0, [], ws0) 0 [] ((vfo (rVf rs) lo (zscu u) t 9 (([], [], []) : zW) (np_low ls9)).1) u v19 v20 := by rw [hsk]; exact hst5
                                refine zW_more (cells2 := rPi d1 d2 (rFo (rVf rs) lo ws0 (vfo (rVf rs) lo (zscu u) t 9 (([], [], []) : zW) (np_low ls9)).2 (i + 1)) 0 - rPi d1 d2 (([], [], []) : zW) 0 + 40 + (rNc rs - rNc rs5) + 5) (slots2 := rPi d1 d2 (rFo (rVf rs) lo ws0 (vfo (rVf rs) lo (zscu u) t 9 (([], [], []) : zW) (np_low ls9)).2 (i + 1)) 0 - rPi d1 d2 (([], [], []) : zW) 0 + 2700 + (rNu rs - rNu rs5) + 5 + 255) (by rw [hsk]; exact Nat.le_refl _) (by rw [hsk]; exact Nat.le_refl _) ?_
                                exact ih G189 (i + 1) rs5 ro5 _ _ (by omega) (by omega) (hst6) (hrsq) (by omega) (by omega) (hf5) hG hS ls (lv_sub hl [2, 3, 0] rfl)
                              · have b212 : ¬ 0 ≤ (np_pos (vtg (we ws0 i).2.2.1 (we ws0 i).2.2.2.2) kc) := fun q => c212 ((nI_leI (a := 0) (b := (np_pos (vtg (we ws0 i).2.2.1 (we ws0 i).2.2.2.2) kc)) (by omega) (by omega)).mpr q)
                                exact absurd (Int32.not_lt.mp (nI_pos (by omega))) c212
                            · have hG : zP E G189 H := eg209 ▸ hG
                              refine zi_as (y := (-1)) er209 ?_
                              rw [hV5] at hvn
                              refine lv_if_ge (tgt := 221) hx hb d_Mo_ask_212 (by decide) (fun c212 => ?_) (fun c212 => ?_)
                              · exact absurd c212 (by decide)
                              · refine lv_aload_n hx hb d_Mo_ask_215 rfl (lv_at hl 1 rfl) ?_
                                refine lv_aload hx hb d_Mo_ask_216 (lv_at hl 0 rfl) ?_
                                have eW9 : rFo (rVf rs) lo ws0 (vfo (rVf rs) lo (zscu u) t 9 (([], [], []) : zW) (np_low ls9)).2 (i + 1) = vao (rVf rs) (rFo (rVf rs) lo ws0 (vfo (rVf rs) lo (zscu u) t 9 (([], [], []) : zW) (np_low ls9)).2 i) (vtg (we ws0 i).2.2.1 (we ws0 i).2.2.2.2) := by rw [rFo_y hin c107]; exact vam_yes (e := (we ws0 i).2) (Or.inr (Or.inl c130)) hvn
                                have hle9 : zLe (rFo (rVf rs) lo ws0 (vfo (rVf rs) lo (zscu u) t 9 (([], [], []) : zW) (np_low ls9)).2 (i + 1)) (vask (rVf rs) lo (zscu u) t (np_low ls9)).2 := by rw [hWE]; exact rFo_le hin
                                have hp9 := rPi_le (n := 0) (m := 0) hd1 hd2 hle9 (rPw_le hle9)
                                have hb9 := (hBt.le hd2 hle9).1
                                have hle10 : zLe (rFo (rVf rs) lo ws0 (vfo (rVf rs) lo (zscu u) t 9 (([], [], []) : zW) (np_low ls9)).2 i) (rFo (rVf rs) lo ws0 (vfo (rVf rs) lo (zscu u) t 9 (([], [], []) : zW) (np_low ls9)).2 (i + 1)) := rFo_le (Nat.le_succ i)
                                have hp10 := rPi_le (n := 0) (m := 0) hd1 hd2 hle10 (rPw_le hle10)
                                have hmq := t_Mo_more l E G189 a d1 d2 ro5 lo rs5 (rFo (rVf rs) lo ws0 (vfo (rVf rs) lo (zscu u) t 9 (([], [], []) : zW) (np_low ls9)).2 i) ws0 0 ((vfo (rVf rs) lo (zscu u) t 9 (([], [], []) : zW) (np_low ls9)).1) u [] v19 v20 hst5 q5 (vtg (we ws0 i).2.2.1 (we ws0 i).2.2.2.2) hnm5 (by rw [hV5, ← eW9]; exact hb9)
                                rw [hV5] at hmq
                                have eP9 : rPi d1 d2 (rFo (rVf rs) lo ws0 (vfo (rVf rs) lo (zscu u) t 9 (([], [], []) : zW) (np_low ls9)).2 (i + 1)) 0 = rPi d1 d2 (rMr (rVf rs) (rFo (rVf rs) lo ws0 (vfo (rVf rs) lo (zscu u) t 9 (([], [], []) : zW) (np_low ls9)).2 i) (vtg (we ws0 i).2.2.1 (we ws0 i).2.2.2.2) 2) 0 := by rw [eW9]; rfl
                                have hGo218 := hG
                                refine zk_v (va_runV (As := [.ref q5]) (rest := []) ⟨hx, hb, hml, hown, hts⟩ (hmq) (zcV 1 hts w_1532 w_1534 wp_50 w_30 w_1535 (by decide +kernel) ⟨Nat.le_of_ble_eq_true rfl, Nat.le_of_ble_eq_true rfl⟩) (zc_preV hbase hK hN hQ hG hS ra5 rfl) rfl rfl hl.1 rfl (lv_room (Nat.le_of_ble_eq_true rfl)) d_Mo_ask_218 ⟨(by dsimp only [List.length_nil]; omega), (by dsimp only [List.length_nil]; omega)⟩) hS (fun G218 H locs hp218 hG hS => ?_)
                                obtain ⟨ro6, hst6, hs6⟩ := hp218
                                have hst6 : rSt E G218 ro6 a d1 d2 lo rs5 (rFo (rVf rs) lo ws0 (vfo (rVf rs) lo (zscu u) t 9 (([], [], []) : zW) (np_low ls9)).2 (i + 1)) [] True (wln (rFo (rVf rs) lo ws0 (vfo (rVf rs) lo (zscu u) t 9 (([], [], []) : zW) (np_low ls9)).2 (i + 1)), 0, [], ws0) 0 [] ((vfo (rVf rs) lo (zscu u) t 9 (([], [], []) : zW) (np_low ls9)).1) u v19 v20 := by rw [eW9]; exact hst6
                                have hf6 := hf5.tr hs6
                                refine lv_iinc (v := nI (i + 1)) (lv' := [(5, .int (nI (i + 1))), (6, .ref q5), (0, .ref a), (4, .int (nI (wln (vfo (rVf rs) lo (zscu u) t 9 (([], [], []) : zW) (np_low ls9)).2)))]) hx hb d_Mo_ask_221 hl (k := 3) rfl (nI_add i 1) (by decide) rfl (fun ls hl => ?_)
                                refine lv_goto (tgt := 92) hx hb d_Mo_ask_224 (by decide) ?_
                                refine zW_more (cells2 := rPi d1 d2 (rFo (rVf rs) lo ws0 (vfo (rVf rs) lo (zscu u) t 9 (([], [], []) : zW) (np_low ls9)).2 (i + 1)) 0 - rPi d1 d2 (([], [], []) : zW) 0 + 40 + (rNc rs - rNc rs5) + 5) (slots2 := rPi d1 d2 (rFo (rVf rs) lo ws0 (vfo (rVf rs) lo (zscu u) t 9 (([], [], []) : zW) (np_low ls9)).2 (i + 1)) 0 - rPi d1 d2 (([], [], []) : zW) 0 + 2700 + (rNu rs - rNu rs5) + 5 + 255) (by dsimp only [List.length_nil]; omega) (by dsimp only [List.length_nil]; omega) ?_
                                exact ih G218 (i + 1) rs5 ro6 _ _ (by omega) (by omega) (hst6) (hrsq) (by omega) (by omega) (hf6) hG hS ls (lv_sub hl [2, 3, 0] rfl)
                      · exact absurd c164 c118
                    · refine lv_aload_n hx hb d_Mo_ask_133 rfl (lv_at hl 0 rfl) ?_
                      refine zg_get (ci := 11) (C := "ZoneAnswersModel") (T := T_Mo) (N := 21) hx hb hts zi_Mo hown hK hG ra8 rfl 7 (by decide) (hts _ w_1288) (fun _ h9 => h9) rfl d_Mo_ask_134 ?_
                      refine lv_iload hx hb d_Mo_ask_137 (lv_at hl 2 rfl) ?_
                      refine zg_iald hx hb hK hG 1 g7 rfl (vp_in_nI (by omega) (by omega)) d_Mo_ask_139 ?_
                      refine zi_as (y := (we ws0 i).2.2.1) (by rw [zi_n _ (by omega)]; exact e7) ?_
                      refine lv_bipush (v := 33) hx hb d_Mo_ask_140 (by decide) ?_
                      refine lv_icmp_eq (tgt := 148) hx hb d_Mo_ask_142 (by decide) (fun c142 => ?_) (fun c142 => ?_)
                      · refine lv_aload_n hx hb d_Mo_ask_148 rfl (lv_at hl 0 rfl) ?_
                        refine lv_aload_n hx hb d_Mo_ask_149 rfl (lv_at hl 0 rfl) ?_
                        refine zg_get (ci := 11) (C := "ZoneAnswersModel") (T := T_Mo) (N := 21) hx hb hts zi_Mo hown hK hG ra8 rfl 12 (by decide) (hts _ w_1293) (fun _ h9 => h9) rfl d_Mo_ask_150 ?_
                        refine lv_iload hx hb d_Mo_ask_153 (lv_at hl 2 rfl) ?_
                        refine zg_aldA hx hb hK hG 5 g12 rfl (vp_in_nI (by omega) (by omega)) d_Mo_ask_155 ?_
                        refine zr_as (y := f128 i) (by rw [zi_n _ (by omega)]) ?_
                        refine zr_some (a := rD (re rs8 j8)) (ej1) ?_
                        refine lv_aload_n hx hb d_Mo_ask_156 rfl (lv_at hl 0 rfl) ?_
                        refine zg_get (ci := 11) (C := "ZoneAnswersModel") (T := T_Mo) (N := 21) hx hb hts zi_Mo hown hK hG ra8 rfl 7 (by decide) (hts _ w_1288) (fun _ h9 => h9) rfl d_Mo_ask_157 ?_
                        refine lv_iload hx hb d_Mo_ask_160 (lv_at hl 2 rfl) ?_
                        refine zg_iald hx hb hK hG 1 g7 rfl (vp_in_nI (by omega) (by omega)) d_Mo_ask_162 ?_
                        refine zi_as (y := (we ws0 i).2.2.1) (by rw [zi_n _ (by omega)]; exact e7) ?_
                        refine lv_iconst (v := 2) hx hb d_Mo_ask_163 (by decide) ?_
                        refine lv_icmp_ne (tgt := 171) hx hb d_Mo_ask_164 (by decide) (fun c164 => ?_) (fun c164 => ?_)
                        · refine lv_aload_n hx hb d_Mo_ask_171 rfl (lv_at hl 0 rfl) ?_
                          refine zg_get (ci := 11) (C := "ZoneAnswersModel") (T := T_Mo) (N := 21) hx hb hts zi_Mo hown hK hG ra8 rfl 7 (by decide) (hts _ w_1288) (fun _ h9 => h9) rfl d_Mo_ask_172 ?_
                          refine lv_iload hx hb d_Mo_ask_175 (lv_at hl 2 rfl) ?_
                          refine zg_iald hx hb hK hG 1 g7 rfl (vp_in_nI (by omega) (by omega)) d_Mo_ask_177 ?_
                          refine zi_as (y := (we ws0 i).2.2.1) (by rw [zi_n _ (by omega)]; exact e7) ?_
                          refine lv_bipush (v := 15) hx hb d_Mo_ask_178 (by decide) ?_
                          refine lv_icmp_ne (tgt := 187) hx hb d_Mo_ask_180 (by decide) (fun c180 => ?_) (fun c180 => ?_)
                          · refine lv_bipush (v := 6) hx hb d_Mo_ask_187 (by decide) ?_
                            refine zi_as (y := nI 6) (by decide) ?_
                            have hGo189 := hG
                            refine zk_q (va_runV (As := [.ref (rD (re rs8 j8)), .int (nI 6)]) (rest := []) ⟨hx, hb, hml, hown, hts⟩ (t_Mo_target l E Gv a d1 d2 ro8 lo rs8 (rFo (rVf rs) lo ws0 (vfo (rVf rs) lo (zscu u) t 9 (([], [], []) : zW) (np_low ls9)).2 i) [] True (wln (rFo (rVf rs) lo ws0 (vfo (rVf rs) lo (zscu u) t 9 (([], [], []) : zW) (np_low ls9)).2 i), 0, [], ws0) 0 ((vfo (rVf rs) lo (zscu u) t 9 (([], [], []) : zW) (np_low ls9)).1) u [] v19 v20 hst8 j8 hj8 6 (by rw [ej2, c142]; decide) (by rw [ej2]; exact Or.inr (Or.inr c142))) (zcV 2 hts w_1572 w_1574 wp_59 w_30 w_1575 (by decide +kernel) ⟨Nat.le_of_ble_eq_true rfl, Nat.le_of_ble_eq_true rfl⟩) (zc_preV hbase hK hN hQ hG hS ra8 rfl) rfl rfl hl.1 rfl (lv_room (Nat.le_of_ble_eq_true rfl)) d_Mo_ask_189 ⟨(by have := rNc1_le hj8; dsimp only [List.length_nil]; omega), (by have := rNu1_le hj8; dsimp only [List.length_nil]; omega)⟩) hS (fun r189 G189 H locs hp189 hG hS => ?_)
                            obtain ⟨ro5, rs5, q5, er5, hst5, hrs5, hnm5, hs5, hnu5, hnc5⟩ := hp189
                            rw [ej2, ej3] at hnm5
                            refine zr_some (a := q5) er5 ?_
                            have hf5 := hf8.tr hs5
                            have hrsq := hrs.tr hrs5
                            have hV5 : rVf rs5 = (rVf rs) := hrsq.V
                            have hnuq := rNu1_le hj8
                            have hncq := rNc1_le hj8
                            refine zW_more (cells2 := rPi d1 d2 (rFo (rVf rs) lo ws0 (vfo (rVf rs) lo (zscu u) t 9 (([], [], []) : zW) (np_low ls9)).2 i) 0 - rPi d1 d2 (([], [], []) : zW) 0 + 40 + (rNc rs - rNc rs5) + 5) (slots2 := rPi d1 d2 (rFo (rVf rs) lo ws0 (vfo (rVf rs) lo (zscu u) t 9 (([], [], []) : zW) (np_low ls9)).2 i) 0 - rPi d1 d2 (([], [], []) : zW) 0 + 2700 + (rNu rs - rNu rs5) + 5 + 255) (by dsimp only [List.length_nil]; omega) (by dsimp only [List.length_nil]; omega) ?_
                            obtain ⟨h5, eh05, eh15, eh25, hc5⟩ := id hst5
                            obtain ⟨ra5, rb5, ⟨fm5, rt15, rt25, rt35, rt45⟩, rtl5, ⟨fo5, rn15, rn25, rn35, rn45, rn55⟩, rr5, rg5, ras5⟩ := id hc5
                            rw [eh05] at ra5
                            obtain ⟨⟨fr5, rm45, hfr5⟩, hn25, hRs5⟩ := id rr5.1
                            obtain ⟨f_q55, n1_q55, n2_q55, n3_q55, n4_q55, n5_q55⟩ := id hnm5
                            have sm_q55 := n3_q55.2
                            refine lv_astore (lv' := [(6, .ref q5), (0, .ref a), (4, .int (nI (wln (vfo (rVf rs) lo (zscu u) t 9 (([], [], []) : zW) (np_low ls9)).2))), (5, .int (nI i))]) hx hb d_Mo_ask_192 hl (by decide) rfl (fun ls hl => ?_)
                            refine lv_aload hx hb d_Mo_ask_194 (lv_at hl 0 rfl) ?_
                            refine lv_aload_n hx hb d_Mo_ask_196 rfl (lv_at hl 1 rfl) ?_
                            refine zg_get (ci := 11) (C := "ZoneAnswersModel") (T := T_Mo) (N := 21) hx hb hts zi_Mo hown hK hG ra5 rfl 3 (by decide) (hts _ w_1284) (fun _ h9 => h9) rfl d_Mo_ask_197 ?_
                            refine zk_i (va_runS (As := [.ref q5, .ref (h5 3)]) (rest := []) ⟨hx, hb, hml, hown, hts⟩ (t_Ns_below l E G189 q5 (vtg (we ws0 i).2.2.1 (we ws0 i).2.2.2.2) f_q55 n1_q55 n2_q55 n3_q55 (h5 3) lo fo5 rn15 rn25 rn35) (zcS 2 hts w_1392 w_1393 w_33 w_1394 (by decide +kernel) ⟨Nat.le_of_ble_eq_true rfl, Nat.le_of_ble_eq_true rfl⟩) (zc_pre hbase hK hN hQ hG hS) rfl rfl hl.1 rfl (lv_room (Nat.le_of_ble_eq_true rfl)) d_Mo_ask_200 ⟨(by dsimp only [List.length_nil]; omega), (by dsimp only [List.length_nil]; omega)⟩) hS (fun r200 G200 H locs hp200 hG hS => ?_)
                            have hG : zP E G189 H := hp200.2 ▸ hG
                            refine lv_if_eq (tgt := 221) hx hb d_Mo_ask_203 (by decide) (fun c203 => ?_) (fun c203 => ?_)
                            · refine lv_iinc (v := nI (i + 1)) (lv' := [(5, .int (nI (i + 1))), (6, .ref q5), (0, .ref a), (4, .int (nI (wln (vfo (rVf rs) lo (zscu u) t 9 (([], [], []) : zW) (np_low ls9)).2)))]) hx hb d_Mo_ask_221 hl (k := 3) rfl (nI_add i 1) (by decide) rfl (fun ls hl => ?_)
                              refine lv_goto (tgt := 92) hx hb d_Mo_ask_224 (by decide) ?_
                              have hsk : rFo (rVf rs) lo ws0 (vfo (rVf rs) lo (zscu u) t 9 (([], [], []) : zW) (np_low ls9)).2 (i + 1) = rFo (rVf rs) lo ws0 (vfo (rVf rs) lo (zscu u) t 9 (([], [], []) : zW) (np_low ls9)).2 i := (rFo_y hin c107).trans (vam_out (e := (we ws0 i).2) hgd (hp200.1.z c203))
                              have hst6 : rSt E G189 ro5 a d1 d2 lo rs5 (rFo (rVf rs) lo ws0 (vfo (rVf rs) lo (zscu u) t 9 (([], [], []) : zW) (np_low ls9)).2 (i + 1)) [] True (wln (rFo (rVf rs) lo ws0 (vfo (rVf rs) lo (zscu u) t 9 (([], [], []) : zW) (np_low ls9)).2 (i + 1)), 0, [], ws0) 0 [] ((vfo (rVf rs) lo (zscu u) t 9 (([], [], []) : zW) (np_low ls9)).1) u v19 v20 := by rw [hsk]; exact hst5
                              refine zW_more (cells2 := rPi d1 d2 (rFo (rVf rs) lo ws0 (vfo (rVf rs) lo (zscu u) t 9 (([], [], []) : zW) (np_low ls9)).2 (i + 1)) 0 - rPi d1 d2 (([], [], []) : zW) 0 + 40 + (rNc rs - rNc rs5) + 5) (slots2 := rPi d1 d2 (rFo (rVf rs) lo ws0 (vfo (rVf rs) lo (zscu u) t 9 (([], [], []) : zW) (np_low ls9)).2 (i + 1)) 0 - rPi d1 d2 (([], [], []) : zW) 0 + 2700 + (rNu rs - rNu rs5) + 5 + 255) (by rw [hsk]; exact Nat.le_refl _) (by rw [hsk]; exact Nat.le_refl _) ?_
                              exact ih G189 (i + 1) rs5 ro5 _ _ (by omega) (by omega) (hst6) (hrsq) (by omega) (by omega) (hf5) hG hS ls (lv_sub hl [2, 3, 0] rfl)
                            · refine lv_aload_n hx hb d_Mo_ask_206 rfl (lv_at hl 1 rfl) ?_
                              refine lv_aload hx hb d_Mo_ask_207 (lv_at hl 0 rfl) ?_
                              have hGo209 := hG
                              refine zk_i (va_runV (As := [.ref q5]) (rest := []) ⟨hx, hb, hml, hown, hts⟩ (t_Mo_cutOver_s l hst5 q5 (vtg (we ws0 i).2.2.1 (we ws0 i).2.2.2.2) hnm5) (zcV 1 hts w_1456 w_1458 wp_37 w_30 w_1459 (by decide +kernel) ⟨Nat.le_of_ble_eq_true rfl, Nat.le_of_ble_eq_true rfl⟩) (zc_preV hbase hK hN hQ hG hS ra5 rfl) rfl rfl hl.1 rfl (lv_room (Nat.le_of_ble_eq_true rfl)) d_Mo_ask_209 ⟨(by dsimp only [List.length_nil]; omega), (by dsimp only [List.length_nil]; omega)⟩) hS (fun r209 G209 H locs hp209 hG hS => ?_)
                              rcases hp209 with ⟨⟨kc, hkc, hvy, er209⟩ | ⟨hvn, er209⟩, eg209⟩
                              · have hG : zP E G189 H := eg209 ▸ hG
                                refine zi_as (y := nI (np_pos (vtg (we ws0 i).2.2.1 (we ws0 i).2.2.2.2) kc)) er209 ?_
                                have hpk := np_pos_le (vtg (we ws0 i).2.2.1 (we ws0 i).2.2.2.2) kc hkc
                                rw [hV5] at hvy
                                refine lv_if_ge (tgt := 221) hx hb d_Mo_ask_212 (by decide) (fun c212 => ?_) (fun c212 => ?_)
                                · have b212 : 0 ≤ (np_pos (vtg (we ws0 i).2.2.1 (we ws0 i).2.2.2.2) kc) := (nI_leI (a := 0) (b := (np_pos (vtg (we ws0 i).2.2.1 (we ws0 i).2.2.2.2) kc)) (by omega) (by omega)).mp c212
                                  refine lv_iinc (v := nI (i + 1)) (lv' := [(5, .int (nI (i + 1))), (6, .ref q5), (0, .ref a), (4, .int (nI (wln (vfo (rVf rs) lo (zscu u) t 9 (([], [], []) : zW) (np_low ls9)).2)))]) hx hb d_Mo_ask_221 hl (k := 3) rfl (nI_add i 1) (by decide) rfl (fun ls hl => ?_)
                                  refine lv_goto (tgt := 92) hx hb d_Mo_ask_224 (by decide) ?_
                                  have hsk : rFo (rVf rs) lo ws0 (vfo (rVf rs) lo (zscu u) t 9 (([], [], []) : zW) (np_low ls9)).2 (i + 1) = rFo (rVf rs) lo ws0 (vfo (rVf rs) lo (zscu u) t 9 (([], [], []) : zW) (np_low ls9)).2 i := (rFo_y hin c107).trans (vam_cut (e := (we ws0 i).2) (by rw [show vco (rVf rs) lo (vtg (we ws0 i).2.2.1 (we ws0 i).2.2.2.2) = _ from hvy]; exact Option.some_ne_none _))
                                  have hst6 : rSt E G189 ro5 a d1 d2 lo rs5 (rFo (rVf rs) lo ws0 (vfo (rVf rs) lo (zscu u) t 9 (([], [], []) : zW) (np_low ls9)).2 (i + 1)) [] True (wln (rFo (rVf rs) lo ws0 (vfo (rVf rs) lo (zscu u) t 9 (([], [], []) : zW) (np_low ls9)).2 (i + 1)), 0, [], ws0) 0 [] ((vfo (rVf rs) lo (zscu u) t 9 (([], [], []) : zW) (np_low ls9)).1) u v19 v20 := by rw [hsk]; exact hst5
                                  refine zW_more (cells2 := rPi d1 d2 (rFo (rVf rs) lo ws0 (vfo (rVf rs) lo (zscu u) t 9 (([], [], []) : zW) (np_low ls9)).2 (i + 1)) 0 - rPi d1 d2 (([], [], []) : zW) 0 + 40 + (rNc rs - rNc rs5) + 5) (slots2 := rPi d1 d2 (rFo (rVf rs) lo ws0 (vfo (rVf rs) lo (zscu u) t 9 (([], [], []) : zW) (np_low ls9)).2 (i + 1)) 0 - rPi d1 d2 (([], [], []) : zW) 0 + 2700 + (rNu rs - rNu rs5) + 5 + 255) (by rw [hsk]; exact Nat.le_refl _) (by rw [hsk]; exact Nat.le_refl _) ?_
                                  exact ih G189 (i + 1) rs5 ro5 _ _ (by omega) (by omega) (hst6) (hrsq) (by omega) (by omega) (hf5) hG hS ls (lv_sub hl [2, 3, 0] rfl)
                                · have b212 : ¬ 0 ≤ (np_pos (vtg (we ws0 i).2.2.1 (we ws0 i).2.2.2.2) kc) := fun q => c212 ((nI_leI (a := 0) (b := (np_pos (vtg (we ws0 i).2.2.1 (we ws0 i).2.2.2.2) kc)) (by omega) (by omega)).mpr q)
                                  exact absurd (Int32.not_lt.mp (nI_pos (by omega))) c212
                              · have hG : zP E G189 H := eg209 ▸ hG
                                refine zi_as (y := (-1)) er209 ?_
                                rw [hV5] at hvn
                                refine lv_if_ge (tgt := 221) hx hb d_Mo_ask_212 (by decide) (fun c212 => ?_) (fun c212 => ?_)
                                · exact absurd c212 (by decide)
                                · refine lv_aload_n hx hb d_Mo_ask_215 rfl (lv_at hl 1 rfl) ?_
                                  refine lv_aload hx hb d_Mo_ask_216 (lv_at hl 0 rfl) ?_
                                  have eW9 : rFo (rVf rs) lo ws0 (vfo (rVf rs) lo (zscu u) t 9 (([], [], []) : zW) (np_low ls9)).2 (i + 1) = vao (rVf rs) (rFo (rVf rs) lo ws0 (vfo (rVf rs) lo (zscu u) t 9 (([], [], []) : zW) (np_low ls9)).2 i) (vtg (we ws0 i).2.2.1 (we ws0 i).2.2.2.2) := by rw [rFo_y hin c107]; exact vam_yes (e := (we ws0 i).2) (Or.inr (Or.inr c142)) hvn
                                  have hle9 : zLe (rFo (rVf rs) lo ws0 (vfo (rVf rs) lo (zscu u) t 9 (([], [], []) : zW) (np_low ls9)).2 (i + 1)) (vask (rVf rs) lo (zscu u) t (np_low ls9)).2 := by rw [hWE]; exact rFo_le hin
                                  have hp9 := rPi_le (n := 0) (m := 0) hd1 hd2 hle9 (rPw_le hle9)
                                  have hb9 := (hBt.le hd2 hle9).1
                                  have hle10 : zLe (rFo (rVf rs) lo ws0 (vfo (rVf rs) lo (zscu u) t 9 (([], [], []) : zW) (np_low ls9)).2 i) (rFo (rVf rs) lo ws0 (vfo (rVf rs) lo (zscu u) t 9 (([], [], []) : zW) (np_low ls9)).2 (i + 1)) := rFo_le (Nat.le_succ i)
                                  have hp10 := rPi_le (n := 0) (m := 0) hd1 hd2 hle10 (rPw_le hle10)
                                  have hmq := t_Mo_more l E G189 a d1 d2 ro5 lo rs5 (rFo (rVf rs) lo ws0 (vfo (rVf rs) lo (zscu u) t 9 (([], [], []) : zW) (np_low ls9)).2 i) ws0 0 ((vfo (rVf rs) lo (zscu u) t 9 (([], [], []) : zW) (np_low ls9)).1) u [] v19 v20 hst5 q5 (vtg (we ws0 i).2.2.1 (we ws0 i).2.2.2.2) hnm5 (by rw [hV5, ← eW9]; exact hb9)
                                  rw [hV5] at hmq
                                  have eP9 : rPi d1 d2 (rFo (rVf rs) lo ws0 (vfo (rVf rs) lo (zscu u) t 9 (([], [], []) : zW) (np_low ls9)).2 (i + 1)) 0 = rPi d1 d2 (rMr (rVf rs) (rFo (rVf rs) lo ws0 (vfo (rVf rs) lo (zscu u) t 9 (([], [], []) : zW) (np_low ls9)).2 i) (vtg (we ws0 i).2.2.1 (we ws0 i).2.2.2.2) 2) 0 := by rw [eW9]; rfl
                                  have hGo218 := hG
                                  refine zk_v (va_runV (As := [.ref q5]) (rest := []) ⟨hx, hb, hml, hown, hts⟩ (hmq) (zcV 1 hts w_1532 w_1534 wp_50 w_30 w_1535 (by decide +kernel) ⟨Nat.le_of_ble_eq_true rfl, Nat.le_of_ble_eq_true rfl⟩) (zc_preV hbase hK hN hQ hG hS ra5 rfl) rfl rfl hl.1 rfl (lv_room (Nat.le_of_ble_eq_true rfl)) d_Mo_ask_218 ⟨(by dsimp only [List.length_nil]; omega), (by dsimp only [List.length_nil]; omega)⟩) hS (fun G218 H locs hp218 hG hS => ?_)
                                  obtain ⟨ro6, hst6, hs6⟩ := hp218
                                  have hst6 : rSt E G218 ro6 a d1 d2 lo rs5 (rFo (rVf rs) lo ws0 (vfo (rVf rs) lo (zscu u) t 9 (([], [], []) : zW) (np_low ls9)).2 (i + 1)) [] True (wln (rFo (rVf rs) lo ws0 (vfo (rVf rs) lo (zscu u) t 9 (([], [], []) : zW) (np_low ls9)).2 (i + 1)), 0, [], ws0) 0 [] ((vfo (rVf rs) lo (zscu u) t 9 (([], [], []) : zW) (np_low ls9)).1) u v19 v20 := by rw [eW9]; exact hst6
                                  have hf6 := hf5.tr hs6
                                  refine lv_iinc (v := nI (i + 1)) (lv' := [(5, .int (nI (i + 1))), (6, .ref q5), (0, .ref a), (4, .int (nI (wln (vfo (rVf rs) lo (zscu u) t 9 (([], [], []) : zW) (np_low ls9)).2)))]) hx hb d_Mo_ask_221 hl (k := 3) rfl (nI_add i 1) (by decide) rfl (fun ls hl => ?_)
                                  refine lv_goto (tgt := 92) hx hb d_Mo_ask_224 (by decide) ?_
                                  refine zW_more (cells2 := rPi d1 d2 (rFo (rVf rs) lo ws0 (vfo (rVf rs) lo (zscu u) t 9 (([], [], []) : zW) (np_low ls9)).2 (i + 1)) 0 - rPi d1 d2 (([], [], []) : zW) 0 + 40 + (rNc rs - rNc rs5) + 5) (slots2 := rPi d1 d2 (rFo (rVf rs) lo ws0 (vfo (rVf rs) lo (zscu u) t 9 (([], [], []) : zW) (np_low ls9)).2 (i + 1)) 0 - rPi d1 d2 (([], [], []) : zW) 0 + 2700 + (rNu rs - rNu rs5) + 5 + 255) (by dsimp only [List.length_nil]; omega) (by dsimp only [List.length_nil]; omega) ?_
                                  exact ih G218 (i + 1) rs5 ro6 _ _ (by omega) (by omega) (hst6) (hrsq) (by omega) (by omega) (hf6) hG hS ls (lv_sub hl [2, 3, 0] rfl)
                          · exact absurd c180 c130
                        · exact absurd c164 c118
                      · refine lv_goto (tgt := 221) hx hb d_Mo_ask_145 (by decide) ?_
                        refine lv_iinc (v := nI (i + 1)) (lv' := [(5, .int (nI (i + 1))), (0, .ref a), (4, .int (nI (wln (vfo (rVf rs) lo (zscu u) t 9 (([], [], []) : zW) (np_low ls9)).2)))]) hx hb d_Mo_ask_221 hl (k := 2) rfl (nI_add i 1) (by decide) rfl (fun ls hl => ?_)
                        refine lv_goto (tgt := 92) hx hb d_Mo_ask_224 (by decide) ?_
                        have hsk : rFo (rVf rs) lo ws0 (vfo (rVf rs) lo (zscu u) t 9 (([], [], []) : zW) (np_low ls9)).2 (i + 1) = rFo (rVf rs) lo ws0 (vfo (rVf rs) lo (zscu u) t 9 (([], [], []) : zW) (np_low ls9)).2 i := (rFo_y hin c107).trans (vam_no (e := (we ws0 i).2) (fun z => z.elim c118 (fun w => w.elim c130 c142)))
                        have hst6 : rSt E Gv ro8 a d1 d2 lo rs8 (rFo (rVf rs) lo ws0 (vfo (rVf rs) lo (zscu u) t 9 (([], [], []) : zW) (np_low ls9)).2 (i + 1)) [] True (wln (rFo (rVf rs) lo ws0 (vfo (rVf rs) lo (zscu u) t 9 (([], [], []) : zW) (np_low ls9)).2 (i + 1)), 0, [], ws0) 0 [] ((vfo (rVf rs) lo (zscu u) t 9 (([], [], []) : zW) (np_low ls9)).1) u v19 v20 := by rw [hsk]; exact hst8
                        refine zW_more (cells2 := rPi d1 d2 (rFo (rVf rs) lo ws0 (vfo (rVf rs) lo (zscu u) t 9 (([], [], []) : zW) (np_low ls9)).2 (i + 1)) 0 - rPi d1 d2 (([], [], []) : zW) 0 + 40 + (rNc rs - rNc rs8) + 5) (slots2 := rPi d1 d2 (rFo (rVf rs) lo ws0 (vfo (rVf rs) lo (zscu u) t 9 (([], [], []) : zW) (np_low ls9)).2 (i + 1)) 0 - rPi d1 d2 (([], [], []) : zW) 0 + 2700 + (rNu rs - rNu rs8) + 5 + 255) (by rw [hsk]; exact Nat.le_refl _) (by rw [hsk]; exact Nat.le_refl _) ?_
                        exact ih Gv (i + 1) rs8 ro8 _ _ (by omega) (by omega) (hst6) (hrs) (hnu) (hnc) (hf8) hG hS ls (lv_sub hl [1, 2, 0] rfl)
          refine zW_more (cells2 := rPi d1 d2 (rFo (rVf rs) lo ws0 (vfo (rVf rs) lo (zscu u) t 9 (([], [], []) : zW) (np_low ls9)).2 0) 0 - rPi d1 d2 (([], [], []) : zW) 0 + 40 + (rNc rs - rNc rs) + 5) (slots2 := rPi d1 d2 (rFo (rVf rs) lo ws0 (vfo (rVf rs) lo (zscu u) t 9 (([], [], []) : zW) (np_low ls9)).2 0) 0 - rPi d1 d2 (([], [], []) : zW) 0 + 2700 + (rNu rs - rNu rs) + 5 + 255) (Nat.le_refl _) (Nat.le_refl _) ?_
          exact loop92 _ G80 0 rs ro4 _ _ (Nat.lt_succ_self _) (Nat.zero_le _) (hst4) (rsm.rf) (Nat.le_refl _) (Nat.le_refl _) (hf4) hG hS ls (lv_sub hl [3, 1, 0] rfl)
        · have hnlo := hp61.1.z c64
          have hak := vask_n (V := (rVf rs)) (sec := zscu u) (t := t) hnlo
          refine lv_aload_n hx hb d_Mo_ask_67 rfl (lv_at hl 1 rfl) ?_
          refine lv_iconst (v := 5) hx hb d_Mo_ask_68 (by decide) ?_
          refine zg_put (ci := 11) (v := .int 5) (ty := .int) (C := "ZoneAnswersModel") (T := T_Mo) (N := 21) hx hb hts zi_Mo t_Mo t_Mo_ok n_Mo hown hK hG hS ra3 rfl 14 (by decide) (hts _ w_1295) (fun _ h9 => h9) rfl (by decide +kernel) rfl rfl (Nat.le_of_ble_eq_true rfl) d_Mo_ask_69 (fun H locs hG hS => ?_)
          obtain ⟨G316, eG316⟩ : ∃ z : zg_G, z = zg_up G314 a (.inr (11, [.int 0, .ref (h3 1), .int (nI (([] : List Int32).length)), .ref (h3 3), .ref (h3 4), .int (nI rs.length), .ref (h3 6), .ref (h3 7), .ref (h3 8), .ref (h3 9), .ref (h3 10), .ref (h3 11), .ref (h3 12), .int (nI (wln (([], [], []) : zW))), .int 5, .ref (h3 15), .int (nI (rPw (([], [], []) : zW) + ([] : List Int32).length)), .int u, .ref (h3 18), v19, v20])) := ⟨_, rfl⟩
          have hG : zP E G316 H := by rw [eG316]; exact hG
          have k317 : G316 a = some (.inr (11, [.int 0, .ref (h3 1), .int (nI (([] : List Int32).length)), .ref (h3 3), .ref (h3 4), .int (nI rs.length), .ref (h3 6), .ref (h3 7), .ref (h3 8), .ref (h3 9), .ref (h3 10), .ref (h3 11), .ref (h3 12), .int (nI (wln (([], [], []) : zW))), .int 5, .ref (h3 15), .int (nI (rPw (([], [], []) : zW) + ([] : List Int32).length)), .int u, .ref (h3 18), v19, v20])) := by rw [eG316]; exact zg_up_self _ _ _
          obtain ⟨hst4, hs4⟩ := rSt.set hst3 0 5 u v19 v20 ra3
          rw [← eG316] at hst4 hs4
          have hf4 := hf3.tr hs4
          refine lv_aload_n hx hb d_Mo_ask_72 rfl (lv_at hl 1 rfl) ?_
          refine zg_get (ci := 11) (C := "ZoneAnswersModel") (T := T_Mo) (N := 21) hx hb hts zi_Mo hown hK hG k317 rfl 14 (by decide) (hts _ w_1295) (fun _ h9 => h9) rfl d_Mo_ask_73 ?_
          exact hret _ _ _ _ _ _ _ _ _ hr (rfl) (Or.inr ⟨c16, Int32.not_lt.mpr c22, ro2, rs, ls9, _, hTn, by rw [hak], by rw [hak, ← ed1, ← ed2]; exact hst4, rsm.rf, Nat.le_refl _, hf4⟩) hG hS (by dsimp only; omega) (by dsimp only; omega) d_Mo_ask_76
      · have hbad : t < 1 ∨ 65535 < t ∨ ¬ ∃ ls, zTn tp ls := Or.inr (Or.inl (Int32.not_le.mp c22))
        refine lv_aload_n hx hb d_Mo_ask_25 rfl (lv_at hl 1 rfl) ?_
        refine lv_iconst (v := 1) hx hb d_Mo_ask_26 (by decide) ?_
        have hGo27 := hG
        refine zk_i (va_runV (As := [.int 1]) (rest := []) ⟨hx, hb, hml, hown, hts⟩ (t_Mo_fail l E G6 a (h2 1) (h2 3) (h2 4) (h2 6) (h2 7) (h2 8) (h2 9) (h2 10) (h2 11) (h2 12) (h2 15) (h2 18) 0 (nI tp.length) (nI rs.length) (nI (wln Wz)) co (nI (rPw Wz + ([] : List Int32).length)) se v19 v20 ra2 1) (zcV 1 hts w_1354 w_1356 wp_26 w_30 w_1357 (by decide +kernel) ⟨Nat.le_of_ble_eq_true rfl, Nat.le_of_ble_eq_true rfl⟩) (zc_preV hbase hK hN hQ hG hS ra2 rfl) rfl rfl hl.1 rfl (lv_room (Nat.le_of_ble_eq_true rfl)) d_Mo_ask_27 ⟨(by dsimp only; omega), (by dsimp only; omega)⟩) hS (fun r27 G27 H locs hp27 hG hS => ?_)
        refine zi_as (y := 0) hp27.1 ?_
        obtain ⟨hstf, hsf⟩ := rSt.set hst2 1 co se v19 v20 ra2
        rw [← hp27.2] at hstf hsf
        have hff := hf2.tr hsf
        exact hret _ _ _ _ _ _ _ _ _ hr (rfl) (Or.inl ⟨hbad, rfl, _, hstf, hff⟩) hG hS (by dsimp only; omega) (by dsimp only; omega) d_Mo_ask_30
  · have hG : zP E G1 H := eg6 ▸ hG
    refine zr_none er6 ?_
    have hf1 := hs1
    have hbad : t < 1 ∨ 65535 < t ∨ ¬ ∃ ls, zTn tp ls := Or.inr (Or.inr hnT)
    refine lv_astore_nN (lv' := [(3, .null), (0, .ref a), (1, .int t), (2, .int u)]) hx hb d_Mo_ask_9 rfl hl (by decide) rfl (fun ls hl => ?_)
    refine lv_aload_nN hx hb d_Mo_ask_10 rfl (lv_at hl 0 rfl) ?_
    refine lv_ifnullN (tgt := 25) hx hb d_Mo_ask_11 (by decide) ?_
    refine lv_aload_n hx hb d_Mo_ask_25 rfl (lv_at hl 1 rfl) ?_
    refine lv_iconst (v := 1) hx hb d_Mo_ask_26 (by decide) ?_
    have hGo27 := hG
    refine zk_i (va_runV (As := [.int 1]) (rest := []) ⟨hx, hb, hml, hown, hts⟩ (t_Mo_fail l E G1 a (h1 1) (h1 3) (h1 4) (h1 6) (h1 7) (h1 8) (h1 9) (h1 10) (h1 11) (h1 12) (h1 15) (h1 18) 0 (nI tp.length) (nI rs.length) (nI (wln Wz)) co (nI (rPw Wz + ([] : List Int32).length)) se v19 v20 ra1 1) (zcV 1 hts w_1354 w_1356 wp_26 w_30 w_1357 (by decide +kernel) ⟨Nat.le_of_ble_eq_true rfl, Nat.le_of_ble_eq_true rfl⟩) (zc_preV hbase hK hN hQ hG hS ra1 rfl) rfl rfl hl.1 rfl (lv_room (Nat.le_of_ble_eq_true rfl)) d_Mo_ask_27 ⟨(by dsimp only; omega), (by dsimp only; omega)⟩) hS (fun r27 G27 H locs hp27 hG hS => ?_)
    refine zi_as (y := 0) hp27.1 ?_
    obtain ⟨hstf, hsf⟩ := rSt.set hst1 1 co se v19 v20 ra1
    rw [← hp27.2] at hstf hsf
    have hff := hf1.tr hsf
    exact hret _ _ _ _ _ _ _ _ _ hr (rfl) (Or.inl ⟨hbad, rfl, _, hstf, hff⟩) hG hS (by dsimp only; omega) (by dsimp only; omega) d_Mo_ask_30
