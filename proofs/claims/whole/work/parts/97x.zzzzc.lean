/-! THE REFERENCE TAKES RECORDS AWAY -/
theorem rs_split {rs : List zRt} {k : Nat} (hk : k < rs.length) : rs = rs.take k ++ re rs k :: rs.drop (k + 1) := by
  rw [re_at hk, ← List.drop_eq_getElem_cons hk, List.take_append_drop]
theorem zdr_app {α : Type} (A B : List α) (e : α) : zdr (A ++ e :: B) A.length = A ++ B := by
  unfold zdr
  rw [List.take_left, List.drop_append, List.drop_of_length_le (by omega), show A.length + 1 - A.length = 1 by omega]
  rfl
theorem rVf_app (A B : List zRt) (x : np_N) (t : Int32) : rVf (A ++ B) x t = rVf A x t ++ rVf B x t := by
  unfold rVf
  rw [List.filter_append, List.map_append]
theorem rVf_cons (e : zRt) (B : List zRt) (x : np_N) (t : Int32) : rVf (e :: B) x t = (if rM e = x ∧ rT e = t then [(rU e, rB e)] else []) ++ rVf B x t := by
  unfold rVf
  rw [List.filter_cons]
  by_cases z : rM e = x ∧ rT e = t
  · rw [if_pos z, if_pos (decide_eq_true z)]; rfl
  · rw [if_neg z, if_neg (by rw [decide_eq_false z]; decide)]; rfl
theorem zct_V (rs : List zRt) (t : Int32) (x : np_N) (i : Nat) : zct rs t x i = (rVf (rs.take i) x t).length := by
  unfold zct rVf
  rw [List.length_map]
  congr 1
  refine List.filter_congr (fun e _ => ?_)
  rw [decide_eq_decide]; exact and_comm
theorem zct_all (rs : List zRt) (t : Int32) (x : np_N) : zct rs t x rs.length = (rVf rs x t).length := by rw [zct_V, List.take_length]
theorem rVf_dr {rs : List zRt} {k : Nat} (hk : k < rs.length) : rVf (zdr rs k) = vtk (rVf rs) (rM (re rs k)) (rT (re rs k)) (zct rs (rT (re rs k)) (rM (re rs k)) k) := by
  funext x t
  have e1 : rVf (zdr rs k) x t = rVf (rs.take k) x t ++ rVf (rs.drop (k + 1)) x t := rVf_app _ _ x t
  have e2 : rVf rs x t = rVf (rs.take k) x t ++ ((if rM (re rs k) = x ∧ rT (re rs k) = t then [(rU (re rs k), rB (re rs k))] else []) ++ rVf (rs.drop (k + 1)) x t) := by
    conv => lhs; rw [rs_split hk]
    rw [rVf_app, rVf_cons]
  unfold vtk
  by_cases z : x = rM (re rs k) ∧ t = rT (re rs k)
  · rw [if_pos z, e1, e2, if_pos ⟨z.1.symm, z.2.symm⟩, zct_V, ← z.1, ← z.2]
    exact (zdr_app _ _ _).symm
  · rw [if_neg z, e1, e2, if_neg (fun w => z ⟨w.1.symm, w.2.symm⟩)]; rfl
theorem rfind_y {rs : List zRt} {t : Int32} {x : np_N} {D : List Int32} {i : Nat} (hi : i < rs.length) (h : rT (re rs i) = t ∧ rM (re rs i) = x ∧ rB (re rs i) = D) (hn : ∀ j, j < i → ¬ (rT (re rs j) = t ∧ rM (re rs j) = x ∧ rB (re rs j) = D)) : isFst (rVf rs x t) D (zct rs t x i) ∧ rVf (zdr rs i) = vtk (rVf rs) x t (zct rs t x i) := by
  obtain ⟨h1, h2, h3⟩ := h
  have e2 : rVf rs x t = rVf (rs.take i) x t ++ ((if rM (re rs i) = x ∧ rT (re rs i) = t then [(rU (re rs i), rB (re rs i))] else []) ++ rVf (rs.drop (i + 1)) x t) := by
    conv => lhs; rw [rs_split hi]
    rw [rVf_app, rVf_cons]
  rw [if_pos ⟨h2, h1⟩] at e2
  refine ⟨⟨⟨rU (re rs i), ?_⟩, fun j hj p hp => ?_⟩, by rw [rVf_dr hi, h1, h2]⟩
  · rw [e2, zct_V, List.getElem?_append_right (Nat.le_refl _), Nat.sub_self, ← h3]; rfl
  · rw [zct_V] at hj
    rw [e2, List.getElem?_append_left hj] at hp
    have hm := List.mem_of_getElem? hp
    unfold rVf at hm
    obtain ⟨e, he, rfl⟩ := List.mem_map.mp hm
    obtain ⟨he1, he2⟩ := List.mem_filter.mp he
    have he2 := of_decide_eq_true he2
    obtain ⟨m, hm1, hm2⟩ := List.getElem_of_mem he1
    rw [List.length_take] at hm1
    rw [List.getElem_take] at hm2
    have q := hn m (by omega)
    rw [re_at (by omega), hm2] at q
    exact fun w => q ⟨he2.2, he2.1, w⟩
theorem rfind_n {rs : List zRt} {t : Int32} {x : np_N} {D : List Int32} (h : ¬ ∃ e ∈ rs, rT e = t ∧ rM e = x ∧ rB e = D) : ∀ q, q ∈ rVf rs x t → q.2 ≠ D := fun q hq w => by
  unfold rVf at hq
  obtain ⟨e, he, rfl⟩ := List.mem_map.mp hq
  obtain ⟨he1, he2⟩ := List.mem_filter.mp he
  have he2 := of_decide_eq_true he2
  exact h ⟨e, he1, he2.2, he2.1, w⟩
theorem rNu_dr {rs : List zRt} {k : Nat} (hk : k < rs.length) : rNu (zdr rs k) ≤ rNu rs := by
  have e : rNu rs = rNu (rs.take k) + (rNu1 (re rs k) + rNu (rs.drop (k + 1))) := by
    conv => lhs; rw [rs_split hk]
    unfold rNu
    rw [List.map_append, List.sum_append, List.map_cons, List.sum_cons]
  have e2 : rNu (zdr rs k) = rNu (rs.take k) + rNu (rs.drop (k + 1)) := by
    unfold rNu zdr
    rw [List.map_append, List.sum_append]
  omega
theorem zRec.ln {tp : List Int32} {t : Int32} {lo x : np_N} {D : List Int32} (h : zRec tp t lo x D) : D.length ≤ tp.length ∧ zput t ∧ np_g x ∧ lo <:+ x := by
  obtain ⟨ls, h1, h2, rfl, rfl⟩ := h
  exact ⟨by rw [zdb_len]; omega, h1.2.1, np_low_g h1.1.1, h2⟩
theorem vtk_len {V : zVt} {x : np_N} {t : Int32} {D : List Int32} {j : Nat} (h : isFst (V x t) D j) : nI ((vtk V x t j x t).length) = nI ((V x t).length - 1) := by
  obtain ⟨⟨u, hu⟩, -⟩ := h
  unfold vtk
  rw [if_pos ⟨rfl, rfl⟩, zdr_ln (List.getElem?_eq_some_iff.mp hu).1]
theorem w_1401 : (.methodLink "ZoneAnswersModel" 260 ⟨"ZoneAnswersModel", "find", "([BI[B)I"⟩ : Cond) ∈ zw := zw_at 1401 (by decide +kernel) (by decide +kernel)
theorem w_1403 : (.instanceMethod ⟨"ZoneAnswersModel", "find", "([BI[B)I"⟩ : Cond) ∈ zw := zw_at 1403 (by decide +kernel) (by decide +kernel)
theorem w_1404 : (.code ⟨"ZoneAnswersModel", "find", "([BI[B)I"⟩ prog_12_method_40_code 5 (some .int) : Cond) ∈ zw := zw_at 1404 (by decide +kernel) (by decide +kernel)
theorem w_1417 : (.methodLink "ZoneAnswersModel" 264 ⟨"ZoneAnswersModel", "size", "([BI)I"⟩ : Cond) ∈ zw := zw_at 1417 (by decide +kernel) (by decide +kernel)
theorem w_1419 : (.instanceMethod ⟨"ZoneAnswersModel", "size", "([BI)I"⟩ : Cond) ∈ zw := zw_at 1419 (by decide +kernel) (by decide +kernel)
theorem w_1420 : (.code ⟨"ZoneAnswersModel", "size", "([BI)I"⟩ prog_12_method_41_code 5 (some .int) : Cond) ∈ zw := zw_at 1420 (by decide +kernel) (by decide +kernel)
theorem w_1425 : (.methodLink "ZoneAnswersModel" 267 ⟨"ZoneAnswersModel", "removed", "(I)V"⟩ : Cond) ∈ zw := zw_at 1425 (by decide +kernel) (by decide +kernel)
theorem w_1427 : (.instanceMethod ⟨"ZoneAnswersModel", "removed", "(I)V"⟩ : Cond) ∈ zw := zw_at 1427 (by decide +kernel) (by decide +kernel)
theorem w_1428 : (.code ⟨"ZoneAnswersModel", "removed", "(I)V"⟩ prog_12_method_43_code 3 none : Cond) ∈ zw := zw_at 1428 (by decide +kernel) (by decide +kernel)
theorem wp_29 : (.selects "ZoneAnswersModel" ⟨"ZoneAnswersModel", "find", "([BI[B)I"⟩ ⟨"ZoneAnswersModel", "find", "([BI[B)I"⟩ : Cond) ∈ zw := zw_pv 29 (y := ⟨"ZoneAnswersModel", "find", "([BI[B)I"⟩) rfl (by decide +kernel)
theorem wp_32 : (.selects "ZoneAnswersModel" ⟨"ZoneAnswersModel", "size", "([BI)I"⟩ ⟨"ZoneAnswersModel", "size", "([BI)I"⟩ : Cond) ∈ zw := zw_pv 32 (y := ⟨"ZoneAnswersModel", "size", "([BI)I"⟩) rfl (by decide +kernel)
theorem wp_33 : (.selects "ZoneAnswersModel" ⟨"ZoneAnswersModel", "removed", "(I)V"⟩ ⟨"ZoneAnswersModel", "removed", "(I)V"⟩ : Cond) ∈ zw := zw_pv 33 (y := ⟨"ZoneAnswersModel", "removed", "(I)V"⟩) rfl (by decide +kernel)

abbrev rm_Mo_take (n0 : Nat) : Room := { frames := 6, cells := 3, slots := n0 + 510, locals := 160 }
set_option maxHeartbeats 4000000 in
set_option maxRecDepth 100000 in
/-- take(t), of the reference -/
theorem t_Mo_take (l : Launch) (E : zc_E) (G : zg_G) (a c1 c2 : Nat) (ro : zRo) (lo : np_N) (rs : List zRt) (Wz : zW) (th co se : Int32) (hse : se = 0 ∨ se = 1) (tp : List Int32) (v19 v20 : Value) (hst : rSt E G ro a c1 c2 lo rs Wz [] False (0, 0, [], []) th tp co se v19 v20) (t : Int32) : zMi l E y_Mo_take c_Mo_take 3 (some .int) (rm_Mo_take tp.length) [.ref a, .int t] G (fun (r : Int32) (G2 : zg_G) => (∃ r2 rs2 x D j, zRec tp t lo x D ∧ isFst (rVf rs x t) D j ∧ rVf rs2 = vtk (rVf rs) x t j ∧ r = nI ((rVf rs x t).length - 1) ∧ rs2.length + 1 = rs.length ∧ rNu rs2 ≤ rNu rs ∧ rO E G2 r2 a c1 c2 lo rs2 Wz ([]) 0 ∧ zfr ro zKr G r2 G2) ∨ ((¬ ∃ x D, zRec tp t lo x D) ∧ r = 0 ∧ ∃ r2, rO E G2 r2 a c1 c2 lo rs Wz tp 1 ∧ zfr ro zKr G r2 G2) ∨ ((∃ x D, zRec tp t lo x D ∧ ∀ q, q ∈ rVf rs x t → q.2 ≠ D) ∧ r = 0 ∧ ∃ r2, rO E G2 r2 a c1 c2 lo rs Wz tp 2 ∧ zfr ro zKr G r2 G2)) := by
  refine zMi.of (by decide) (Nat.le_of_ble_eq_true rfl) ?_
  intro p e s m args below meth c Q hZ hG hret ls hl
  obtain ⟨hx, hb, hr, hts, hown, hlocks, hml, hnm, hbase, hK, hN, hQ⟩ := hZ
  have hl : lv_has ls 3 [(0, .ref a), (1, .int t)] := hl
  have hS : zg_S (zc_b E) s.heap s.heap [] := va_S.rf
  obtain ⟨h, eh0, eh1, eh2, hc⟩ := id hst
  obtain ⟨ra, rb, ⟨fm, rt1, rt2, rt3, rt4⟩, rtl, ⟨fo, rn1, rn2, rn3, rn4, rn5⟩, rr, rg, ras⟩ := id hc
  rw [eh0] at ra
  obtain ⟨⟨fr, rm4, hfr⟩, hn2, hRs⟩ := id rr.1
  refine lv_aload_n hx hb d_Mo_take_0 rfl (lv_at hl 0 rfl) ?_
  refine lv_iconst (v := 0) hx hb d_Mo_take_1 (by decide) ?_
  refine zg_put (ci := 11) (v := .int 0) (ty := .int) (C := "ZoneAnswersModel") (T := T_Mo) (N := 21) hx hb hts zi_Mo t_Mo t_Mo_ok n_Mo hown hK hG hS ra rfl 0 (by decide) (hts _ w_1281) (fun _ h9 => h9) rfl (by decide +kernel) rfl rfl (Nat.le_of_ble_eq_true rfl) d_Mo_take_2 (fun H locs hG hS => ?_)
  obtain ⟨G1, eG1⟩ : ∃ z : zg_G, z = zg_up G a (.inr (11, [.int 0, .ref (h 1), .int (nI tp.length), .ref (h 3), .ref (h 4), .int (nI rs.length), .ref (h 6), .ref (h 7), .ref (h 8), .ref (h 9), .ref (h 10), .ref (h 11), .ref (h 12), .int (nI (wln Wz)), .int co, .ref (h 15), .int (nI (rPw Wz + ([] : List Int32).length)), .int se, .ref (h 18), v19, v20])) := ⟨_, rfl⟩
  have hG : zP E G1 H := by rw [eG1]; exact hG
  have k2 : G1 a = some (.inr (11, [.int 0, .ref (h 1), .int (nI tp.length), .ref (h 3), .ref (h 4), .int (nI rs.length), .ref (h 6), .ref (h 7), .ref (h 8), .ref (h 9), .ref (h 10), .ref (h 11), .ref (h 12), .int (nI (wln Wz)), .int co, .ref (h 15), .int (nI (rPw Wz + ([] : List Int32).length)), .int se, .ref (h 18), v19, v20])) := by rw [eG1]; exact zg_up_self _ _ _
  have k3 : G1 (h 4) = some (.inl (E.2.1 4, 2000, .inr (.inr (.inr (.inr fr))))) := by rw [eG1, zg_up_ne (zg_ne rm4 ra (by intro h; simp at h))]; exact rm4
  have k4 : G1 (h 3) = some (.inl (E.2.1 0, np_len lo, .inl fo)) := by rw [eG1, zg_up_ne (zg_ne rn1 ra (by intro h; simp at h))]; exact rn1
  have k5 : G1 (h 1) = some (.inl (E.2.1 0, 65536, .inl fm)) := by rw [eG1, zg_up_ne (zg_ne rt1 ra (by intro h; simp at h))]; exact rt1
  obtain ⟨hst1, hs1⟩ := rSt.set hst 0 co se v19 v20 ra
  rw [← eG1] at hst1 hs1
  have hf1 := hs1
  obtain ⟨h1, eh01, eh11, eh21, hc1⟩ := id hst1
  obtain ⟨ra1, rb1, ⟨fm1, rt11, rt21, rt31, rt41⟩, rtl1, ⟨fo1, rn11, rn21, rn31, rn41, rn51⟩, rr1, rg1, ras1⟩ := id hc1
  rw [eh01] at ra1
  obtain ⟨⟨fr1, rm41, hfr1⟩, hn21, hRs1⟩ := id rr1.1
  refine lv_aload_n hx hb d_Mo_take_5 rfl (lv_at hl 0 rfl) ?_
  refine lv_iload_n hx hb d_Mo_take_6 rfl (lv_at hl 1 rfl) ?_
  have hGo7 := hG
  refine zk_i (va_runV (As := [.int t]) (rest := []) ⟨hx, hb, hml, hown, hts⟩ (t_Mo_record l E G1 a c1 c2 ro lo rs Wz 0 co se hse tp v19 v20 hst1 t) (zcV 1 hts w_1379 w_1381 wp_27 w_30 w_1382 (by decide +kernel) ⟨Nat.le_of_ble_eq_true rfl, Nat.le_of_ble_eq_true rfl⟩) (zc_preV hbase hK hN hQ hG hS ra1 rfl) rfl rfl hl.1 rfl (lv_room (Nat.le_of_ble_eq_true rfl)) d_Mo_take_7 ⟨(by dsimp only; omega), (by dsimp only; omega)⟩) hS (fun r7 G7 H locs hp7 hG hS => ?_)
  rcases hp7 with ⟨ro2, x9, D9, q19, q20, hzr, er7, hst2, hnm2, hby2, hr20, hne2, hz2⟩ | ⟨hbad, er7, ro2, w19, w20, hst2, hz2⟩
  · refine zi_as (y := 1) er7 ?_
    have hf2 := hf1.tr hz2
    obtain ⟨fd2, d12, d22, d32⟩ := id hby2
    obtain ⟨hDl, hzp, -⟩ := hzr.ln
    obtain ⟨h2, eh02, eh12, eh22, hc2⟩ := id hst2
    obtain ⟨ra2, rb2, ⟨fm2, rt12, rt22, rt32, rt42⟩, rtl2, ⟨fo2, rn12, rn22, rn32, rn42, rn52⟩, rr2, rg2, ras2⟩ := id hc2
    rw [eh02] at ra2
    obtain ⟨⟨fr2, rm42, hfr2⟩, hn22, hRs2⟩ := id rr2.1
    obtain ⟨f_q192, n1_q192, n2_q192, n3_q192, n4_q192, n5_q192⟩ := id hnm2
    have sm_q192 := n3_q192.2
    refine lv_if_ne (tgt := 19) hx hb d_Mo_take_10 (by decide) (fun c10 => ?_) (fun c10 => ?_)
    · have b10 : ¬ 1 = 0 := fun q => c10 ((nI_eq (a := 1) (b := 0) (by omega) (by omega)).mpr q)
      refine lv_aload_n hx hb d_Mo_take_19 rfl (lv_at hl 0 rfl) ?_
      refine lv_aload_n hx hb d_Mo_take_20 rfl (lv_at hl 0 rfl) ?_
      refine zg_get (ci := 11) (C := "ZoneAnswersModel") (T := T_Mo) (N := 21) hx hb hts zi_Mo hown hK hG ra2 rfl 19 (by decide) (hts _ w_1300) (fun _ h9 => h9) rfl d_Mo_take_21 ?_
      refine lv_iload_n hx hb d_Mo_take_24 rfl (lv_at hl 1 rfl) ?_
      refine lv_aload_n hx hb d_Mo_take_25 rfl (lv_at hl 0 rfl) ?_
      refine zg_get (ci := 11) (C := "ZoneAnswersModel") (T := T_Mo) (N := 21) hx hb hts zi_Mo hown hK hG ra2 rfl 20 (by decide) (hts _ w_1301) (fun _ h9 => h9) rfl d_Mo_take_26 ?_
      have hGo29 := hG
      refine zk_i (va_runV (As := [.ref q19, .int t, .ref q20]) (rest := []) ⟨hx, hb, hml, hown, hts⟩ (t_Mo_find l E G7 rs a (h2 1) (h2 3) (h2 4) (h2 6) (h2 7) (h2 8) (h2 9) (h2 10) (h2 11) (h2 12) (h2 15) (h2 18) 0 (nI tp.length) (nI (wln Wz)) co (nI (rPw Wz + ([] : List Int32).length)) se (.ref q19) (.ref q20) ra2 rr2.1 q19 x9 f_q192 n1_q192 n2_q192 n3_q192 q20 D9 fd2 d12 d22 (by omega) (fun e he => by have := (rg2.2.2.2.2.2.2 e he).2.2.2.2.2.1; omega) t) (zcV 3 hts w_1401 w_1403 wp_29 w_30 w_1404 (by decide +kernel) ⟨Nat.le_of_ble_eq_true rfl, Nat.le_of_ble_eq_true rfl⟩) (zc_preV hbase hK hN hQ hG hS ra2 rfl) rfl rfl hl.1 rfl (lv_room (Nat.le_of_ble_eq_true rfl)) d_Mo_take_29 ⟨(by dsimp only; omega), (by dsimp only; omega)⟩) hS (fun r29 G29 H locs hp29 hG hS => ?_)
      rcases hp29 with ⟨⟨i9, hi9, ⟨hi1, hi2, hi3⟩, hmin, er29⟩ | ⟨hno, er29⟩, eg29⟩
      · have hG : zP E G7 H := eg29 ▸ hG
        refine zi_as (y := nI i9) er29 ?_
        obtain ⟨hfst, hVd⟩ := rfind_y hi9 ⟨hi1, hi2, hi3⟩ hmin
        have hi0 : 0 < i9 := Nat.pos_of_ne_zero (fun z => hzp.2.2 (Or.inl (by rw [← hi1, z]; exact rg2.2.2.1)))
        refine lv_istore_n (lv' := [(2, .int (nI i9)), (0, .ref a), (1, .int t)]) hx hb d_Mo_take_32 rfl hl (by decide) rfl (fun ls hl => ?_)
        refine lv_iload_n hx hb d_Mo_take_33 rfl (lv_at hl 0 rfl) ?_
        refine lv_if_ge (tgt := 43) hx hb d_Mo_take_34 (by decide) (fun c34 => ?_) (fun c34 => ?_)
        · have b34 : 0 ≤ i9 := (nI_leI (a := 0) (b := i9) (by omega) (by omega)).mp c34
          refine lv_aload_n hx hb d_Mo_take_43 rfl (lv_at hl 1 rfl) ?_
          refine lv_iload_n hx hb d_Mo_take_44 rfl (lv_at hl 0 rfl) ?_
          have hGo45 := hG
          refine zk_v (va_runV (As := [.int (nI i9)]) (rest := []) ⟨hx, hb, hml, hown, hts⟩ (t_Mo_removed l E G7 a c1 c2 ro2 lo rs Wz 0 co se hse tp (.ref q19) (.ref q20) hst2 i9 hi9 hi0) (zcV 1 hts w_1425 w_1427 wp_33 w_30 w_1428 (by decide +kernel) ⟨Nat.le_of_ble_eq_true rfl, Nat.le_of_ble_eq_true rfl⟩) (zc_preV hbase hK hN hQ hG hS ra2 rfl) rfl rfl hl.1 rfl (lv_room (Nat.le_of_ble_eq_true rfl)) d_Mo_take_45 ⟨(by dsimp only; omega), (by dsimp only; omega)⟩) hS (fun G45 H locs hp45 hG hS => ?_)
          obtain ⟨hst3, hs3⟩ := hp45
          have hf3 := hf2.tr hs3
          have hnm3 := hnm2.fr hs3 zKr_0
          obtain ⟨h3, eh03, eh13, eh23, hc3⟩ := id hst3
          obtain ⟨ra3, rb3, ⟨fm3, rt13, rt23, rt33, rt43⟩, rtl3, ⟨fo3, rn13, rn23, rn33, rn43, rn53⟩, rr3, rg3, ras3⟩ := id hc3
          rw [eh03] at ra3
          obtain ⟨⟨fr3, rm43, hfr3⟩, hn23, hRs3⟩ := id rr3.1
          obtain ⟨f_q193, n1_q193, n2_q193, n3_q193, n4_q193, n5_q193⟩ := id hnm3
          have sm_q193 := n3_q193.2
          refine lv_aload_n hx hb d_Mo_take_48 rfl (lv_at hl 1 rfl) ?_
          refine lv_iconst (v := 0) hx hb d_Mo_take_49 (by decide) ?_
          refine zi_as (y := nI 0) (nI_0.symm) ?_
          refine zg_put (ci := 11) (v := .int (nI 0)) (ty := .int) (C := "ZoneAnswersModel") (T := T_Mo) (N := 21) hx hb hts zi_Mo t_Mo t_Mo_ok n_Mo hown hK hG hS ra3 rfl 2 (by decide) (hts _ w_1283) (fun _ h9 => h9) rfl (by decide +kernel) rfl rfl (Nat.le_of_ble_eq_true rfl) d_Mo_take_50 (fun H locs hG hS => ?_)
          obtain ⟨G306, eG306⟩ : ∃ z : zg_G, z = zg_up G45 a (.inr (11, [.int 0, .ref (h3 1), .int (nI 0), .ref (h3 3), .ref (h3 4), .int (nI (zdr rs i9).length), .ref (h3 6), .ref (h3 7), .ref (h3 8), .ref (h3 9), .ref (h3 10), .ref (h3 11), .ref (h3 12), .int (nI (wln Wz)), .int co, .ref (h3 15), .int (nI (rPw Wz + ([] : List Int32).length)), .int se, .ref (h3 18), .ref q19, .ref q20])) := ⟨_, rfl⟩
          have hG : zP E G306 H := by rw [eG306]; exact hG
          have k307 : G306 a = some (.inr (11, [.int 0, .ref (h3 1), .int (nI 0), .ref (h3 3), .ref (h3 4), .int (nI (zdr rs i9).length), .ref (h3 6), .ref (h3 7), .ref (h3 8), .ref (h3 9), .ref (h3 10), .ref (h3 11), .ref (h3 12), .int (nI (wln Wz)), .int co, .ref (h3 15), .int (nI (rPw Wz + ([] : List Int32).length)), .int se, .ref (h3 18), .ref q19, .ref q20])) := by rw [eG306]; exact zg_up_self _ _ _
          have k308 : G306 (h3 4) = some (.inl (E.2.1 4, 2000, .inr (.inr (.inr (.inr fr3))))) := by rw [eG306, zg_up_ne (zg_ne rm43 ra3 (by intro h; simp at h))]; exact rm43
          have k309 : G306 (h3 3) = some (.inl (E.2.1 0, np_len lo, .inl fo3)) := by rw [eG306, zg_up_ne (zg_ne rn13 ra3 (by intro h; simp at h))]; exact rn13
          have k310 : G306 (h3 1) = some (.inl (E.2.1 0, 65536, .inl fm3)) := by rw [eG306, zg_up_ne (zg_ne rt13 ra3 (by intro h; simp at h))]; exact rt13
          have k311 : G306 q19 = some (.inl (E.2.1 0, np_len x9, .inl f_q193)) := by rw [eG306, zg_up_ne (zg_ne n1_q193 ra3 (by intro h; simp at h))]; exact n1_q193
          obtain ⟨hst4, hs4⟩ := rSt.tk hst3 0 (Nat.zero_le _) _ _ 0 ra3
          rw [← eG306, List.take_zero] at hst4
          rw [← eG306] at hs4
          have hf4 := hf3.tr hs4
          have hnm4 := hnm3.fr hs4 zKr_0
          obtain ⟨h4, eh04, eh14, eh24, hc4⟩ := id hst4
          obtain ⟨ra4, rb4, ⟨fm4, rt14, rt24, rt34, rt44⟩, rtl4, ⟨fo4, rn14, rn24, rn34, rn44, rn54⟩, rr4, rg4, ras4⟩ := id hc4
          rw [eh04] at ra4
          obtain ⟨⟨fr4, rm44, hfr4⟩, hn24, hRs4⟩ := id rr4.1
          obtain ⟨f_q194, n1_q194, n2_q194, n3_q194, n4_q194, n5_q194⟩ := id hnm4
          have sm_q194 := n3_q194.2
          refine lv_aload_n hx hb d_Mo_take_53 rfl (lv_at hl 1 rfl) ?_
          refine lv_aload_n hx hb d_Mo_take_54 rfl (lv_at hl 1 rfl) ?_
          refine zg_get (ci := 11) (C := "ZoneAnswersModel") (T := T_Mo) (N := 21) hx hb hts zi_Mo hown hK hG ra4 rfl 19 (by decide) (hts _ w_1300) (fun _ h9 => h9) rfl d_Mo_take_55 ?_
          refine lv_iload_n hx hb d_Mo_take_58 rfl (lv_at hl 2 rfl) ?_
          refine zk_i (va_runV (As := [.ref q19, .int t]) (rest := []) ⟨hx, hb, hml, hown, hts⟩ (t_Mo_size l E G306 (zdr rs i9) a (h4 1) (h4 3) (h4 4) (h4 6) (h4 7) (h4 8) (h4 9) (h4 10) (h4 11) (h4 12) (h4 15) (h4 18) 0 (nI (([] : List Int32).length)) (nI (wln Wz)) co (nI (rPw Wz + ([] : List Int32).length)) se (.ref q19) (.ref q20) ra4 rr4.1 q19 x9 f_q194 n1_q194 n2_q194 n3_q194 t) (zcV 2 hts w_1417 w_1419 wp_32 w_30 w_1420 (by decide +kernel) ⟨Nat.le_of_ble_eq_true rfl, Nat.le_of_ble_eq_true rfl⟩) (zc_preV hbase hK hN hQ hG hS ra4 rfl) rfl rfl hl.1 rfl (lv_room (Nat.le_of_ble_eq_true rfl)) d_Mo_take_59 ⟨(by dsimp only; omega), (by dsimp only; omega)⟩) hS (fun r59 G59 H locs hp59 hG hS => ?_)
          have hG : zP E G306 H := hp59.2 ▸ hG
          refine zi_as (y := nI (zct (zdr rs i9) t x9 (zdr rs i9).length)) hp59.1 ?_
          exact hret _ _ _ _ _ _ _ _ _ hr (rfl) (Or.inl ⟨ro2, zdr rs i9, x9, D9, _, hzr, hfst, hVd, by rw [zct_all, hVd]; exact vtk_len hfst, by rw [zdr_ln hi9]; omega, rNu_dr hi9, hst4.o hse, hf4⟩) hG hS (by dsimp only; omega) (by dsimp only; omega) d_Mo_take_62
        · have b34 : ¬ 0 ≤ i9 := fun q => c34 ((nI_leI (a := 0) (b := i9) (by omega) (by omega)).mpr q)
          exact absurd (Nat.zero_le _) b34
      · have hG : zP E G7 H := eg29 ▸ hG
        refine zi_as (y := -1) er29 ?_
        have hnoD := rfind_n hno
        refine lv_istore_n (lv' := [(2, .int (-1)), (0, .ref a), (1, .int t)]) hx hb d_Mo_take_32 rfl hl (by decide) rfl (fun ls hl => ?_)
        refine lv_iload_n hx hb d_Mo_take_33 rfl (lv_at hl 0 rfl) ?_
        refine lv_if_ge (tgt := 43) hx hb d_Mo_take_34 (by decide) (fun c34 => ?_) (fun c34 => ?_)
        · exact absurd c34 (by decide)
        · refine lv_aload_n hx hb d_Mo_take_37 rfl (lv_at hl 1 rfl) ?_
          refine lv_iconst (v := 2) hx hb d_Mo_take_38 (by decide) ?_
          have hGo39 := hG
          refine zk_i (va_runV (As := [.int 2]) (rest := []) ⟨hx, hb, hml, hown, hts⟩ (t_Mo_fail l E G7 a (h2 1) (h2 3) (h2 4) (h2 6) (h2 7) (h2 8) (h2 9) (h2 10) (h2 11) (h2 12) (h2 15) (h2 18) 0 (nI tp.length) (nI rs.length) (nI (wln Wz)) co (nI (rPw Wz + ([] : List Int32).length)) se (.ref q19) (.ref q20) ra2 2) (zcV 1 hts w_1354 w_1356 wp_26 w_30 w_1357 (by decide +kernel) ⟨Nat.le_of_ble_eq_true rfl, Nat.le_of_ble_eq_true rfl⟩) (zc_preV hbase hK hN hQ hG hS ra2 rfl) rfl rfl hl.1 rfl (lv_room (Nat.le_of_ble_eq_true rfl)) d_Mo_take_39 ⟨(by dsimp only; omega), (by dsimp only; omega)⟩) hS (fun r39 G39 H locs hp39 hG hS => ?_)
          refine zi_as (y := 0) hp39.1 ?_
          obtain ⟨hstf, hsf⟩ := rSt.set hst2 2 co se (.ref q19) (.ref q20) ra2
          rw [← hp39.2] at hstf hsf
          have hff := hf2.tr hsf
          exact hret _ _ _ _ _ _ _ _ _ hr (rfl) (Or.inr (Or.inr ⟨⟨x9, D9, hzr, hnoD⟩, rfl, ro2, hstf.o hse, hff⟩)) hG hS (by dsimp only; omega) (by dsimp only; omega) d_Mo_take_42
    · have b10 : 1 = 0 := (nI_eq (a := 1) (b := 0) (by omega) (by omega)).mp c10
      exact absurd c10 (by decide)
  · refine zi_as (y := 0) er7 ?_
    have hf2 := hf1.tr hz2
    obtain ⟨h2, eh02, eh12, eh22, hc2⟩ := id hst2
    obtain ⟨ra2, rb2, ⟨fm2, rt12, rt22, rt32, rt42⟩, rtl2, ⟨fo2, rn12, rn22, rn32, rn42, rn52⟩, rr2, rg2, ras2⟩ := id hc2
    rw [eh02] at ra2
    obtain ⟨⟨fr2, rm42, hfr2⟩, hn22, hRs2⟩ := id rr2.1
    refine lv_if_ne (tgt := 19) hx hb d_Mo_take_10 (by decide) (fun c10 => ?_) (fun c10 => ?_)
    · have b10 : ¬ 0 = 0 := fun q => c10 ((nI_eq (a := 0) (b := 0) (by omega) (by omega)).mpr q)
      exact absurd rfl c10
    · have b10 : 0 = 0 := (nI_eq (a := 0) (b := 0) (by omega) (by omega)).mp c10
      refine lv_aload_n hx hb d_Mo_take_13 rfl (lv_at hl 0 rfl) ?_
      refine lv_iconst (v := 1) hx hb d_Mo_take_14 (by decide) ?_
      have hGo15 := hG
      refine zk_i (va_runV (As := [.int 1]) (rest := []) ⟨hx, hb, hml, hown, hts⟩ (t_Mo_fail l E G7 a (h2 1) (h2 3) (h2 4) (h2 6) (h2 7) (h2 8) (h2 9) (h2 10) (h2 11) (h2 12) (h2 15) (h2 18) 0 (nI tp.length) (nI rs.length) (nI (wln Wz)) co (nI (rPw Wz + ([] : List Int32).length)) se w19 w20 ra2 1) (zcV 1 hts w_1354 w_1356 wp_26 w_30 w_1357 (by decide +kernel) ⟨Nat.le_of_ble_eq_true rfl, Nat.le_of_ble_eq_true rfl⟩) (zc_preV hbase hK hN hQ hG hS ra2 rfl) rfl rfl hl.1 rfl (lv_room (Nat.le_of_ble_eq_true rfl)) d_Mo_take_15 ⟨(by dsimp only; omega), (by dsimp only; omega)⟩) hS (fun r15 G15 H locs hp15 hG hS => ?_)
      refine zi_as (y := 0) hp15.1 ?_
      obtain ⟨hstf, hsf⟩ := rSt.set hst2 1 co se w19 w20 ra2
      rw [← hp15.2] at hstf hsf
      have hff := hf2.tr hsf
      exact hret _ _ _ _ _ _ _ _ _ hr (rfl) (Or.inr (Or.inl ⟨hbad, rfl, ro2, hstf.o hse, hff⟩)) hG hS (by dsimp only; omega) (by dsimp only; omega) d_Mo_take_18
