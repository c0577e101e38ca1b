/-! A ROW OF THE ANSWER, as the reference finds it -/
theorem t_Mo_place_c (l : Launch) {E : zc_E} {G : zg_G} {ro : zRo} {h : Nat → Nat} {lo : np_N} {rs : List zRt} {W : zW} {px : List Int32} {qp : Prop} {nq : Nat × Int32 × np_N × zWs} {th co se : Int32} {tp : List Int32} {v19 v20 : Value} (hc : rCx E G ro h lo rs W px qp nq th tp co se v19 v20) (y z : Int32) : zMi l E y_Mo_place c_Mo_place 5 (some .int) rm_Mo_place [.ref (h 0), .int y, .int z] G (fun (r : Int32) G2 => ((∃ (en : aV) (i cap bn : Nat) (f9 f10 : Nat → Int32) (f11 f12 : Nat → Option Nat) (fn : Nat → Int32) (bd : Nat) (fd : Nat → Int32), wrw y z W en ∧ (i < cap ∧ cap ≤ 2 ^ 20 ∧ G (h 9) = some (.inl (E.2.1 1, cap, .inl f9)) ∧ G (h 10) = some (.inl (E.2.1 1, cap, .inl f10)) ∧ G (h 11) = some (.inl (E.2.1 5, cap, .inr (.inr (.inr (.inr f11))))) ∧ G (h 12) = some (.inl (E.2.1 5, cap, .inr (.inr (.inr (.inr f12))))) ∧ f10 i = nI en.2.2.2.length ∧ f11 i = some bn ∧ G bn = some (.inl (E.2.1 0, np_len en.1, .inl fn)) ∧ np_f en.1 fn ∧ np_g en.1) ∧ f9 i = nI 0 ∧ f12 i = some bd ∧ G bd = some (.inl (E.2.1 0, en.2.2.2.length, .inl fd)) ∧ (∀ j, j < en.2.2.2.length → fd j = en.2.2.2.getD j 0) ∧ r = nI i) ∨ (∃ (en : aV) (i cap bn : Nat) (f9 f10 : Nat → Int32) (f11 f12 : Nat → Option Nat) (fn : Nat → Int32) (x9 cp : Nat) (fp : Nat → Int32), wrw y z W en ∧ (i < cap ∧ cap ≤ 2 ^ 20 ∧ G (h 9) = some (.inl (E.2.1 1, cap, .inl f9)) ∧ G (h 10) = some (.inl (E.2.1 1, cap, .inl f10)) ∧ G (h 11) = some (.inl (E.2.1 5, cap, .inr (.inr (.inr (.inr f11))))) ∧ G (h 12) = some (.inl (E.2.1 5, cap, .inr (.inr (.inr (.inr f12))))) ∧ f10 i = nI en.2.2.2.length ∧ f11 i = some bn ∧ G bn = some (.inl (E.2.1 0, np_len en.1, .inl fn)) ∧ np_f en.1 fn ∧ np_g en.1) ∧ f9 i = nI x9 ∧ f12 i = none ∧ G (h 15) = some (.inl (E.2.1 0, cp, .inl fp)) ∧ x9 + en.2.2.2.length ≤ cp ∧ cp ≤ 2 ^ 20 ∧ (∀ j, j < en.2.2.2.length → fp (x9 + j) = en.2.2.2.getD j 0) ∧ r = nI i) ∨ ((¬ ∃ e, wrw y z W e) ∧ r = -1)) ∧ G2 = G) := by
  obtain ⟨a1, a2, ⟨fm, a3⟩, a4, ⟨fo, o1, o2, o3, o4, o5⟩, rr, rg, ws, an, pl, ff, fp, p1, p2, p3, p4, p5, p6, p7, p8, ⟨y1, y2, y3, y4, y5, y6⟩, p9⟩ := id hc
  obtain ⟨⟨z1, z2, f6, f7, f8, f9, f10, f11, f12, w6, w7, w8, w9, w10, w11, w12, z3, z4, z5⟩, r1, r2⟩ := id p6
  have hwl : an.length = wln W := by rw [← p1, rW_len p2, p3]
  have hwq : nI (wln W) = nI an.length := by rw [hwl]
  rw [hwq] at a1
  refine (t_Mo_place l E G an (rcp (h 40) (wln W)) (h 0) (h 1) (h 3) (h 4) (h 6) (h 7) (h 8) (h 9) (h 10) (h 11) (h 12) (h 15) (h 18) th (nI tp.length) (nI rs.length) co (nI (rPw W + px.length)) se v19 v20 a1 p6.1 y z).imp (fun r G9 w => ⟨?_, w.2⟩)
  rcases w.1 with ⟨i, hi, u1, u2, u3, u4⟩ | ⟨u1, u2⟩
  · have hw := rpl_y p8 p3 hi u1 u2 u3
    rw [p1] at hw
    obtain ⟨e6, e7, e8, e9, e10, e11, e12, fn, n1, n2, n3, n4⟩ := z3 i hi
    obtain ⟨q1, q2, q3, q4, q5⟩ := p8 i (by omega)
    rw [q2] at n1 n2 n3
    rcases q5 with ⟨q, s1, s2, s3, ⟨fd, s4, s5, s6⟩, s7⟩ | ⟨s1, s2, s3⟩
    · exact Or.inl ⟨_, i, _, _, f9, f10, f11, f12, fn, q, fd, hw, ⟨by omega, z2, w9, w10, w11, w12, by rw [e10, s3], e11, n1, n2, n3⟩, by rw [e9, s2], by rw [e12, s1], s4, s5, u4⟩
    · have hlz : (we ws i).2.2.2.2.length = aZ (ae an i) := by rw [s3, List.length_take, List.length_drop]; omega
      have hgp := rcp_ge (c := h 41) (by omega) (rPw W + px.length)
      refine Or.inr (Or.inl ⟨_, i, _, _, f9, f10, f11, f12, fn, aI (ae an i), _, fp, hw, ⟨by omega, z2, w9, w10, w11, w12, by rw [e10, hlz], e11, n1, n2, n3⟩, e9, by rw [e12, s1], y1, by omega, y3, fun j hj => ?_, u4⟩)
      rw [y4 _ (by omega), s3, List.getD_eq_getElem?_getD, List.getD_eq_getElem?_getD, List.getElem?_append_left (by omega), List.getElem?_take_of_lt (by omega), List.getElem?_drop]
  · refine Or.inr (Or.inr ⟨?_, u2⟩)
    rw [← p1]
    exact rpl_n p8 p3 (by omega) u1

abbrev rm_Mo_byteOf : Room := { frames := 2, cells := 0, slots := 0, locals := 60 }
set_option maxHeartbeats 4000000 in
set_option maxRecDepth 100000 in
/-- byteOf(y, z, u), of the reference -/
theorem t_Mo_byteOf (l : Launch) (E : zc_E) (G : zg_G) (a c1 c2 : Nat) (ro : zRo) (lo : np_N) (rs : List zRt) (Wz : zW) (th co se : Int32) (hse : se = 0 ∨ se = 1) (tp : List Int32) (v19 v20 : Value) (hst : rSt E G ro a c1 c2 lo rs Wz [] False (0, 0, [], []) th tp co se v19 v20) (y z u : Int32) (hdl : ∀ e, wrw y z Wz e → e.2.2.2.length < 2 ^ 24) : zMi l E y_Mo_byteOf c_Mo_byteOf 6 (some .int) rm_Mo_byteOf [.ref a, .int y, .int z, .int u] G (fun (r : Int32) (G2 : zg_G) => (((¬ ∃ e, wrw y z Wz e) ∧ r = 0 ∧ rO E G2 ro a c1 c2 lo rs Wz tp 1) ∨ (∃ en, wrw y z Wz en ∧ ((∃ i, u = nI i ∧ i < (np_enc en.1 ++ en.2.2.2).length ∧ r = ((np_enc en.1 ++ en.2.2.2).getD i 0 &&& 255) ∧ rO E G2 ro a c1 c2 lo rs Wz tp 0) ∨ ((u < 0 ∨ nI ((np_enc en.1 ++ en.2.2.2).length) ≤ u) ∧ r = 0 ∧ rO E G2 ro a c1 c2 lo rs Wz tp 2)))) ∧ zfr ro zKr G ro G2) := by
  refine zMi.of (by decide) (Nat.le_of_ble_eq_true rfl) ?_
  intro p e s m args below meth c Q hZ hG hret ls hl
  obtain ⟨hx, hb, hr, hts, hown, hlocks, hml, hnm, hbase, hK, hN, hQ⟩ := hZ
  have hl : lv_has ls 6 [(0, .ref a), (1, .int y), (2, .int z), (3, .int u)] := hl
  have hS : zg_S (zc_b E) s.heap s.heap [] := va_S.rf
  obtain ⟨h, eh0, eh1, eh2, hc⟩ := id hst
  obtain ⟨ra, rb, ⟨fm, rt1, rt2, rt3, rt4⟩, rtl, ⟨fo, rn1, rn2, rn3, rn4, rn5⟩, rr, rg, ras⟩ := id hc
  rw [eh0] at ra
  obtain ⟨⟨fr, rm4, hfr⟩, hn2, hRs⟩ := id rr.1
  refine lv_aload_n hx hb d_Mo_byteOf_0 rfl (lv_at hl 0 rfl) ?_
  refine lv_iconst (v := 0) hx hb d_Mo_byteOf_1 (by decide) ?_
  refine zg_put (ci := 11) (v := .int 0) (ty := .int) (C := "ZoneAnswersModel") (T := T_Mo) (N := 21) hx hb hts zi_Mo t_Mo t_Mo_ok n_Mo hown hK hG hS ra rfl 0 (by decide) (hts _ w_1281) (fun _ h9 => h9) rfl (by decide +kernel) rfl rfl (Nat.le_of_ble_eq_true rfl) d_Mo_byteOf_2 (fun H locs hG hS => ?_)
  obtain ⟨G1, eG1⟩ : ∃ z : zg_G, z = zg_up G a (.inr (11, [.int 0, .ref (h 1), .int (nI tp.length), .ref (h 3), .ref (h 4), .int (nI rs.length), .ref (h 6), .ref (h 7), .ref (h 8), .ref (h 9), .ref (h 10), .ref (h 11), .ref (h 12), .int (nI (wln Wz)), .int co, .ref (h 15), .int (nI (rPw Wz + ([] : List Int32).length)), .int se, .ref (h 18), v19, v20])) := ⟨_, rfl⟩
  have hG : zP E G1 H := by rw [eG1]; exact hG
  have k2 : G1 a = some (.inr (11, [.int 0, .ref (h 1), .int (nI tp.length), .ref (h 3), .ref (h 4), .int (nI rs.length), .ref (h 6), .ref (h 7), .ref (h 8), .ref (h 9), .ref (h 10), .ref (h 11), .ref (h 12), .int (nI (wln Wz)), .int co, .ref (h 15), .int (nI (rPw Wz + ([] : List Int32).length)), .int se, .ref (h 18), v19, v20])) := by rw [eG1]; exact zg_up_self _ _ _
  have k3 : G1 (h 4) = some (.inl (E.2.1 4, 2000, .inr (.inr (.inr (.inr fr))))) := by rw [eG1, zg_up_ne (zg_ne rm4 ra (by intro h; simp at h))]; exact rm4
  have k4 : G1 (h 3) = some (.inl (E.2.1 0, np_len lo, .inl fo)) := by rw [eG1, zg_up_ne (zg_ne rn1 ra (by intro h; simp at h))]; exact rn1
  have k5 : G1 (h 1) = some (.inl (E.2.1 0, 65536, .inl fm)) := by rw [eG1, zg_up_ne (zg_ne rt1 ra (by intro h; simp at h))]; exact rt1
  obtain ⟨hst1, hs1⟩ := rSt.set hst 0 co se v19 v20 ra
  rw [← eG1] at hst1 hs1
  have hf1 := hs1
  obtain ⟨h1, eh01, eh11, eh21, hc1⟩ := id hst1
  obtain ⟨ra1, rb1, ⟨fm1, rt11, rt21, rt31, rt41⟩, rtl1, ⟨fo1, rn11, rn21, rn31, rn41, rn51⟩, rr1, rg1, ras1⟩ := id hc1
  rw [eh01] at ra1
  obtain ⟨⟨fr1, rm41, hfr1⟩, hn21, hRs1⟩ := id rr1.1
  refine lv_aload_n hx hb d_Mo_byteOf_5 rfl (lv_at hl 0 rfl) ?_
  refine lv_iload_n hx hb d_Mo_byteOf_6 rfl (lv_at hl 1 rfl) ?_
  refine lv_iload_n hx hb d_Mo_byteOf_7 rfl (lv_at hl 2 rfl) ?_
  have hGo8 := hG
  refine zk_i (va_runV (As := [.int y, .int z]) (rest := []) ⟨hx, hb, hml, hown, hts⟩ ((eh01 ▸ t_Mo_place_c l hc1 y z)) (zcV 2 hts w_1584 w_1586 wp_60 w_30 w_1587 (by decide +kernel) ⟨Nat.le_of_ble_eq_true rfl, Nat.le_of_ble_eq_true rfl⟩) (zc_preV hbase hK hN hQ hG hS ra1 rfl) rfl rfl hl.1 rfl (lv_room (Nat.le_of_ble_eq_true rfl)) d_Mo_byteOf_8 ⟨(by dsimp only; omega), (by dsimp only; omega)⟩) hS (fun r8 G8 H locs hp8 hG hS => ?_)
  rcases hp8 with ⟨⟨en, i, cap, bn, f9, f10, f11, f12, fn, bd, fd, hrw, ⟨hic, hcp2, w9, w10, w11, w12, e10, e11, n1, n2, n3⟩, e9, e12, d1, hdv, er8⟩ | ⟨en, i, cap, bn, f9, f10, f11, f12, fn, x9, cp, fp, hrw, ⟨hic, hcp2, w9, w10, w11, w12, e10, e11, n1, n2, n3⟩, e9, e12, d1, hx9, hcp3, hdv, er8⟩ | ⟨hno, er8⟩, eg8⟩
  · have hG : zP E G1 H := eg8 ▸ hG
    refine zi_as (y := nI i) er8 ?_
    have sm := n3.2
    have hdl9 := hdl en hrw
    have hrb := zRb n2 hdv
    refine lv_istore (lv' := [(4, .int (nI i)), (0, .ref a), (1, .int y), (2, .int z), (3, .int u)]) hx hb d_Mo_byteOf_11 hl (by decide) rfl (fun ls hl => ?_)
    refine lv_iload hx hb d_Mo_byteOf_13 (lv_at hl 0 rfl) ?_
    refine lv_if_ge (tgt := 24) hx hb d_Mo_byteOf_15 (by decide) (fun c15 => ?_) (fun c15 => ?_)
    · have b15 : 0 ≤ i := (nI_leI (a := 0) (b := i) (by omega) (by omega)).mp c15
      refine lv_iload_n hx hb d_Mo_byteOf_24 rfl (lv_at hl 4 rfl) ?_
      refine lv_if_lt (tgt := 48) hx hb d_Mo_byteOf_25 (by decide) (fun c25 => ?_) (fun c25 => ?_)
      · have hbad : u < 0 := c25
        refine lv_aload_n hx hb d_Mo_byteOf_48 rfl (lv_at hl 1 rfl) ?_
        refine lv_iconst (v := 2) hx hb d_Mo_byteOf_49 (by decide) ?_
        have hGo50 := hG
        refine zk_i (va_runV (As := [.int 2]) (rest := []) ⟨hx, hb, hml, hown, hts⟩ (t_Mo_fail l E G1 a (h1 1) (h1 3) (h1 4) (h1 6) (h1 7) (h1 8) (h1 9) (h1 10) (h1 11) (h1 12) (h1 15) (h1 18) 0 (nI tp.length) (nI rs.length) (nI (wln Wz)) co (nI (rPw Wz + ([] : List Int32).length)) se v19 v20 ra1 2) (zcV 1 hts w_1354 w_1356 wp_26 w_30 w_1357 (by decide +kernel) ⟨Nat.le_of_ble_eq_true rfl, Nat.le_of_ble_eq_true rfl⟩) (zc_preV hbase hK hN hQ hG hS ra1 rfl) rfl rfl hl.1 rfl (lv_room (Nat.le_of_ble_eq_true rfl)) d_Mo_byteOf_50 ⟨(by dsimp only; omega), (by dsimp only; omega)⟩) hS (fun r50 G50 H locs hp50 hG hS => ?_)
        refine zi_as (y := 0) hp50.1 ?_
        obtain ⟨hstf, hsf⟩ := rSt.set hst1 2 co se v19 v20 ra1
        rw [← hp50.2] at hstf hsf
        have hff := hf1.tr hsf
        exact hret _ _ _ _ _ _ _ _ _ hr (rfl) (⟨Or.inr ⟨en, hrw, Or.inr ⟨by first | exact Or.inl hbad | exact hbad, rfl, hstf.o hse⟩⟩, hff⟩) hG hS (Nat.le_refl _) (Nat.le_refl _) d_Mo_byteOf_53
      · obtain ⟨ui, hui, eui⟩ := nI_of c25
        have hl : lv_has ls 6 [(4, .int (nI i)), (0, .ref a), (1, .int y), (2, .int z), (3, .int (nI ui))] := eui ▸ hl
        refine lv_iload_n hx hb d_Mo_byteOf_28 rfl (lv_at hl 4 rfl) ?_
        refine lv_aload_n hx hb d_Mo_byteOf_29 rfl (lv_at hl 1 rfl) ?_
        refine zg_get (ci := 11) (C := "ZoneAnswersModel") (T := T_Mo) (N := 21) hx hb hts zi_Mo hown hK hG ra1 rfl 11 (by decide) (hts _ w_1292) (fun _ h9 => h9) rfl d_Mo_byteOf_30 ?_
        refine lv_iload hx hb d_Mo_byteOf_33 (lv_at hl 0 rfl) ?_
        refine zg_aldA hx hb hK hG 5 w11 rfl (vp_in_nI (by omega) (by omega)) d_Mo_byteOf_35 ?_
        refine zr_as (y := f11 i) (by rw [zi_n _ (by omega)]) ?_
        refine zr_some (a := bn) (e11) ?_
        refine zg_alen hx hb hK hG 0 n1 rfl (v := nI (np_len en.1)) rfl d_Mo_byteOf_36 ?_
        refine lv_aload_n hx hb d_Mo_byteOf_37 rfl (lv_at hl 1 rfl) ?_
        refine zg_get (ci := 11) (C := "ZoneAnswersModel") (T := T_Mo) (N := 21) hx hb hts zi_Mo hown hK hG ra1 rfl 10 (by decide) (hts _ w_1291) (fun _ h9 => h9) rfl d_Mo_byteOf_38 ?_
        refine lv_iload hx hb d_Mo_byteOf_41 (lv_at hl 0 rfl) ?_
        refine zg_iald hx hb hK hG 1 w10 rfl (vp_in_nI (by omega) (by omega)) d_Mo_byteOf_43 ?_
        refine zi_as (y := nI en.2.2.2.length) (by rw [zi_n _ (by omega)]; exact e10) ?_
        refine lv_iadd hx hb d_Mo_byteOf_44 ?_
        refine zi_as (y := nI (np_len en.1 + en.2.2.2.length)) (nI_add (np_len en.1) en.2.2.2.length) ?_
        refine lv_icmp_lt (tgt := 54) hx hb d_Mo_byteOf_45 (by decide) (fun c45 => ?_) (fun c45 => ?_)
        · have b45 : ui < (np_len en.1 + en.2.2.2.length) := (nI_ltI (a := ui) (b := (np_len en.1 + en.2.2.2.length)) (by omega) (by omega)).mp c45
          refine lv_iload_n hx hb d_Mo_byteOf_54 rfl (lv_at hl 4 rfl) ?_
          refine lv_aload_n hx hb d_Mo_byteOf_55 rfl (lv_at hl 1 rfl) ?_
          refine zg_get (ci := 11) (C := "ZoneAnswersModel") (T := T_Mo) (N := 21) hx hb hts zi_Mo hown hK hG ra1 rfl 11 (by decide) (hts _ w_1292) (fun _ h9 => h9) rfl d_Mo_byteOf_56 ?_
          refine lv_iload hx hb d_Mo_byteOf_59 (lv_at hl 0 rfl) ?_
          refine zg_aldA hx hb hK hG 5 w11 rfl (vp_in_nI (by omega) (by omega)) d_Mo_byteOf_61 ?_
          refine zr_as (y := f11 i) (by rw [zi_n _ (by omega)]) ?_
          refine zr_some (a := bn) (e11) ?_
          refine zg_alen hx hb hK hG 0 n1 rfl (v := nI (np_len en.1)) rfl d_Mo_byteOf_62 ?_
          refine lv_icmp_ge (tgt := 80) hx hb d_Mo_byteOf_63 (by decide) (fun c63 => ?_) (fun c63 => ?_)
          · have b63 : (np_len en.1) ≤ ui := (nI_leI (a := (np_len en.1)) (b := ui) (by omega) (by omega)).mp c63
            refine lv_aload_n hx hb d_Mo_byteOf_80 rfl (lv_at hl 1 rfl) ?_
            refine zg_get (ci := 11) (C := "ZoneAnswersModel") (T := T_Mo) (N := 21) hx hb hts zi_Mo hown hK hG ra1 rfl 9 (by decide) (hts _ w_1290) (fun _ h9 => h9) rfl d_Mo_byteOf_81 ?_
            refine lv_iload hx hb d_Mo_byteOf_84 (lv_at hl 0 rfl) ?_
            refine zg_iald hx hb hK hG 1 w9 rfl (vp_in_nI (by omega) (by omega)) d_Mo_byteOf_86 ?_
            refine zi_as (y := nI 0) (by rw [zi_n _ (by omega)]; exact e9) ?_
            refine lv_iload_n hx hb d_Mo_byteOf_87 rfl (lv_at hl 4 rfl) ?_
            refine lv_iadd hx hb d_Mo_byteOf_88 ?_
            refine zi_as (y := nI (0 + ui)) (nI_add 0 ui) ?_
            refine lv_aload_n hx hb d_Mo_byteOf_89 rfl (lv_at hl 1 rfl) ?_
            refine zg_get (ci := 11) (C := "ZoneAnswersModel") (T := T_Mo) (N := 21) hx hb hts zi_Mo hown hK hG ra1 rfl 11 (by decide) (hts _ w_1292) (fun _ h9 => h9) rfl d_Mo_byteOf_90 ?_
            refine lv_iload hx hb d_Mo_byteOf_93 (lv_at hl 0 rfl) ?_
            refine zg_aldA hx hb hK hG 5 w11 rfl (vp_in_nI (by omega) (by omega)) d_Mo_byteOf_95 ?_
            refine zr_as (y := f11 i) (by rw [zi_n _ (by omega)]) ?_
            refine zr_some (a := bn) (e11) ?_
            refine zg_alen hx hb hK hG 0 n1 rfl (v := nI (np_len en.1)) rfl d_Mo_byteOf_96 ?_
            refine lv_isub hx hb d_Mo_byteOf_97 ?_
            refine zi_as (y := nI (0 + ui - (np_len en.1))) (zi_sub (a := 0 + ui) (b := np_len en.1) (by omega)) ?_
            refine lv_istore (lv' := [(5, .int (nI (0 + ui - (np_len en.1)))), (4, .int (nI i)), (0, .ref a), (1, .int y), (2, .int z), (3, .int (nI ui))]) hx hb d_Mo_byteOf_98 hl (by decide) rfl (fun ls hl => ?_)
            refine lv_aload_n hx hb d_Mo_byteOf_100 rfl (lv_at hl 2 rfl) ?_
            refine zg_get (ci := 11) (C := "ZoneAnswersModel") (T := T_Mo) (N := 21) hx hb hts zi_Mo hown hK hG ra1 rfl 12 (by decide) (hts _ w_1293) (fun _ h9 => h9) rfl d_Mo_byteOf_101 ?_
            refine lv_iload hx hb d_Mo_byteOf_104 (lv_at hl 1 rfl) ?_
            refine zg_aldA hx hb hK hG 5 w12 rfl (vp_in_nI (by omega) (by omega)) d_Mo_byteOf_106 ?_
            refine zr_as (y := f12 i) (by rw [zi_n _ (by omega)]) ?_
            refine zr_some (a := bd) (e12) ?_
            refine lv_ifnonnull (tgt := 120) hx hb d_Mo_byteOf_107 (by decide) ?_
            refine lv_aload_n hx hb d_Mo_byteOf_120 rfl (lv_at hl 2 rfl) ?_
            refine zg_get (ci := 11) (C := "ZoneAnswersModel") (T := T_Mo) (N := 21) hx hb hts zi_Mo hown hK hG ra1 rfl 12 (by decide) (hts _ w_1293) (fun _ h9 => h9) rfl d_Mo_byteOf_121 ?_
            refine lv_iload hx hb d_Mo_byteOf_124 (lv_at hl 1 rfl) ?_
            refine zg_aldA hx hb hK hG 5 w12 rfl (vp_in_nI (by omega) (by omega)) d_Mo_byteOf_126 ?_
            refine zr_as (y := f12 i) (by rw [zi_n _ (by omega)]) ?_
            refine zr_some (a := bd) (e12) ?_
            refine lv_iload hx hb d_Mo_byteOf_127 (lv_at hl 0 rfl) ?_
            refine zg_bald hx hb hK hG 0 d1 rfl (vp_in_nI (by omega) (by omega)) d_Mo_byteOf_129 ?_
            refine zi_as (y := fd (0 + ui - (np_len en.1))) (by rw [zi_n _ (by omega)]) ?_
            refine lv_sipush (v := 255) hx hb d_Mo_byteOf_130 (by decide) ?_
            refine lv_iand hx hb d_Mo_byteOf_133 ?_
            exact hret _ _ _ _ _ _ _ _ _ hr (rfl) (⟨Or.inr ⟨en, hrw, Or.inl ⟨ui, eui, by rw [List.length_append, np_enc_len]; omega, by rw [← hrb.2 ui (by omega) (by omega), Nat.zero_add], hst1.o hse⟩⟩, hf1⟩) hG hS (Nat.le_refl _) (Nat.le_refl _) d_Mo_byteOf_134
          · have b63 : ¬ (np_len en.1) ≤ ui := fun q => c63 ((nI_leI (a := (np_len en.1)) (b := ui) (by omega) (by omega)).mpr q)
            refine lv_aload_n hx hb d_Mo_byteOf_66 rfl (lv_at hl 1 rfl) ?_
            refine zg_get (ci := 11) (C := "ZoneAnswersModel") (T := T_Mo) (N := 21) hx hb hts zi_Mo hown hK hG ra1 rfl 11 (by decide) (hts _ w_1292) (fun _ h9 => h9) rfl d_Mo_byteOf_67 ?_
            refine lv_iload hx hb d_Mo_byteOf_70 (lv_at hl 0 rfl) ?_
            refine zg_aldA hx hb hK hG 5 w11 rfl (vp_in_nI (by omega) (by omega)) d_Mo_byteOf_72 ?_
            refine zr_as (y := f11 i) (by rw [zi_n _ (by omega)]) ?_
            refine zr_some (a := bn) (e11) ?_
            refine lv_iload_n hx hb d_Mo_byteOf_73 rfl (lv_at hl 4 rfl) ?_
            refine zg_bald hx hb hK hG 0 n1 rfl (vp_in_nI (by omega) (by omega)) d_Mo_byteOf_74 ?_
            refine zi_as (y := fn ui) (by rw [zi_n _ (by omega)]) ?_
            refine lv_sipush (v := 255) hx hb d_Mo_byteOf_75 (by decide) ?_
            refine lv_iand hx hb d_Mo_byteOf_78 ?_
            exact hret _ _ _ _ _ _ _ _ _ hr (rfl) (⟨Or.inr ⟨en, hrw, Or.inl ⟨ui, eui, by rw [List.length_append, np_enc_len]; omega, by rw [← hrb.1 ui (by omega)], hst1.o hse⟩⟩, hf1⟩) hG hS (Nat.le_refl _) (Nat.le_refl _) d_Mo_byteOf_79
        · have b45 : ¬ ui < (np_len en.1 + en.2.2.2.length) := fun q => c45 ((nI_ltI (a := ui) (b := (np_len en.1 + en.2.2.2.length)) (by omega) (by omega)).mpr q)
          have hbad : u < 0 ∨ nI ((np_enc en.1 ++ en.2.2.2).length) ≤ u := Or.inr (by rw [eui, List.length_append, np_enc_len]; exact (nI_leI (by omega) (by omega)).mpr (by omega))
          refine lv_aload_n hx hb d_Mo_byteOf_48 rfl (lv_at hl 1 rfl) ?_
          refine lv_iconst (v := 2) hx hb d_Mo_byteOf_49 (by decide) ?_
          have hGo50 := hG
          refine zk_i (va_runV (As := [.int 2]) (rest := []) ⟨hx, hb, hml, hown, hts⟩ (t_Mo_fail l E G1 a (h1 1) (h1 3) (h1 4) (h1 6) (h1 7) (h1 8) (h1 9) (h1 10) (h1 11) (h1 12) (h1 15) (h1 18) 0 (nI tp.length) (nI rs.length) (nI (wln Wz)) co (nI (rPw Wz + ([] : List Int32).length)) se v19 v20 ra1 2) (zcV 1 hts w_1354 w_1356 wp_26 w_30 w_1357 (by decide +kernel) ⟨Nat.le_of_ble_eq_true rfl, Nat.le_of_ble_eq_true rfl⟩) (zc_preV hbase hK hN hQ hG hS ra1 rfl) rfl rfl hl.1 rfl (lv_room (Nat.le_of_ble_eq_true rfl)) d_Mo_byteOf_50 ⟨(by dsimp only; omega), (by dsimp only; omega)⟩) hS (fun r50 G50 H locs hp50 hG hS => ?_)
          refine zi_as (y := 0) hp50.1 ?_
          obtain ⟨hstf, hsf⟩ := rSt.set hst1 2 co se v19 v20 ra1
          rw [← hp50.2] at hstf hsf
          have hff := hf1.tr hsf
          exact hret _ _ _ _ _ _ _ _ _ hr (rfl) (⟨Or.inr ⟨en, hrw, Or.inr ⟨by first | exact Or.inl hbad | exact hbad, rfl, hstf.o hse⟩⟩, hff⟩) hG hS (Nat.le_refl _) (Nat.le_refl _) d_Mo_byteOf_53
    · have b15 : ¬ 0 ≤ i := fun q => c15 ((nI_leI (a := 0) (b := i) (by omega) (by omega)).mpr q)
      exact absurd (Nat.zero_le _) b15
  · have hG : zP E G1 H := eg8 ▸ hG
    refine zi_as (y := nI i) er8 ?_
    have sm := n3.2
    have hdl9 := hdl en hrw
    have hrb := zRb (fd := fun j => fp (x9 + j)) n2 hdv
    refine lv_istore (lv' := [(4, .int (nI i)), (0, .ref a), (1, .int y), (2, .int z), (3, .int u)]) hx hb d_Mo_byteOf_11 hl (by decide) rfl (fun ls hl => ?_)
    refine lv_iload hx hb d_Mo_byteOf_13 (lv_at hl 0 rfl) ?_
    refine lv_if_ge (tgt := 24) hx hb d_Mo_byteOf_15 (by decide) (fun c15 => ?_) (fun c15 => ?_)
    · have b15 : 0 ≤ i := (nI_leI (a := 0) (b := i) (by omega) (by omega)).mp c15
      refine lv_iload_n hx hb d_Mo_byteOf_24 rfl (lv_at hl 4 rfl) ?_
      refine lv_if_lt (tgt := 48) hx hb d_Mo_byteOf_25 (by decide) (fun c25 => ?_) (fun c25 => ?_)
      · have hbad : u < 0 := c25
        refine lv_aload_n hx hb d_Mo_byteOf_48 rfl (lv_at hl 1 rfl) ?_
        refine lv_iconst (v := 2) hx hb d_Mo_byteOf_49 (by decide) ?_
        have hGo50 := hG
        refine zk_i (va_runV (As := [.int 2]) (rest := []) ⟨hx, hb, hml, hown, hts⟩ (t_Mo_fail l E G1 a (h1 1) (h1 3) (h1 4) (h1 6) (h1 7) (h1 8) (h1 9) (h1 10) (h1 11) (h1 12) (h1 15) (h1 18) 0 (nI tp.length) (nI rs.length) (nI (wln Wz)) co (nI (rPw Wz + ([] : List Int32).length)) se v19 v20 ra1 2) (zcV 1 hts w_1354 w_1356 wp_26 w_30 w_1357 (by decide +kernel) ⟨Nat.le_of_ble_eq_true rfl, Nat.le_of_ble_eq_true rfl⟩) (zc_preV hbase hK hN hQ hG hS ra1 rfl) rfl rfl hl.1 rfl (lv_room (Nat.le_of_ble_eq_true rfl)) d_Mo_byteOf_50 ⟨(by dsimp only; omega), (by dsimp only; omega)⟩) hS (fun r50 G50 H locs hp50 hG hS => ?_)
        refine zi_as (y := 0) hp50.1 ?_
        obtain ⟨hstf, hsf⟩ := rSt.set hst1 2 co se v19 v20 ra1
        rw [← hp50.2] at hstf hsf
        have hff := hf1.tr hsf
        exact hret _ _ _ _ _ _ _ _ _ hr (rfl) (⟨Or.inr ⟨en, hrw, Or.inr ⟨by first | exact Or.inl hbad | exact hbad, rfl, hstf.o hse⟩⟩, hff⟩) hG hS (Nat.le_refl _) (Nat.le_refl _) d_Mo_byteOf_53
      · obtain ⟨ui, hui, eui⟩ := nI_of c25
        have hl : lv_has ls 6 [(4, .int (nI i)), (0, .ref a), (1, .int y), (2, .int z), (3, .int (nI ui))] := eui ▸ hl
        refine lv_iload_n hx hb d_Mo_byteOf_28 rfl (lv_at hl 4 rfl) ?_
        refine lv_aload_n hx hb d_Mo_byteOf_29 rfl (lv_at hl 1 rfl) ?_
        refine zg_get (ci := 11) (C := "ZoneAnswersModel") (T := T_Mo) (N := 21) hx hb hts zi_Mo hown hK hG ra1 rfl 11 (by decide) (hts _ w_1292) (fun _ h9 => h9) rfl d_Mo_byteOf_30 ?_
        refine lv_iload hx hb d_Mo_byteOf_33 (lv_at hl 0 rfl) ?_
        refine zg_aldA hx hb hK hG 5 w11 rfl (vp_in_nI (by omega) (by omega)) d_Mo_byteOf_35 ?_
        refine zr_as (y := f11 i) (by rw [zi_n _ (by omega)]) ?_
        refine zr_some (a := bn) (e11) ?_
        refine zg_alen hx hb hK hG 0 n1 rfl (v := nI (np_len en.1)) rfl d_Mo_byteOf_36 ?_
        refine lv_aload_n hx hb d_Mo_byteOf_37 rfl (lv_at hl 1 rfl) ?_
        refine zg_get (ci := 11) (C := "ZoneAnswersModel") (T := T_Mo) (N := 21) hx hb hts zi_Mo hown hK hG ra1 rfl 10 (by decide) (hts _ w_1291) (fun _ h9 => h9) rfl d_Mo_byteOf_38 ?_
        refine lv_iload hx hb d_Mo_byteOf_41 (lv_at hl 0 rfl) ?_
        refine zg_iald hx hb hK hG 1 w10 rfl (vp_in_nI (by omega) (by omega)) d_Mo_byteOf_43 ?_
        refine zi_as (y := nI en.2.2.2.length) (by rw [zi_n _ (by omega)]; exact e10) ?_
        refine lv_iadd hx hb d_Mo_byteOf_44 ?_
        refine zi_as (y := nI (np_len en.1 + en.2.2.2.length)) (nI_add (np_len en.1) en.2.2.2.length) ?_
        refine lv_icmp_lt (tgt := 54) hx hb d_Mo_byteOf_45 (by decide) (fun c45 => ?_) (fun c45 => ?_)
        · have b45 : ui < (np_len en.1 + en.2.2.2.length) := (nI_ltI (a := ui) (b := (np_len en.1 + en.2.2.2.length)) (by omega) (by omega)).mp c45
          refine lv_iload_n hx hb d_Mo_byteOf_54 rfl (lv_at hl 4 rfl) ?_
          refine lv_aload_n hx hb d_Mo_byteOf_55 rfl (lv_at hl 1 rfl) ?_
          refine zg_get (ci := 11) (C := "ZoneAnswersModel") (T := T_Mo) (N := 21) hx hb hts zi_Mo hown hK hG ra1 rfl 11 (by decide) (hts _ w_1292) (fun _ h9 => h9) rfl d_Mo_byteOf_56 ?_
          refine lv_iload hx hb d_Mo_byteOf_59 (lv_at hl 0 rfl) ?_
          refine zg_aldA hx hb hK hG 5 w11 rfl (vp_in_nI (by omega) (by omega)) d_Mo_byteOf_61 ?_
          refine zr_as (y := f11 i) (by rw [zi_n _ (by omega)]) ?_
          refine zr_some (a := bn) (e11) ?_
          refine zg_alen hx hb hK hG 0 n1 rfl (v := nI (np_len en.1)) rfl d_Mo_byteOf_62 ?_
          refine lv_icmp_ge (tgt := 80) hx hb d_Mo_byteOf_63 (by decide) (fun c63 => ?_) (fun c63 => ?_)
          · have b63 : (np_len en.1) ≤ ui := (nI_leI (a := (np_len en.1)) (b := ui) (by omega) (by omega)).mp c63
            refine lv_aload_n hx hb d_Mo_byteOf_80 rfl (lv_at hl 1 rfl) ?_
            refine zg_get (ci := 11) (C := "ZoneAnswersModel") (T := T_Mo) (N := 21) hx hb hts zi_Mo hown hK hG ra1 rfl 9 (by decide) (hts _ w_1290) (fun _ h9 => h9) rfl d_Mo_byteOf_81 ?_
            refine lv_iload hx hb d_Mo_byteOf_84 (lv_at hl 0 rfl) ?_
            refine zg_iald hx hb hK hG 1 w9 rfl (vp_in_nI (by omega) (by omega)) d_Mo_byteOf_86 ?_
            refine zi_as (y := nI x9) (by rw [zi_n _ (by omega)]; exact e9) ?_
            refine lv_iload_n hx hb d_Mo_byteOf_87 rfl (lv_at hl 4 rfl) ?_
            refine lv_iadd hx hb d_Mo_byteOf_88 ?_
            refine zi_as (y := nI (x9 + ui)) (nI_add x9 ui) ?_
            refine lv_aload_n hx hb d_Mo_byteOf_89 rfl (lv_at hl 1 rfl) ?_
            refine zg_get (ci := 11) (C := "ZoneAnswersModel") (T := T_Mo) (N := 21) hx hb hts zi_Mo hown hK hG ra1 rfl 11 (by decide) (hts _ w_1292) (fun _ h9 => h9) rfl d_Mo_byteOf_90 ?_
            refine lv_iload hx hb d_Mo_byteOf_93 (lv_at hl 0 rfl) ?_
            refine zg_aldA hx hb hK hG 5 w11 rfl (vp_in_nI (by omega) (by omega)) d_Mo_byteOf_95 ?_
            refine zr_as (y := f11 i) (by rw [zi_n _ (by omega)]) ?_
            refine zr_some (a := bn) (e11) ?_
            refine zg_alen hx hb hK hG 0 n1 rfl (v := nI (np_len en.1)) rfl d_Mo_byteOf_96 ?_
            refine lv_isub hx hb d_Mo_byteOf_97 ?_
            refine zi_as (y := nI (x9 + ui - (np_len en.1))) (zi_sub (a := x9 + ui) (b := np_len en.1) (by omega)) ?_
            refine lv_istore (lv' := [(5, .int (nI (x9 + ui - (np_len en.1)))), (4, .int (nI i)), (0, .ref a), (1, .int y), (2, .int z), (3, .int (nI ui))]) hx hb d_Mo_byteOf_98 hl (by decide) rfl (fun ls hl => ?_)
            refine lv_aload_n hx hb d_Mo_byteOf_100 rfl (lv_at hl 2 rfl) ?_
            refine zg_get (ci := 11) (C := "ZoneAnswersModel") (T := T_Mo) (N := 21) hx hb hts zi_Mo hown hK hG ra1 rfl 12 (by decide) (hts _ w_1293) (fun _ h9 => h9) rfl d_Mo_byteOf_101 ?_
            refine lv_iload hx hb d_Mo_byteOf_104 (lv_at hl 1 rfl) ?_
            refine zg_aldA hx hb hK hG 5 w12 rfl (vp_in_nI (by omega) (by omega)) d_Mo_byteOf_106 ?_
            refine zr_as (y := f12 i) (by rw [zi_n _ (by omega)]) ?_
            refine zr_none (e12) ?_
            refine lv_ifnonnullN hx hb d_Mo_byteOf_107 ?_
            refine lv_aload_n hx hb d_Mo_byteOf_110 rfl (lv_at hl 2 rfl) ?_
            refine zg_get (ci := 11) (C := "ZoneAnswersModel") (T := T_Mo) (N := 21) hx hb hts zi_Mo hown hK hG ra1 rfl 15 (by decide) (hts _ w_1296) (fun _ h9 => h9) rfl d_Mo_byteOf_111 ?_
            refine lv_iload hx hb d_Mo_byteOf_114 (lv_at hl 0 rfl) ?_
            refine zg_bald hx hb hK hG 0 d1 rfl (vp_in_nI (by omega) (by omega)) d_Mo_byteOf_116 ?_
            refine zi_as (y := fp (x9 + ui - (np_len en.1))) (by rw [zi_n _ (by omega)]) ?_
            refine lv_goto (tgt := 130) hx hb d_Mo_byteOf_117 (by decide) ?_
            refine lv_sipush (v := 255) hx hb d_Mo_byteOf_130 (by decide) ?_
            refine lv_iand hx hb d_Mo_byteOf_133 ?_
            exact hret _ _ _ _ _ _ _ _ _ hr (rfl) (⟨Or.inr ⟨en, hrw, Or.inl ⟨ui, eui, by rw [List.length_append, np_enc_len]; omega, by rw [← hrb.2 ui (by omega) (by omega), show x9 + ui - np_len en.1 = x9 + (ui - np_len en.1) by omega], hst1.o hse⟩⟩, hf1⟩) hG hS (Nat.le_refl _) (Nat.le_refl _) d_Mo_byteOf_134
          · have b63 : ¬ (np_len en.1) ≤ ui := fun q => c63 ((nI_leI (a := (np_len en.1)) (b := ui) (by omega) (by omega)).mpr q)
            refine lv_aload_n hx hb d_Mo_byteOf_66 rfl (lv_at hl 1 rfl) ?_
            refine zg_get (ci := 11) (C := "ZoneAnswersModel") (T := T_Mo) (N := 21) hx hb hts zi_Mo hown hK hG ra1 rfl 11 (by decide) (hts _ w_1292) (fun _ h9 => h9) rfl d_Mo_byteOf_67 ?_
            refine lv_iload hx hb d_Mo_byteOf_70 (lv_at hl 0 rfl) ?_
            refine zg_aldA hx hb hK hG 5 w11 rfl (vp_in_nI (by omega) (by omega)) d_Mo_byteOf_72 ?_
            refine zr_as (y := f11 i) (by rw [zi_n _ (by omega)]) ?_
            refine zr_some (a := bn) (e11) ?_
            refine lv_iload_n hx hb d_Mo_byteOf_73 rfl (lv_at hl 4 rfl) ?_
            refine zg_bald hx hb hK hG 0 n1 rfl (vp_in_nI (by omega) (by omega)) d_Mo_byteOf_74 ?_
            refine zi_as (y := fn ui) (by rw [zi_n _ (by omega)]) ?_
            refine lv_sipush (v := 255) hx hb d_Mo_byteOf_75 (by decide) ?_
            refine lv_iand hx hb d_Mo_byteOf_78 ?_
            exact hret _ _ _ _ _ _ _ _ _ hr (rfl) (⟨Or.inr ⟨en, hrw, Or.inl ⟨ui, eui, by rw [List.length_append, np_enc_len]; omega, by rw [← hrb.1 ui (by omega)], hst1.o hse⟩⟩, hf1⟩) hG hS (Nat.le_refl _) (Nat.le_refl _) d_Mo_byteOf_79
        · have b45 : ¬ ui < (np_len en.1 + en.2.2.2.length) := fun q => c45 ((nI_ltI (a := ui) (b := (np_len en.1 + en.2.2.2.length)) (by omega) (by omega)).mpr q)
          have hbad : u < 0 ∨ nI ((np_enc en.1 ++ en.2.2.2).length) ≤ u := Or.inr (by rw [eui, List.length_append, np_enc_len]; exact (nI_leI (by omega) (by omega)).mpr (by omega))
          refine lv_aload_n hx hb d_Mo_byteOf_48 rfl (lv_at hl 1 rfl) ?_
          refine lv_iconst (v := 2) hx hb d_Mo_byteOf_49 (by decide) ?_
          have hGo50 := hG
          refine zk_i (va_runV (As := [.int 2]) (rest := []) ⟨hx, hb, hml, hown, hts⟩ (t_Mo_fail l E G1 a (h1 1) (h1 3) (h1 4) (h1 6) (h1 7) (h1 8) (h1 9) (h1 10) (h1 11) (h1 12) (h1 15) (h1 18) 0 (nI tp.length) (nI rs.length) (nI (wln Wz)) co (nI (rPw Wz + ([] : List Int32).length)) se v19 v20 ra1 2) (zcV 1 hts w_1354 w_1356 wp_26 w_30 w_1357 (by decide +kernel) ⟨Nat.le_of_ble_eq_true rfl, Nat.le_of_ble_eq_true rfl⟩) (zc_preV hbase hK hN hQ hG hS ra1 rfl) rfl rfl hl.1 rfl (lv_room (Nat.le_of_ble_eq_true rfl)) d_Mo_byteOf_50 ⟨(by dsimp only; omega), (by dsimp only; omega)⟩) hS (fun r50 G50 H locs hp50 hG hS => ?_)
          refine zi_as (y := 0) hp50.1 ?_
          obtain ⟨hstf, hsf⟩ := rSt.set hst1 2 co se v19 v20 ra1
          rw [← hp50.2] at hstf hsf
          have hff := hf1.tr hsf
          exact hret _ _ _ _ _ _ _ _ _ hr (rfl) (⟨Or.inr ⟨en, hrw, Or.inr ⟨by first | exact Or.inl hbad | exact hbad, rfl, hstf.o hse⟩⟩, hff⟩) hG hS (Nat.le_refl _) (Nat.le_refl _) d_Mo_byteOf_53
    · have b15 : ¬ 0 ≤ i := fun q => c15 ((nI_leI (a := 0) (b := i) (by omega) (by omega)).mpr q)
      exact absurd (Nat.zero_le _) b15
  · have hG : zP E G1 H := eg8 ▸ hG
    refine zi_as (y := -1) er8 ?_
    refine lv_istore (lv' := [(4, .int (-1)), (0, .ref a), (1, .int y), (2, .int z), (3, .int u)]) hx hb d_Mo_byteOf_11 hl (by decide) rfl (fun ls hl => ?_)
    refine lv_iload hx hb d_Mo_byteOf_13 (lv_at hl 0 rfl) ?_
    refine lv_if_ge (tgt := 24) hx hb d_Mo_byteOf_15 (by decide) (fun c15 => ?_) (fun c15 => ?_)
    · exact absurd c15 (by decide)
    · refine lv_aload_n hx hb d_Mo_byteOf_18 rfl (lv_at hl 1 rfl) ?_
      refine lv_iconst (v := 1) hx hb d_Mo_byteOf_19 (by decide) ?_
      have hGo20 := hG
      refine zk_i (va_runV (As := [.int 1]) (rest := []) ⟨hx, hb, hml, hown, hts⟩ (t_Mo_fail l E G1 a (h1 1) (h1 3) (h1 4) (h1 6) (h1 7) (h1 8) (h1 9) (h1 10) (h1 11) (h1 12) (h1 15) (h1 18) 0 (nI tp.length) (nI rs.length) (nI (wln Wz)) co (nI (rPw Wz + ([] : List Int32).length)) se v19 v20 ra1 1) (zcV 1 hts w_1354 w_1356 wp_26 w_30 w_1357 (by decide +kernel) ⟨Nat.le_of_ble_eq_true rfl, Nat.le_of_ble_eq_true rfl⟩) (zc_preV hbase hK hN hQ hG hS ra1 rfl) rfl rfl hl.1 rfl (lv_room (Nat.le_of_ble_eq_true rfl)) d_Mo_byteOf_20 ⟨(by dsimp only; omega), (by dsimp only; omega)⟩) hS (fun r20 G20 H locs hp20 hG hS => ?_)
      refine zi_as (y := 0) hp20.1 ?_
      obtain ⟨hstf, hsf⟩ := rSt.set hst1 1 co se v19 v20 ra1
      rw [← hp20.2] at hstf hsf
      have hff := hf1.tr hsf
      exact hret _ _ _ _ _ _ _ _ _ hr (rfl) (⟨Or.inl ⟨hno, rfl, hstf.o hse⟩, hff⟩) hG hS (Nat.le_refl _) (Nat.le_refl _) d_Mo_byteOf_23
