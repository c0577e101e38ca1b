theorem rSt.dne {E : zc_E} {G : zg_G} {ro : zRo} {a c1 c2 : Nat} {lo : np_N} {rs : List zRt} {W : zW} {px : List Int32} {qp : Prop} {nq : Nat × Int32 × np_N × zWs} {th co se : Int32} {tp : List Int32} {v19 v20 : Value} (hs : rSt E G ro a c1 c2 lo rs W px qp nq th tp co se v19 v20) {q : Nat} (hq : G q = none) : ∀ e ∈ rs, rD e ≠ q := fun e he z => by
  obtain ⟨h, -, -, -, -, -, -, -, -, rr, -⟩ := hs
  obtain ⟨f, h1, -⟩ := (rr.1.2.2 e he).2.2
  rw [z, hq] at h1; cases h1
theorem w_1300 : (.fieldLink "ZoneAnswersModel" 247 "ZoneAnswersModel" "toldName" "[B" : Cond) ∈ zw := zw_at 1300 (by decide +kernel) (by decide +kernel)
theorem w_1301 : (.fieldLink "ZoneAnswersModel" 254 "ZoneAnswersModel" "toldData" "[B" : Cond) ∈ zw := zw_at 1301 (by decide +kernel) (by decide +kernel)
theorem w_1383 : (.methodLink "ZoneAnswersModel" 243 ⟨"ZoneAnswersModel", "allowed", "(I)Z"⟩ : Cond) ∈ zw := zw_at 1383 (by decide +kernel) (by decide +kernel)
theorem w_1384 : (.static ⟨"ZoneAnswersModel", "allowed", "(I)Z"⟩ : Cond) ∈ zw := zw_at 1384 (by decide +kernel) (by decide +kernel)
theorem w_1385 : (.code ⟨"ZoneAnswersModel", "allowed", "(I)Z"⟩ prog_12_method_37_code 1 (some .boolean) : Cond) ∈ zw := zw_at 1385 (by decide +kernel) (by decide +kernel)
theorem w_1387 : (.methodLink "ZoneAnswersModel" 250 ⟨"ZoneAnswersModel", "dataOf", "(II)[B"⟩ : Cond) ∈ zw := zw_at 1387 (by decide +kernel) (by decide +kernel)
theorem w_1389 : (.instanceMethod ⟨"ZoneAnswersModel", "dataOf", "(II)[B"⟩ : Cond) ∈ zw := zw_at 1389 (by decide +kernel) (by decide +kernel)
theorem w_1390 : (.code ⟨"ZoneAnswersModel", "dataOf", "(II)[B"⟩ prog_12_method_38_code 8 (some (.array .byte)) : Cond) ∈ zw := zw_at 1390 (by decide +kernel) (by decide +kernel)
theorem wp_28 : (.selects "ZoneAnswersModel" ⟨"ZoneAnswersModel", "dataOf", "(II)[B"⟩ ⟨"ZoneAnswersModel", "dataOf", "(II)[B"⟩ : Cond) ∈ zw := zw_pv 28 (y := ⟨"ZoneAnswersModel", "dataOf", "(II)[B"⟩) rfl (by decide +kernel)

abbrev rm_Mo_record (n0 : Nat) : Room := { frames := 4, cells := 3, slots := n0 + 510, locals := 120 }
set_option maxHeartbeats 4000000 in
set_option maxRecDepth 100000 in
/-- record(t), of the reference -/
theorem t_Mo_record (l : Launch) (E : zc_E) (G : zg_G) (a c1 c2 : Nat) (ro : zRo) (lo : np_N) (rs : List zRt) (Wz : zW) (th co se : Int32) (hse : se = 0 ∨ se = 1) (tp : List Int32) (v19 v20 : Value) (hst : rSt E G ro a c1 c2 lo rs Wz [] False (0, 0, [], []) th tp co se v19 v20) (t : Int32) : zMi l E y_Mo_record c_Mo_record 3 (some .boolean) (rm_Mo_record tp.length) [.ref a, .int t] G (fun (r : Int32) (G2 : zg_G) => (∃ r2 x D q19 q20, zRec tp t lo x D ∧ r = 1 ∧ rSt E G2 r2 a c1 c2 lo rs Wz [] False (0, 0, [], []) th tp co se (.ref q19) (.ref q20) ∧ rNm E G2 r2 q19 x ∧ zBy E G2 q20 D ∧ r2 q20 = (0, 0) ∧ (∀ e ∈ rs, rD e ≠ q20) ∧ zfr ro zKr G r2 G2) ∨ ((¬ ∃ x D, zRec tp t lo x D) ∧ r = 0 ∧ ∃ r2 w19 w20, rSt E G2 r2 a c1 c2 lo rs Wz [] False (0, 0, [], []) th tp co se w19 w20 ∧ zfr ro zKr G r2 G2)) := by
  refine zMi.of (by decide) (Nat.le_of_ble_eq_true rfl) ?_
  intro p e s m args below meth c Q hZ hG hret ls hl
  obtain ⟨hx, hb, hr, hts, hown, hlocks, hml, hnm, hbase, hK, hN, hQ⟩ := hZ
  have hl : lv_has ls 3 [(0, .ref a), (1, .int t)] := hl
  have hS : zg_S (zc_b E) s.heap s.heap [] := va_S.rf
  obtain ⟨h, eh0, eh1, eh2, hc⟩ := id hst
  obtain ⟨ra, rb, ⟨fm, rt1, rt2, rt3, rt4⟩, rtl, ⟨fo, rn1, rn2, rn3, rn4, rn5⟩, rr, rg, ras⟩ := id hc
  rw [eh0] at ra
  obtain ⟨⟨fr, rm4, hfr⟩, hn2, hRs⟩ := id rr.1
  refine lv_aload_n hx hb d_Mo_record_0 rfl (lv_at hl 0 rfl) ?_
  refine zg_get (ci := 11) (C := "ZoneAnswersModel") (T := T_Mo) (N := 21) hx hb hts zi_Mo hown hK hG ra rfl 1 (by decide) (hts _ w_1282) (fun _ h9 => h9) rfl d_Mo_record_1 ?_
  refine lv_iconst (v := 0) hx hb d_Mo_record_4 (by decide) ?_
  refine zi_as (y := nI 0) (nI_0.symm) ?_
  refine lv_aload_n hx hb d_Mo_record_5 rfl (lv_at hl 0 rfl) ?_
  refine zg_get (ci := 11) (C := "ZoneAnswersModel") (T := T_Mo) (N := 21) hx hb hts zi_Mo hown hK hG ra rfl 2 (by decide) (hts _ w_1283) (fun _ h9 => h9) rfl d_Mo_record_6 ?_
  have hGo9 := hG
  refine zk_i (va_runS (As := [.ref (h 1), .int (nI 0), .int (nI tp.length)]) (rest := []) ⟨hx, hb, hml, hown, hts⟩ (t_Ns_end l E G (h 1) 65536 fm rt1 rt3 (by decide) 0 tp.length (by omega) (by omega)) (zcS 3 hts w_1366 w_1367 w_33 w_1368 (by decide +kernel) ⟨Nat.le_of_ble_eq_true rfl, Nat.le_of_ble_eq_true rfl⟩) (zc_pre hbase hK hN hQ hG hS) rfl rfl hl.1 rfl (lv_room (Nat.le_of_ble_eq_true rfl)) d_Mo_record_9 ⟨(by dsimp only; omega), (by dsimp only; omega)⟩) hS (fun r9 G9 H locs hp9 hG hS => ?_)
  rcases hp9 with ⟨⟨ls9, hls, er9⟩ | ⟨hnn, er9⟩, eg9⟩
  · have hG : zP E G H := eg9 ▸ hG
    have hls9 : zNm (fun j => tp.getD (0 + j) 0) (tp.length - 0) ls9 := zNm_cg (fun j hj => rt2 _ (by omega)) hls
    have hl9 : np_len ls9 ≤ tp.length := hls9.2.1
    have hok9 := hls9.1
    have hg9 := hok9.2
    refine zi_as (y := nI (np_len ls9)) (by rw [er9, Nat.zero_add]) ?_
    refine lv_istore_n (lv' := [(2, .int (nI (np_len ls9))), (0, .ref a), (1, .int t)]) hx hb d_Mo_record_12 rfl hl (by decide) rfl (fun ls hl => ?_)
    refine lv_iload_n hx hb d_Mo_record_13 rfl (lv_at hl 0 rfl) ?_
    refine lv_if_lt (tgt := 24) hx hb d_Mo_record_14 (by decide) (fun c14 => ?_) (fun c14 => ?_)
    · have b14 : (np_len ls9) < 0 := (nI_ltI (a := (np_len ls9)) (b := 0) (by omega) (by omega)).mp c14
      exact absurd b14 (Nat.not_lt_zero _)
    · have b14 : ¬ (np_len ls9) < 0 := fun q => c14 ((nI_ltI (a := (np_len ls9)) (b := 0) (by omega) (by omega)).mpr q)
      refine lv_iload_n hx hb d_Mo_record_17 rfl (lv_at hl 2 rfl) ?_
      refine zk_i (va_runS (As := [.int t]) (rest := []) ⟨hx, hb, hml, hown, hts⟩ (t_Mo_allowed l E G t) (zcS 1 hts w_1383 w_1384 w_30 w_1385 (by decide +kernel) ⟨Nat.le_of_ble_eq_true rfl, Nat.le_of_ble_eq_true rfl⟩) (zc_pre hbase hK hN hQ hG hS) rfl rfl hl.1 rfl (lv_room (Nat.le_of_ble_eq_true rfl)) d_Mo_record_18 ⟨(by dsimp only; omega), (by dsimp only; omega)⟩) hS (fun r18 G18 H locs hp18 hG hS => ?_)
      have hG : zP E G H := hp18.2 ▸ hG
      refine lv_if_ne (tgt := 26) hx hb d_Mo_record_21 (by decide) (fun c21 => ?_) (fun c21 => ?_)
      · have hzp := hp18.1.nz c21
        refine lv_aload_n hx hb d_Mo_record_26 rfl (lv_at hl 1 rfl) ?_
        refine lv_aload_n hx hb d_Mo_record_27 rfl (lv_at hl 1 rfl) ?_
        refine zg_get (ci := 11) (C := "ZoneAnswersModel") (T := T_Mo) (N := 21) hx hb hts zi_Mo hown hK hG ra rfl 1 (by decide) (hts _ w_1282) (fun _ h9 => h9) rfl d_Mo_record_28 ?_
        refine lv_iconst (v := 0) hx hb d_Mo_record_31 (by decide) ?_
        refine zi_as (y := nI 0) (nI_0.symm) ?_
        refine lv_iload_n hx hb d_Mo_record_32 rfl (lv_at hl 0 rfl) ?_
        have hGo33 := hG
        refine zk_q (va_runS (As := [.ref (h 1), .int (nI 0), .int (nI (np_len ls9))]) (rest := [.ref a]) ⟨hx, hb, hml, hown, hts⟩ (t_Ns_lower l E G (h 1) 65536 fm rt1 rt3 (by decide) 0 (np_len ls9) (by omega) (by omega)) (zcS 3 hts w_1369 w_1370 w_33 w_1371 (by decide +kernel) ⟨Nat.le_of_ble_eq_true rfl, Nat.le_of_ble_eq_true rfl⟩) (zc_pre hbase hK hN hQ hG hS) rfl rfl hl.1 rfl (lv_room (Nat.le_of_ble_eq_true rfl)) d_Mo_record_33 ⟨(by dsimp only; omega), (by dsimp only; omega)⟩) hS (fun r33 G33 H locs hp33 hG hS => ?_)
        obtain ⟨q9, f9, er9, nq9, hxc9, hq9, hft9, hlo9⟩ := hp33
        refine zr_some (a := q9) er9 ?_
        have hll9 : np_len ls9 - 0 = np_len (np_low ls9) := by rw [np_low_len hok9.1]; rfl
        rw [hll9] at hq9
        obtain ⟨hnm2, hz2⟩ := rNm.new (ro := ro) nq9 hxc9 hq9 (np_low_f hok9.1 hls9.2.2 (fun j hj => by rw [hlo9 j (by omega), rt2 _ (by omega)])) (np_low_g hok9) hft9
        have hst2 := hst.z hz2
        have hf2 := hz2.w (K2 := zKr) (fun _ z => z.elim)
        obtain ⟨h2, eh02, eh12, eh22, hc2⟩ := id hst2
        obtain ⟨ra2, rb2, ⟨fm2, rt12, rt22, rt32, rt42⟩, rtl2, ⟨fo2, rn12, rn22, rn32, rn42, rn52⟩, rr2, rg2, ras2⟩ := id hc2
        rw [eh02] at ra2
        obtain ⟨⟨fr2, rm42, hfr2⟩, hn22, hRs2⟩ := id rr2.1
        obtain ⟨f_q92, n1_q92, n2_q92, n3_q92, n4_q92, n5_q92⟩ := id hnm2
        have sm_q92 := n3_q92.2
        refine zg_put (ci := 11) (v := .ref q9) (ty := .array .byte) (C := "ZoneAnswersModel") (T := T_Mo) (N := 21) hx hb hts zi_Mo t_Mo t_Mo_ok n_Mo hown hK hG hS ra2 rfl 19 (by decide) (hts _ w_1300) (fun _ h9 => h9) rfl (by decide +kernel) rfl rfl (Nat.le_of_ble_eq_true rfl) d_Mo_record_36 (fun H locs hG hS => ?_)
        obtain ⟨G301, eG301⟩ : ∃ z : zg_G, z = zg_up G33 a (.inr (11, [.int th, .ref (h2 1), .int (nI tp.length), .ref (h2 3), .ref (h2 4), .int (nI rs.length), .ref (h2 6), .ref (h2 7), .ref (h2 8), .ref (h2 9), .ref (h2 10), .ref (h2 11), .ref (h2 12), .int (nI (wln Wz)), .int co, .ref (h2 15), .int (nI (rPw Wz + ([] : List Int32).length)), .int se, .ref (h2 18), .ref q9, v20])) := ⟨_, rfl⟩
        have hG : zP E G301 H := by rw [eG301]; exact hG
        have k302 : G301 a = some (.inr (11, [.int th, .ref (h2 1), .int (nI tp.length), .ref (h2 3), .ref (h2 4), .int (nI rs.length), .ref (h2 6), .ref (h2 7), .ref (h2 8), .ref (h2 9), .ref (h2 10), .ref (h2 11), .ref (h2 12), .int (nI (wln Wz)), .int co, .ref (h2 15), .int (nI (rPw Wz + ([] : List Int32).length)), .int se, .ref (h2 18), .ref q9, v20])) := by rw [eG301]; exact zg_up_self _ _ _
        have k303 : G301 (h2 4) = some (.inl (E.2.1 4, 2000, .inr (.inr (.inr (.inr fr2))))) := by rw [eG301, zg_up_ne (zg_ne rm42 ra2 (by intro h; simp at h))]; exact rm42
        have k304 : G301 (h2 3) = some (.inl (E.2.1 0, np_len lo, .inl fo2)) := by rw [eG301, zg_up_ne (zg_ne rn12 ra2 (by intro h; simp at h))]; exact rn12
        have k305 : G301 (h2 1) = some (.inl (E.2.1 0, 65536, .inl fm2)) := by rw [eG301, zg_up_ne (zg_ne rt12 ra2 (by intro h; simp at h))]; exact rt12
        have k306 : G301 q9 = some (.inl (E.2.1 0, np_len (np_low ls9), .inl f_q92)) := by rw [eG301, zg_up_ne (zg_ne n1_q92 ra2 (by intro h; simp at h))]; exact n1_q92
        obtain ⟨hst3, hs3⟩ := rSt.set hst2 th co se (.ref q9) v20 ra2
        rw [← eG301] at hst3 hs3
        have hf3 := hf2.tr hs3
        have hnm3 := hnm2.fr hs3 zKr_0
        obtain ⟨h3, eh03, eh13, eh23, hc3⟩ := id hst3
        obtain ⟨ra3, rb3, ⟨fm3, rt13, rt23, rt33, rt43⟩, rtl3, ⟨fo3, rn13, rn23, rn33, rn43, rn53⟩, rr3, rg3, ras3⟩ := id hc3
        rw [eh03] at ra3
        obtain ⟨⟨fr3, rm43, hfr3⟩, hn23, hRs3⟩ := id rr3.1
        obtain ⟨f_q93, n1_q93, n2_q93, n3_q93, n4_q93, n5_q93⟩ := id hnm3
        have sm_q93 := n3_q93.2
        refine lv_aload_n hx hb d_Mo_record_39 rfl (lv_at hl 1 rfl) ?_
        refine lv_aload_n hx hb d_Mo_record_40 rfl (lv_at hl 1 rfl) ?_
        refine lv_iload_n hx hb d_Mo_record_41 rfl (lv_at hl 2 rfl) ?_
        refine lv_iload_n hx hb d_Mo_record_42 rfl (lv_at hl 0 rfl) ?_
        have hGo43 := hG
        refine zk_q (va_runV (As := [.int t, .int (nI (np_len ls9))]) (rest := [.ref a]) ⟨hx, hb, hml, hown, hts⟩ (t_Mo_dataOf l E G301 a c1 c2 (zrn ro q9 (0, 0)) lo rs Wz [] False (0, 0, [], []) th co se tp (.ref q9) v20 hst3 t (np_len ls9) hl9) (zcV 2 hts w_1387 w_1389 wp_28 w_30 w_1390 (by decide +kernel) ⟨Nat.le_of_ble_eq_true rfl, Nat.le_of_ble_eq_true rfl⟩) (zc_preV hbase hK hN hQ hG hS ra3 rfl) rfl rfl hl.1 rfl (lv_room (Nat.le_of_ble_eq_true rfl)) d_Mo_record_43 ⟨(by dsimp only; omega), (by dsimp only; omega)⟩) hS (fun r43 G43 H locs hp43 hG hS => ?_)
        rcases hp43 with ⟨hzd, q8, f8, er43, nq8, hx43, hq8, hv8, hft8⟩ | ⟨hnd, er43, hx43⟩
        · refine zr_some (a := q8) er43 ?_
          have hz4 : zfr (zrn ro q9 (0, 0)) (fun _ => False) G301 (zrn (zrn ro q9 (0, 0)) q8 (0, 0)) G43 := zfr.z hx43 (zro.nw nq8)
          have hby4 : zBy E G43 q8 (zdb tp t (np_len ls9)) := ⟨f8, hq8, hv8, hft8⟩
          have hst4 := hst3.z hz4
          have hf4 := hf3.tr (hz4.w (K2 := zKr) (fun _ z => z.elim))
          have hnm4 := hnm3.fr hz4 (fun z => z.elim)
          have hne4 := hst3.dne nq8
          have hr8 : (zrn (zrn ro q9 (0, 0)) q8 (0, 0)) q8 = (0, 0) := zrn_self _ _ _
          obtain ⟨h4, eh04, eh14, eh24, hc4⟩ := id hst4
          obtain ⟨ra4, rb4, ⟨fm4, rt14, rt24, rt34, rt44⟩, rtl4, ⟨fo4, rn14, rn24, rn34, rn44, rn54⟩, rr4, rg4, ras4⟩ := id hc4
          rw [eh04] at ra4
          obtain ⟨⟨fr4, rm44, hfr4⟩, hn24, hRs4⟩ := id rr4.1
          obtain ⟨f_q94, n1_q94, n2_q94, n3_q94, n4_q94, n5_q94⟩ := id hnm4
          have sm_q94 := n3_q94.2
          refine zg_put (ci := 11) (v := .ref q8) (ty := .array .byte) (C := "ZoneAnswersModel") (T := T_Mo) (N := 21) hx hb hts zi_Mo t_Mo t_Mo_ok n_Mo hown hK hG hS ra4 rfl 20 (by decide) (hts _ w_1301) (fun _ h9 => h9) rfl (by decide +kernel) rfl rfl (Nat.le_of_ble_eq_true rfl) d_Mo_record_46 (fun H locs hG hS => ?_)
          obtain ⟨G307, eG307⟩ : ∃ z : zg_G, z = zg_up G43 a (.inr (11, [.int th, .ref (h4 1), .int (nI tp.length), .ref (h4 3), .ref (h4 4), .int (nI rs.length), .ref (h4 6), .ref (h4 7), .ref (h4 8), .ref (h4 9), .ref (h4 10), .ref (h4 11), .ref (h4 12), .int (nI (wln Wz)), .int co, .ref (h4 15), .int (nI (rPw Wz + ([] : List Int32).length)), .int se, .ref (h4 18), .ref q9, .ref q8])) := ⟨_, rfl⟩
          have hG : zP E G307 H := by rw [eG307]; exact hG
          have k308 : G307 a = some (.inr (11, [.int th, .ref (h4 1), .int (nI tp.length), .ref (h4 3), .ref (h4 4), .int (nI rs.length), .ref (h4 6), .ref (h4 7), .ref (h4 8), .ref (h4 9), .ref (h4 10), .ref (h4 11), .ref (h4 12), .int (nI (wln Wz)), .int co, .ref (h4 15), .int (nI (rPw Wz + ([] : List Int32).length)), .int se, .ref (h4 18), .ref q9, .ref q8])) := by rw [eG307]; exact zg_up_self _ _ _
          have k309 : G307 (h4 4) = some (.inl (E.2.1 4, 2000, .inr (.inr (.inr (.inr fr4))))) := by rw [eG307, zg_up_ne (zg_ne rm44 ra4 (by intro h; simp at h))]; exact rm44
          have k310 : G307 (h4 3) = some (.inl (E.2.1 0, np_len lo, .inl fo4)) := by rw [eG307, zg_up_ne (zg_ne rn14 ra4 (by intro h; simp at h))]; exact rn14
          have k311 : G307 (h4 1) = some (.inl (E.2.1 0, 65536, .inl fm4)) := by rw [eG307, zg_up_ne (zg_ne rt14 ra4 (by intro h; simp at h))]; exact rt14
          have k312 : G307 q9 = some (.inl (E.2.1 0, np_len (np_low ls9), .inl f_q94)) := by rw [eG307, zg_up_ne (zg_ne n1_q94 ra4 (by intro h; simp at h))]; exact n1_q94
          obtain ⟨hst5, hs5⟩ := rSt.set hst4 th co se (.ref q9) (.ref q8) ra4
          rw [← eG307] at hst5 hs5
          have hf5 := hf4.tr hs5
          have hnm5 := hnm4.fr hs5 zKr_0
          have hby5 : zBy E G307 q8 (zdb tp t (np_len ls9)) := (hby4.fr hr8 hs5 zKr_0).1
          obtain ⟨h5, eh05, eh15, eh25, hc5⟩ := id hst5
          obtain ⟨ra5, rb5, ⟨fm5, rt15, rt25, rt35, rt45⟩, rtl5, ⟨fo5, rn15, rn25, rn35, rn45, rn55⟩, rr5, rg5, ras5⟩ := id hc5
          rw [eh05] at ra5
          obtain ⟨⟨fr5, rm45, hfr5⟩, hn25, hRs5⟩ := id rr5.1
          obtain ⟨f_q95, n1_q95, n2_q95, n3_q95, n4_q95, n5_q95⟩ := id hnm5
          have sm_q95 := n3_q95.2
          refine lv_aload_n hx hb d_Mo_record_49 rfl (lv_at hl 1 rfl) ?_
          refine zg_get (ci := 11) (C := "ZoneAnswersModel") (T := T_Mo) (N := 21) hx hb hts zi_Mo hown hK hG ra5 rfl 20 (by decide) (hts _ w_1301) (fun _ h9 => h9) rfl d_Mo_record_50 ?_
          refine lv_ifnull hx hb d_Mo_record_53 ?_
          refine lv_aload_n hx hb d_Mo_record_56 rfl (lv_at hl 1 rfl) ?_
          refine zg_get (ci := 11) (C := "ZoneAnswersModel") (T := T_Mo) (N := 21) hx hb hts zi_Mo hown hK hG ra5 rfl 19 (by decide) (hts _ w_1300) (fun _ h9 => h9) rfl d_Mo_record_57 ?_
          refine lv_aload_n hx hb d_Mo_record_60 rfl (lv_at hl 1 rfl) ?_
          refine zg_get (ci := 11) (C := "ZoneAnswersModel") (T := T_Mo) (N := 21) hx hb hts zi_Mo hown hK hG ra5 rfl 3 (by decide) (hts _ w_1284) (fun _ h9 => h9) rfl d_Mo_record_61 ?_
          refine zk_i (va_runS (As := [.ref q9, .ref (h5 3)]) (rest := []) ⟨hx, hb, hml, hown, hts⟩ (t_Ns_below l E G307 q9 (np_low ls9) f_q95 n1_q95 n2_q95 n3_q95 (h5 3) lo fo5 rn15 rn25 rn35) (zcS 2 hts w_1392 w_1393 w_33 w_1394 (by decide +kernel) ⟨Nat.le_of_ble_eq_true rfl, Nat.le_of_ble_eq_true rfl⟩) (zc_pre hbase hK hN hQ hG hS) rfl rfl hl.1 rfl (lv_room (Nat.le_of_ble_eq_true rfl)) d_Mo_record_64 ⟨(by dsimp only; omega), (by dsimp only; omega)⟩) hS (fun r64 G64 H locs hp64 hG hS => ?_)
          have hG : zP E G307 H := hp64.2 ▸ hG
          refine lv_if_eq (tgt := 74) hx hb d_Mo_record_67 (by decide) (fun c67 => ?_) (fun c67 => ?_)
          · have hbad : ¬ ∃ x D, zRec tp t lo x D := fun ⟨x, D, ls, z, w9, _⟩ => hp64.1.z c67 (by rw [zNm_un hls9 z.1]; exact w9)
            refine lv_iconst (v := 0) hx hb d_Mo_record_74 (by decide) ?_
            exact hret _ _ _ _ _ _ _ _ _ hr (rfl) (Or.inr ⟨hbad, rfl, _, _, _, hst5, hf5⟩) hG hS (by dsimp only; omega) (by dsimp only; omega) d_Mo_record_75
          · have hbe := hp64.1.nz c67
            refine lv_iconst (v := 1) hx hb d_Mo_record_70 (by decide) ?_
            refine lv_goto (tgt := 75) hx hb d_Mo_record_71 (by decide) ?_
            exact hret _ _ _ _ _ _ _ _ _ hr (rfl) (Or.inl ⟨_, _, _, q9, q8, ⟨ls9, ⟨hls9, hzp, hzd⟩, hbe, rfl, rfl⟩, rfl, hst5, hnm5, hby5, hr8, hne4, hf5⟩) hG hS (by dsimp only; omega) (by dsimp only; omega) d_Mo_record_75
        · refine zr_none er43 ?_
          have hz4 : zfr (zrn ro q9 (0, 0)) (fun _ => False) G301 (zrn ro q9 (0, 0)) G43 := zfr.z hx43 zro.rf
          have hst4 := hst3.z hz4
          have hf4 := hf3.tr (hz4.w (K2 := zKr) (fun _ z => z.elim))
          have hnm4 := hnm3.fr hz4 (fun z => z.elim)
          have hbad : ¬ ∃ x D, zRec tp t lo x D := fun ⟨x, D, ls, z, _⟩ => hnd (by rw [zNm_un hls9 z.1]; exact z.2.2)
          obtain ⟨h4, eh04, eh14, eh24, hc4⟩ := id hst4
          obtain ⟨ra4, rb4, ⟨fm4, rt14, rt24, rt34, rt44⟩, rtl4, ⟨fo4, rn14, rn24, rn34, rn44, rn54⟩, rr4, rg4, ras4⟩ := id hc4
          rw [eh04] at ra4
          obtain ⟨⟨fr4, rm44, hfr4⟩, hn24, hRs4⟩ := id rr4.1
          obtain ⟨f_q94, n1_q94, n2_q94, n3_q94, n4_q94, n5_q94⟩ := id hnm4
          have sm_q94 := n3_q94.2
          refine zg_put (ci := 11) (v := .null) (ty := .array .byte) (C := "ZoneAnswersModel") (T := T_Mo) (N := 21) hx hb hts zi_Mo t_Mo t_Mo_ok n_Mo hown hK hG hS ra4 rfl 20 (by decide) (hts _ w_1301) (fun _ h9 => h9) rfl (by decide +kernel) rfl rfl (Nat.le_of_ble_eq_true rfl) d_Mo_record_46 (fun H locs hG hS => ?_)
          obtain ⟨G313, eG313⟩ : ∃ z : zg_G, z = zg_up G43 a (.inr (11, [.int th, .ref (h4 1), .int (nI tp.length), .ref (h4 3), .ref (h4 4), .int (nI rs.length), .ref (h4 6), .ref (h4 7), .ref (h4 8), .ref (h4 9), .ref (h4 10), .ref (h4 11), .ref (h4 12), .int (nI (wln Wz)), .int co, .ref (h4 15), .int (nI (rPw Wz + ([] : List Int32).length)), .int se, .ref (h4 18), .ref q9, .null])) := ⟨_, rfl⟩
          have hG : zP E G313 H := by rw [eG313]; exact hG
          have k314 : G313 a = some (.inr (11, [.int th, .ref (h4 1), .int (nI tp.length), .ref (h4 3), .ref (h4 4), .int (nI rs.length), .ref (h4 6), .ref (h4 7), .ref (h4 8), .ref (h4 9), .ref (h4 10), .ref (h4 11), .ref (h4 12), .int (nI (wln Wz)), .int co, .ref (h4 15), .int (nI (rPw Wz + ([] : List Int32).length)), .int se, .ref (h4 18), .ref q9, .null])) := by rw [eG313]; exact zg_up_self _ _ _
          have k315 : G313 (h4 4) = some (.inl (E.2.1 4, 2000, .inr (.inr (.inr (.inr fr4))))) := by rw [eG313, zg_up_ne (zg_ne rm44 ra4 (by intro h; simp at h))]; exact rm44
          have k316 : G313 (h4 3) = some (.inl (E.2.1 0, np_len lo, .inl fo4)) := by rw [eG313, zg_up_ne (zg_ne rn14 ra4 (by intro h; simp at h))]; exact rn14
          have k317 : G313 (h4 1) = some (.inl (E.2.1 0, 65536, .inl fm4)) := by rw [eG313, zg_up_ne (zg_ne rt14 ra4 (by intro h; simp at h))]; exact rt14
          have k318 : G313 q9 = some (.inl (E.2.1 0, np_len (np_low ls9), .inl f_q94)) := by rw [eG313, zg_up_ne (zg_ne n1_q94 ra4 (by intro h; simp at h))]; exact n1_q94
          obtain ⟨hst5, hs5⟩ := rSt.set hst4 th co se (.ref q9) .null ra4
          rw [← eG313] at hst5 hs5
          have hf5 := hf4.tr hs5
          have hnm5 := hnm4.fr hs5 zKr_0
          obtain ⟨h5, eh05, eh15, eh25, hc5⟩ := id hst5
          obtain ⟨ra5, rb5, ⟨fm5, rt15, rt25, rt35, rt45⟩, rtl5, ⟨fo5, rn15, rn25, rn35, rn45, rn55⟩, rr5, rg5, ras5⟩ := id hc5
          rw [eh05] at ra5
          obtain ⟨⟨fr5, rm45, hfr5⟩, hn25, hRs5⟩ := id rr5.1
          obtain ⟨f_q95, n1_q95, n2_q95, n3_q95, n4_q95, n5_q95⟩ := id hnm5
          have sm_q95 := n3_q95.2
          refine lv_aload_n hx hb d_Mo_record_49 rfl (lv_at hl 1 rfl) ?_
          refine zg_get (ci := 11) (C := "ZoneAnswersModel") (T := T_Mo) (N := 21) hx hb hts zi_Mo hown hK hG ra5 rfl 20 (by decide) (hts _ w_1301) (fun _ h9 => h9) rfl d_Mo_record_50 ?_
          refine lv_ifnullN (tgt := 74) hx hb d_Mo_record_53 (by decide) ?_
          refine lv_iconst (v := 0) hx hb d_Mo_record_74 (by decide) ?_
          exact hret _ _ _ _ _ _ _ _ _ hr (rfl) (Or.inr ⟨hbad, rfl, _, _, _, hst5, hf5⟩) hG hS (by dsimp only; omega) (by dsimp only; omega) d_Mo_record_75
      · have hbad : ¬ ∃ x D, zRec tp t lo x D := fun ⟨x, D, ls, z, _⟩ => hp18.1.z c21 z.2.1
        refine lv_iconst (v := 0) hx hb d_Mo_record_24 (by decide) ?_
        exact hret _ _ _ _ _ _ _ _ _ hr (rfl) (Or.inr ⟨hbad, rfl, ro, v19, v20, hst, zfr.rf⟩) hG hS (by dsimp only; omega) (by dsimp only; omega) d_Mo_record_25
  · have hG : zP E G H := eg9 ▸ hG
    refine zi_as (y := -1) er9 ?_
    have hbad : ¬ ∃ x D, zRec tp t lo x D := fun ⟨x, D, ls, z, _⟩ => hnn ⟨ls, zNm_cg (fun j hj => (rt2 _ (by omega)).symm) z.1⟩
    refine lv_istore_n (lv' := [(2, .int (-1)), (0, .ref a), (1, .int t)]) hx hb d_Mo_record_12 rfl hl (by decide) rfl (fun ls hl => ?_)
    refine lv_iload_n hx hb d_Mo_record_13 rfl (lv_at hl 0 rfl) ?_
    refine lv_if_lt (tgt := 24) hx hb d_Mo_record_14 (by decide) (fun c14 => ?_) (fun c14 => ?_)
    · refine lv_iconst (v := 0) hx hb d_Mo_record_24 (by decide) ?_
      exact hret _ _ _ _ _ _ _ _ _ hr (rfl) (Or.inr ⟨hbad, rfl, ro, v19, v20, hst, zfr.rf⟩) hG hS (by dsimp only; omega) (by dsimp only; omega) d_Mo_record_25
    · exact absurd (show (-1 : Int32) < 0 by decide) c14
