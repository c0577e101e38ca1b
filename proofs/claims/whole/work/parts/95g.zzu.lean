theorem w_1077 : (.methodLink "ZoneAnswers$Answer" 106 ⟨"ZoneAnswers$Answer", "prove", "(I)V"⟩ : Cond) ∈ zw := zw_at 1077 (by decide +kernel) (by decide +kernel)
theorem w_1079 : (.instanceMethod ⟨"ZoneAnswers$Answer", "prove", "(I)V"⟩ : Cond) ∈ zw := zw_at 1079 (by decide +kernel) (by decide +kernel)
theorem w_1080 : (.code ⟨"ZoneAnswers$Answer", "prove", "(I)V"⟩ prog_2_method_9_code 3 none : Cond) ∈ zw := zw_at 1080 (by decide +kernel) (by decide +kernel)
theorem w_1161 : (.methodLink "ZoneAnswers$Answer" 138 ⟨"ZoneAnswers$Answer", "addStart", "()V"⟩ : Cond) ∈ zw := zw_at 1161 (by decide +kernel) (by decide +kernel)
theorem w_1163 : (.instanceMethod ⟨"ZoneAnswers$Answer", "addStart", "()V"⟩ : Cond) ∈ zw := zw_at 1163 (by decide +kernel) (by decide +kernel)
theorem w_1164 : (.code ⟨"ZoneAnswers$Answer", "addStart", "()V"⟩ prog_2_method_8_code 1 none : Cond) ∈ zw := zw_at 1164 (by decide +kernel) (by decide +kernel)
theorem w_1169 : (.methodLink "ZoneAnswers$Answer" 103 ⟨"ZoneAnswers$Zone", "linkOver", "(LZoneAnswers$Name;)I"⟩ : Cond) ∈ zw := zw_at 1169 (by decide +kernel) (by decide +kernel)
theorem w_1170 : (.instanceMethod ⟨"ZoneAnswers$Zone", "linkOver", "(LZoneAnswers$Name;)I"⟩ : Cond) ∈ zw := zw_at 1170 (by decide +kernel) (by decide +kernel)
theorem w_1171 : (.selects "ZoneAnswers$Zone" ⟨"ZoneAnswers$Zone", "linkOver", "(LZoneAnswers$Name;)I"⟩ ⟨"ZoneAnswers$Zone", "linkOver", "(LZoneAnswers$Name;)I"⟩ : Cond) ∈ zw := zw_at 1171 (by decide +kernel) (by decide +kernel)
theorem w_1172 : (.code ⟨"ZoneAnswers$Zone", "linkOver", "(LZoneAnswers$Name;)I"⟩ prog_10_method_18_code 2 (some .int) : Cond) ∈ zw := zw_at 1172 (by decide +kernel) (by decide +kernel)
theorem wp_17 : (.selects "ZoneAnswers$Answer" ⟨"ZoneAnswers$Answer", "prove", "(I)V"⟩ ⟨"ZoneAnswers$Answer", "prove", "(I)V"⟩ : Cond) ∈ zw := zw_pv 17 (y := ⟨"ZoneAnswers$Answer", "prove", "(I)V"⟩) rfl (by decide +kernel)
theorem wp_22 : (.selects "ZoneAnswers$Answer" ⟨"ZoneAnswers$Answer", "addStart", "()V"⟩ ⟨"ZoneAnswers$Answer", "addStart", "()V"⟩ : Cond) ∈ zw := zw_pv 22 (y := ⟨"ZoneAnswers$Answer", "addStart", "()V"⟩) rfl (by decide +kernel)
abbrev c_An_deny : ByteArray := prog_2_method_6_code
abbrev y_An_deny : MethodName := ⟨"ZoneAnswers$Answer", "deny", "(LZoneAnswers$Name;LZoneAnswers$Name;)V"⟩
theorem d_An_deny_0 : decode c_An_deny 0 = .ok (.aload_n 0, 1) := by decide +kernel
theorem d_An_deny_1 : decode c_An_deny 1 = .ok (.invokevirtual 138, 3) := by decide +kernel
theorem d_An_deny_4 : decode c_An_deny 4 = .ok (.aload_n 0, 1) := by decide +kernel
theorem d_An_deny_5 : decode c_An_deny 5 = .ok (.aload_n 0, 1) := by decide +kernel
theorem d_An_deny_6 : decode c_An_deny 6 = .ok (.getfield 9, 3) := by decide +kernel
theorem d_An_deny_9 : decode c_An_deny 9 = .ok (.aload_n 1, 1) := by decide +kernel
theorem d_An_deny_10 : decode c_An_deny 10 = .ok (.invokevirtual 103, 3) := by decide +kernel
theorem d_An_deny_13 : decode c_An_deny 13 = .ok (.invokevirtual 106, 3) := by decide +kernel
theorem d_An_deny_16 : decode c_An_deny 16 = .ok (.aload_n 0, 1) := by decide +kernel
theorem d_An_deny_17 : decode c_An_deny 17 = .ok (.aload_n 0, 1) := by decide +kernel
theorem d_An_deny_18 : decode c_An_deny 18 = .ok (.getfield 9, 3) := by decide +kernel
theorem d_An_deny_21 : decode c_An_deny 21 = .ok (.aload_n 2, 1) := by decide +kernel
theorem d_An_deny_22 : decode c_An_deny 22 = .ok (.invokevirtual 103, 3) := by decide +kernel
theorem d_An_deny_25 : decode c_An_deny 25 = .ok (.invokevirtual 106, 3) := by decide +kernel
theorem d_An_deny_28 : decode c_An_deny 28 = .ok (.return_, 1) := by decide +kernel
abbrev rm_An_deny (c9 s9 : Nat) : Room := { frames := 11, cells := c9, slots := s9, locals := 370 }
set_option maxHeartbeats 4000000 in
set_option maxRecDepth 100000 in
/-- Answer.deny(name, star) -/
theorem t_An_deny (l : Launch) (E : zc_E) (G : zg_G) (k : Nat → Nat) (ro : zRo) (rc ty se : Int32) (os : List zOt) (top : np_N) (d1 d2 d3 : Nat) (t1 t2 t3 : List zTt) (hCx : zCx E G ro k rc ty se os top d1 d2 d3 t1 t2 t3) (hGZ : zGZ os top) (hdw : zdw os) (hzn : znr os < 2000) (a1 : Nat) (ls1 : np_N) (hNm1 : zNR E G ro a1 ls1) (a2 : Nat) (ls2 : np_N) (hNm2 : zNR E G ro a2 ls2) (hx1 : zl top ls1) (hx2 : zl top ls2) (hB9 : zB9 (vdn (zV os) top (zscu se) (zWt t1 t2 t3) ls1 ls2)) : zMv l E y_An_deny c_An_deny 3 (rm_An_deny (zPc (vdn (zV os) top (zscu se) (zWt t1 t2 t3) ls1 ls2) - zPc (zWt t1 t2 t3)) (zPh os k (vdn (zV os) top (zscu se) (zWt t1 t2 t3) ls1 ls2) - zPh os k (zWt t1 t2 t3))) [.ref (k 0), .ref a1, .ref a2] G (fun (G2 : zg_G) => ∃ ro2 e1 e2 e3 u1 u2 u3, zCx E G2 ro2 k rc ty se os top e1 e2 e3 u1 u2 u3 ∧ zfr ro zKa G ro2 G2 ∧ zWt u1 u2 u3 = vdn (zV os) top (zscu se) (zWt t1 t2 t3) ls1 ls2) := by
  refine zMv.of (by decide) (Nat.le_of_ble_eq_true rfl) ?_
  intro p e s m args below meth c Q hZ hG hret ls hl
  obtain ⟨hx, hb, hr, hts, hown, hlocks, hml, hnm, hbase, hK, hN, hQ⟩ := hZ
  have hl : lv_has ls 3 [(0, .ref (k 0)), (1, .ref a1), (2, .ref a2)] := hl
  have hS : zg_S (zc_b E) s.heap s.heap [] := va_S.rf
  obtain ⟨⟨hz1, hz2, hz3, hz4, hz5, soa, u9, hz6, hz7, hz8, hz9, hzA⟩, ⟨ha1, ha2, hs1, hs2, hs3⟩, hT1⟩ := id hCx
  obtain ⟨bo, fo, hno1, hno2, hno3, hno4, hno5, -⟩ := id hz4
  have hne : 0 < os.length := hGZ.2.2.1
  have hsz := hGZ.1.sz
  have hol : os.length ≤ 2000 := by have := hsz.1; omega
  have hso := hGZ.1.1
  have hE00 : G (E.2.2.2 0) = none := hQ.out hG
  have hl0 := zWt_l t1 t2 t3
  obtain ⟨b_a1, f_a1, hq1_a1, hq2_a1, hq3_a1, hq4_a1, hq5_a1, -⟩ := id hNm1
  obtain ⟨b_a2, f_a2, hq1_a2, hq2_a2, hq3_a2, hq4_a2, hq5_a2, -⟩ := id hNm2
  have hx1b : nk_d (zky (oM (oe os 0))) (zky ls1) < 0 := by rw [hGZ.2.2.2.1]; exact hx1
  have hx2b : nk_d (zky (oM (oe os 0))) (zky ls2) < 0 := by rw [hGZ.2.2.2.1]; exact hx2
  have hle0 : zLe (zWt t1 t2 t3) (vst (zV os) top (zWt t1 t2 t3)) := vst_le (zV os) top _
  have hpa0 := zPh_le (os := os) (k := k) hle0
  have hpd0 := zPc_le hle0
  have hle1 : zLe (vst (zV os) top (zWt t1 t2 t3)) (vpr (zV os) top (zscu se) (vst (zV os) top (zWt t1 t2 t3)) (vov (zV os) top ls1)) := vpr_le (zV os) top (zscu se) _ _
  have hpa1 := zPh_le (os := os) (k := k) hle1
  have hpd1 := zPc_le hle1
  have hle2 : zLe (vpr (zV os) top (zscu se) (vst (zV os) top (zWt t1 t2 t3)) (vov (zV os) top ls1)) (vdn (zV os) top (zscu se) (zWt t1 t2 t3) ls1 ls2) := vpr_le (zV os) top (zscu se) _ _
  have hpa2 := zPh_le (os := os) (k := k) hle2
  have hpd2 := zPc_le hle2
  refine lv_aload_n hx hb d_An_deny_0 rfl (lv_at hl 0 rfl) ?_
  have hq1 := t_An_addStart l E G k ro rc ty se os top d1 d2 d3 t1 t2 t3 hCx hGZ hdw hzn  (hB9.le (hle1.tr hle2))
  have hGo1 := hG
  refine zk_v (va_runV (As := []) (rest := []) ⟨hx, hb, hml, hown, hts⟩ (hq1) (zcV 0 hts w_1161 w_1163 wp_22 w_28 w_1164 (by decide +kernel) ⟨Nat.le_of_ble_eq_true rfl, Nat.le_of_ble_eq_true rfl⟩) (zc_preV hbase hK hN hQ hG hS ha1 rfl) rfl rfl hl.1 rfl (lv_room (Nat.le_of_ble_eq_true rfl)) d_An_deny_1 ⟨(by dsimp only; omega), (by dsimp only; omega)⟩) hS (fun G1 H locs hp1 hG hS => ?_)
  obtain ⟨ro_1, d1_1, d2_1, d3_1, t1_1, t2_1, t3_1, hC_1, hf0_1, hW0_1⟩ := hp1
  have hf_1 : zfr ro zKa G ro_1 G1 := (zfr.rf (r := ro) (G := G)).tr hf0_1
  have hW_1 : zWt t1_1 t2_1 t3_1 = vst (zV os) top (zWt t1 t2 t3) := hW0_1
  have hE_1 : G1 (E.2.2.2 0) = none := hQ.out hG
  obtain ⟨⟨hz1_1, hz2_1, hz3_1, hz4_1, hz5_1, soa_1, u9_1, hz6_1, hz7_1, hz8_1, hz9_1, hzA_1⟩, ⟨ha1_1, ha2_1, hs1_1, hs2_1, hs3_1⟩, hT1_1⟩ := id hC_1
  obtain ⟨bo_1, fo_1, hno1_1, hno2_1, hno3_1, hno4_1, hno5_1, -⟩ := id hz4_1
  have hN_a1_1 : zNR E G1 ro_1 a1 ls1 := hNm1.fr hf_1 zKa_0
  obtain ⟨b_a1_1, f_a1_1, hq1_a1_1, hq2_a1_1, hq3_a1_1, hq4_a1_1, hq5_a1_1, -⟩ := id hN_a1_1
  have hN_a2_1 : zNR E G1 ro_1 a2 ls2 := hNm2.fr hf_1 zKa_0
  obtain ⟨b_a2_1, f_a2_1, hq1_a2_1, hq2_a2_1, hq3_a2_1, hq4_a2_1, hq5_a2_1, -⟩ := id hN_a2_1
  have hl_1 := zWt_l t1_1 t2_1 t3_1
  refine lv_aload_n hx hb d_An_deny_4 rfl (lv_at hl 0 rfl) ?_
  refine lv_aload_n hx hb d_An_deny_5 rfl (lv_at hl 0 rfl) ?_
  refine zg_get (ci := 1) (C := "ZoneAnswers$Answer") (T := T_An) (N := 6) hx hb hts zi_An hown hK hG ha1_1 rfl 0 (by decide) (hts _ w_684) (fun _ h9 => h9) rfl d_An_deny_6 ?_
  refine lv_aload_n hx hb d_An_deny_9 rfl (lv_at hl 1 rfl) ?_
  have hGo10 := hG
  refine zk_i (va_runV (As := [.ref a1]) (rest := [.ref (k 0)]) ⟨hx, hb, hml, hown, hts⟩ (t_Zo_linkOver l E G1 (k 1) (k 11) (k 12) (k 13) (k 14) rc hz1_1 ro_1 (k 15) os hz3_1 hne hol hso a1 b_a1_1 ls1 f_a1_1 hq1_a1_1 hq2_a1_1 hq3_a1_1 hq4_a1_1 hq5_a1_1 hx1b) (zcV 1 hts w_1169 w_1170 w_1171 w_3 w_1172 (by decide +kernel) ⟨Nat.le_of_ble_eq_true rfl, Nat.le_of_ble_eq_true rfl⟩) (zc_preV hbase hK hN hQ hG hS hz1_1 rfl) rfl rfl hl.1 rfl (lv_room (Nat.le_of_ble_eq_true rfl)) d_An_deny_10 ⟨(by dsimp only; omega), (by dsimp only; omega)⟩) hS (fun r10 G10 H locs hp10 hG hS => ?_)
  obtain ⟨⟨kp10, kp010, kp110, kp210, kp310, j10, hj110, hj210, hj310, ej10⟩, eg10⟩ := hp10
  have hG : zP E G1 H := eg10 ▸ hG
  have hov10 : vov (zV os) top ls1 = oM (oe os j10) := hGZ.ov ⟨kp110, kp210, kp310⟩ (by omega) hj210 (fun i h1 h2 => hj310 i h1 (by omega))
  have hjl10 : j10 < os.length := by omega
  refine zi_as (y := nI j10) ej10 ?_
  have hq13 := t_An_prove l E G1 k ro_1 rc ty se os top d1_1 d2_1 d3_1 t1_1 t2_1 t3_1 hC_1 hGZ hdw hzn j10 hjl10 (by rw [hW_1]; exact by rw [← hov10]; exact hB9.le hle2)
  rw [hW_1] at hq13
  rw [← hov10] at hq13
  have hGo13 := hG
  refine zk_v (va_runV (As := [.int (nI j10)]) (rest := []) ⟨hx, hb, hml, hown, hts⟩ (hq13) (zcV 1 hts w_1077 w_1079 wp_17 w_28 w_1080 (by decide +kernel) ⟨Nat.le_of_ble_eq_true rfl, Nat.le_of_ble_eq_true rfl⟩) (zc_preV hbase hK hN hQ hG hS ha1_1 rfl) rfl rfl hl.1 rfl (lv_room (Nat.le_of_ble_eq_true rfl)) d_An_deny_13 ⟨(by dsimp only; omega), (by dsimp only; omega)⟩) hS (fun G13 H locs hp13 hG hS => ?_)
  obtain ⟨ro_13, d1_13, d2_13, d3_13, t1_13, t2_13, t3_13, hC_13, hf0_13, hW0_13⟩ := hp13
  have hf_13 : zfr ro zKa G ro_13 G13 := hf_1.tr hf0_13
  have hW_13 : zWt t1_13 t2_13 t3_13 = vpr (zV os) top (zscu se) (vst (zV os) top (zWt t1 t2 t3)) (vov (zV os) top ls1) := hW0_13
  have hE_13 : G13 (E.2.2.2 0) = none := hQ.out hG
  obtain ⟨⟨hz1_13, hz2_13, hz3_13, hz4_13, hz5_13, soa_13, u9_13, hz6_13, hz7_13, hz8_13, hz9_13, hzA_13⟩, ⟨ha1_13, ha2_13, hs1_13, hs2_13, hs3_13⟩, hT1_13⟩ := id hC_13
  obtain ⟨bo_13, fo_13, hno1_13, hno2_13, hno3_13, hno4_13, hno5_13, -⟩ := id hz4_13
  have hN_a1_13 : zNR E G13 ro_13 a1 ls1 := hNm1.fr hf_13 zKa_0
  obtain ⟨b_a1_13, f_a1_13, hq1_a1_13, hq2_a1_13, hq3_a1_13, hq4_a1_13, hq5_a1_13, -⟩ := id hN_a1_13
  have hN_a2_13 : zNR E G13 ro_13 a2 ls2 := hNm2.fr hf_13 zKa_0
  obtain ⟨b_a2_13, f_a2_13, hq1_a2_13, hq2_a2_13, hq3_a2_13, hq4_a2_13, hq5_a2_13, -⟩ := id hN_a2_13
  have hl_13 := zWt_l t1_13 t2_13 t3_13
  refine lv_aload_n hx hb d_An_deny_16 rfl (lv_at hl 0 rfl) ?_
  refine lv_aload_n hx hb d_An_deny_17 rfl (lv_at hl 0 rfl) ?_
  refine zg_get (ci := 1) (C := "ZoneAnswers$Answer") (T := T_An) (N := 6) hx hb hts zi_An hown hK hG ha1_13 rfl 0 (by decide) (hts _ w_684) (fun _ h9 => h9) rfl d_An_deny_18 ?_
  refine lv_aload_n hx hb d_An_deny_21 rfl (lv_at hl 2 rfl) ?_
  have hGo22 := hG
  refine zk_i (va_runV (As := [.ref a2]) (rest := [.ref (k 0)]) ⟨hx, hb, hml, hown, hts⟩ (t_Zo_linkOver l E G13 (k 1) (k 11) (k 12) (k 13) (k 14) rc hz1_13 ro_13 (k 15) os hz3_13 hne hol hso a2 b_a2_13 ls2 f_a2_13 hq1_a2_13 hq2_a2_13 hq3_a2_13 hq4_a2_13 hq5_a2_13 hx2b) (zcV 1 hts w_1169 w_1170 w_1171 w_3 w_1172 (by decide +kernel) ⟨Nat.le_of_ble_eq_true rfl, Nat.le_of_ble_eq_true rfl⟩) (zc_preV hbase hK hN hQ hG hS hz1_13 rfl) rfl rfl hl.1 rfl (lv_room (Nat.le_of_ble_eq_true rfl)) d_An_deny_22 ⟨(by dsimp only; omega), (by dsimp only; omega)⟩) hS (fun r22 G22 H locs hp22 hG hS => ?_)
  obtain ⟨⟨kp22, kp022, kp122, kp222, kp322, j22, hj122, hj222, hj322, ej22⟩, eg22⟩ := hp22
  have hG : zP E G13 H := eg22 ▸ hG
  have hov22 : vov (zV os) top ls2 = oM (oe os j22) := hGZ.ov ⟨kp122, kp222, kp322⟩ (by omega) hj222 (fun i h1 h2 => hj322 i h1 (by omega))
  have hjl22 : j22 < os.length := by omega
  refine zi_as (y := nI j22) ej22 ?_
  have hq25 := t_An_prove l E G13 k ro_13 rc ty se os top d1_13 d2_13 d3_13 t1_13 t2_13 t3_13 hC_13 hGZ hdw hzn j22 hjl22 (by rw [hW_13]; exact by rw [← hov22]; exact hB9)
  rw [hW_13] at hq25
  rw [← hov22, show vpr (zV os) top (zscu se) (vpr (zV os) top (zscu se) (vst (zV os) top (zWt t1 t2 t3)) (vov (zV os) top ls1)) (vov (zV os) top ls2) = vdn (zV os) top (zscu se) (zWt t1 t2 t3) ls1 ls2 from rfl] at hq25
  have hGo25 := hG
  refine zk_v (va_runV (As := [.int (nI j22)]) (rest := []) ⟨hx, hb, hml, hown, hts⟩ (hq25) (zcV 1 hts w_1077 w_1079 wp_17 w_28 w_1080 (by decide +kernel) ⟨Nat.le_of_ble_eq_true rfl, Nat.le_of_ble_eq_true rfl⟩) (zc_preV hbase hK hN hQ hG hS ha1_13 rfl) rfl rfl hl.1 rfl (lv_room (Nat.le_of_ble_eq_true rfl)) d_An_deny_25 ⟨(by dsimp only; omega), (by dsimp only; omega)⟩) hS (fun G25 H locs hp25 hG hS => ?_)
  obtain ⟨ro_25, d1_25, d2_25, d3_25, t1_25, t2_25, t3_25, hC_25, hf0_25, hW0_25⟩ := hp25
  have hf_25 : zfr ro zKa G ro_25 G25 := hf_13.tr hf0_25
  have hW_25 : zWt t1_25 t2_25 t3_25 = vdn (zV os) top (zscu se) (zWt t1 t2 t3) ls1 ls2 := hW0_25
  have hE_25 : G25 (E.2.2.2 0) = none := hQ.out hG
  obtain ⟨⟨hz1_25, hz2_25, hz3_25, hz4_25, hz5_25, soa_25, u9_25, hz6_25, hz7_25, hz8_25, hz9_25, hzA_25⟩, ⟨ha1_25, ha2_25, hs1_25, hs2_25, hs3_25⟩, hT1_25⟩ := id hC_25
  obtain ⟨bo_25, fo_25, hno1_25, hno2_25, hno3_25, hno4_25, hno5_25, -⟩ := id hz4_25
  have hN_a1_25 : zNR E G25 ro_25 a1 ls1 := hNm1.fr hf_25 zKa_0
  obtain ⟨b_a1_25, f_a1_25, hq1_a1_25, hq2_a1_25, hq3_a1_25, hq4_a1_25, hq5_a1_25, -⟩ := id hN_a1_25
  have hN_a2_25 : zNR E G25 ro_25 a2 ls2 := hNm2.fr hf_25 zKa_0
  obtain ⟨b_a2_25, f_a2_25, hq1_a2_25, hq2_a2_25, hq3_a2_25, hq4_a2_25, hq5_a2_25, -⟩ := id hN_a2_25
  have hl_25 := zWt_l t1_25 t2_25 t3_25
  exact hret _ _ _ _ _ _ _ (⟨ro_25, d1_25, d2_25, d3_25, t1_25, t2_25, t3_25, hC_25, hf_25, hW_25⟩) hG hS (by dsimp only; omega) (by dsimp only; omega) d_An_deny_28
