theorem vrw_s {os : List zOt} {i j : Nat} {x : np_N} (h : zgo os) (hi : i < os.length) (hj : j < (oX (oe os i)).length) : vrw (zV os) x (oM (oe os i)) (sT (oS (oe os i) j)) = (sX (oS (oe os i) j)).map (fun d => (x, sT (oS (oe os i) j), sU (oS (oe os i) j), d.2.1)) := by
  unfold vrw
  rw [zV_s h hi hj, List.map_map]; rfl
theorem w3_nil (W : zW) : w3 W [] = W := by unfold w3; rw [List.append_nil]
theorem w2_nil (W : zW) : w2 W [] = W := by unfold w2; rw [List.append_nil]
theorem w1_nil (W : zW) : w1 W [] = W := by unfold w1; rw [List.append_nil]
theorem vad_0 {V : zVt} {W : zW} {x : np_N} {t : Int32} (h : V x t = []) : vad V W x t = W := by
  unfold vad
  rw [show vrw V x x t = [] by unfold vrw; rw [h]; rfl, w3_nil]
  by_cases z : aHas W.2.2 x t ∨ aHas W.1 x t
  · rw [zif_y z]
  · rw [zif_n z]
theorem vad_h {V : zVt} {W : zW} {x : np_N} {t : Int32} (h : aHas W.2.2 x t ∨ aHas W.1 x t) : vad V W x t = W := zif_y h
theorem vad_y {V : zVt} {W : zW} {x : np_N} {t : Int32} (h1 : ¬ aHas W.2.2 x t) (h2 : ¬ aHas W.1 x t) : vad V W x t = w3 W (vrw V x x t) := zif_n (fun z => z.elim h1 h2)
theorem vao_0 {V : zVt} {W : zW} {x : np_N} (h : ∀ t, V x t = []) : vao V W x = W := by
  unfold vao
  rw [vad_0 (h 1), vad_0 (h 28)]
theorem w_205 : (.fieldLink "ZoneAnswers$Answer" 55 "ZoneAnswers$Owner" "name" "LZoneAnswers$Name;" : Cond) ∈ zw := zw_at 205 (by decide +kernel) (by decide +kernel)
theorem w_623 : (.fieldLink "ZoneAnswers$Answer" 94 "ZoneAnswers$Rrset" "time" "I" : Cond) ∈ zw := zw_at 623 (by decide +kernel) (by decide +kernel)
theorem w_1032 : (.methodLink "ZoneAnswers$Answer" 86 ⟨"ZoneAnswers$Owner", "find", "(I)LZoneAnswers$Rrset;"⟩ : Cond) ∈ zw := zw_at 1032 (by decide +kernel) (by decide +kernel)
theorem w_1142 : (.methodLink "ZoneAnswers$Answer" 187 ⟨"ZoneAnswers$Answer", "addAddressSet", "(LZoneAnswers$Owner;I)V"⟩ : Cond) ∈ zw := zw_at 1142 (by decide +kernel) (by decide +kernel)
theorem w_1144 : (.instanceMethod ⟨"ZoneAnswers$Answer", "addAddressSet", "(LZoneAnswers$Owner;I)V"⟩ : Cond) ∈ zw := zw_at 1144 (by decide +kernel) (by decide +kernel)
theorem w_1145 : (.code ⟨"ZoneAnswers$Answer", "addAddressSet", "(LZoneAnswers$Owner;I)V"⟩ prog_2_method_12_code 4 none : Cond) ∈ zw := zw_at 1145 (by decide +kernel) (by decide +kernel)
theorem wp_20 : (.selects "ZoneAnswers$Answer" ⟨"ZoneAnswers$Answer", "addAddressSet", "(LZoneAnswers$Owner;I)V"⟩ ⟨"ZoneAnswers$Answer", "addAddressSet", "(LZoneAnswers$Owner;I)V"⟩ : Cond) ∈ zw := zw_pv 20 (y := ⟨"ZoneAnswers$Answer", "addAddressSet", "(LZoneAnswers$Owner;I)V"⟩) rfl (by decide +kernel)
abbrev c_An_addAddressSet : ByteArray := prog_2_method_12_code
abbrev y_An_addAddressSet : MethodName := ⟨"ZoneAnswers$Answer", "addAddressSet", "(LZoneAnswers$Owner;I)V"⟩
theorem d_An_addAddressSet_0 : decode c_An_addAddressSet 0 = .ok (.aload_n 1, 1) := by decide +kernel
theorem d_An_addAddressSet_1 : decode c_An_addAddressSet 1 = .ok (.ifnonnull 7, 3) := by decide +kernel
theorem d_An_addAddressSet_4 : decode c_An_addAddressSet 4 = .ok (.aconst_null, 1) := by decide +kernel
theorem d_An_addAddressSet_5 : decode c_An_addAddressSet 5 = .ok (.goto 8, 3) := by decide +kernel
theorem d_An_addAddressSet_8 : decode c_An_addAddressSet 8 = .ok (.aload_n 1, 1) := by decide +kernel
theorem d_An_addAddressSet_9 : decode c_An_addAddressSet 9 = .ok (.iload_n 2, 1) := by decide +kernel
theorem d_An_addAddressSet_10 : decode c_An_addAddressSet 10 = .ok (.invokevirtual 86, 3) := by decide +kernel
theorem d_An_addAddressSet_13 : decode c_An_addAddressSet 13 = .ok (.astore_n 3, 1) := by decide +kernel
theorem d_An_addAddressSet_14 : decode c_An_addAddressSet 14 = .ok (.aload_n 3, 1) := by decide +kernel
theorem d_An_addAddressSet_15 : decode c_An_addAddressSet 15 = .ok (.ifnull 49, 3) := by decide +kernel
theorem d_An_addAddressSet_18 : decode c_An_addAddressSet 18 = .ok (.aload_n 0, 1) := by decide +kernel
theorem d_An_addAddressSet_19 : decode c_An_addAddressSet 19 = .ok (.getfield 25, 3) := by decide +kernel
theorem d_An_addAddressSet_22 : decode c_An_addAddressSet 22 = .ok (.aload_n 1, 1) := by decide +kernel
theorem d_An_addAddressSet_23 : decode c_An_addAddressSet 23 = .ok (.getfield 55, 3) := by decide +kernel
theorem d_An_addAddressSet_26 : decode c_An_addAddressSet 26 = .ok (.iload_n 2, 1) := by decide +kernel
theorem d_An_addAddressSet_27 : decode c_An_addAddressSet 27 = .ok (.invokevirtual 156, 3) := by decide +kernel
theorem d_An_addAddressSet_30 : decode c_An_addAddressSet 30 = .ok (.ifCond .ne 34, 3) := by decide +kernel
theorem d_An_addAddressSet_33 : decode c_An_addAddressSet 33 = .ok (.aload_n 0, 1) := by decide +kernel
theorem d_An_addAddressSet_34 : decode c_An_addAddressSet 34 = .ok (.getfield 18, 3) := by decide +kernel
theorem d_An_addAddressSet_37 : decode c_An_addAddressSet 37 = .ok (.aload_n 1, 1) := by decide +kernel
theorem d_An_addAddressSet_38 : decode c_An_addAddressSet 38 = .ok (.getfield 55, 3) := by decide +kernel
theorem d_An_addAddressSet_41 : decode c_An_addAddressSet 41 = .ok (.iload_n 2, 1) := by decide +kernel
theorem d_An_addAddressSet_42 : decode c_An_addAddressSet 42 = .ok (.invokevirtual 156, 3) := by decide +kernel
theorem d_An_addAddressSet_45 : decode c_An_addAddressSet 45 = .ok (.ifCond .ne 19, 3) := by decide +kernel
theorem d_An_addAddressSet_48 : decode c_An_addAddressSet 48 = .ok (.aload_n 0, 1) := by decide +kernel
theorem d_An_addAddressSet_49 : decode c_An_addAddressSet 49 = .ok (.getfield 25, 3) := by decide +kernel
theorem d_An_addAddressSet_52 : decode c_An_addAddressSet 52 = .ok (.aload_n 1, 1) := by decide +kernel
theorem d_An_addAddressSet_53 : decode c_An_addAddressSet 53 = .ok (.getfield 55, 3) := by decide +kernel
theorem d_An_addAddressSet_56 : decode c_An_addAddressSet 56 = .ok (.aload_n 3, 1) := by decide +kernel
theorem d_An_addAddressSet_57 : decode c_An_addAddressSet 57 = .ok (.aload_n 3, 1) := by decide +kernel
theorem d_An_addAddressSet_58 : decode c_An_addAddressSet 58 = .ok (.getfield 94, 3) := by decide +kernel
theorem d_An_addAddressSet_61 : decode c_An_addAddressSet 61 = .ok (.invokevirtual 99, 3) := by decide +kernel
theorem d_An_addAddressSet_64 : decode c_An_addAddressSet 64 = .ok (.return_, 1) := by decide +kernel
abbrev c_An_addAddressesOf : ByteArray := prog_2_method_11_code
abbrev y_An_addAddressesOf : MethodName := ⟨"ZoneAnswers$Answer", "addAddressesOf", "(LZoneAnswers$Owner;)V"⟩
theorem d_An_addAddressesOf_0 : decode c_An_addAddressesOf 0 = .ok (.aload_n 0, 1) := by decide +kernel
theorem d_An_addAddressesOf_1 : decode c_An_addAddressesOf 1 = .ok (.aload_n 1, 1) := by decide +kernel
theorem d_An_addAddressesOf_2 : decode c_An_addAddressesOf 2 = .ok (.iconst 1, 1) := by decide +kernel
theorem d_An_addAddressesOf_3 : decode c_An_addAddressesOf 3 = .ok (.invokevirtual 187, 3) := by decide +kernel
theorem d_An_addAddressesOf_6 : decode c_An_addAddressesOf 6 = .ok (.aload_n 0, 1) := by decide +kernel
theorem d_An_addAddressesOf_7 : decode c_An_addAddressesOf 7 = .ok (.aload_n 1, 1) := by decide +kernel
theorem d_An_addAddressesOf_8 : decode c_An_addAddressesOf 8 = .ok (.bipush 28, 2) := by decide +kernel
theorem d_An_addAddressesOf_10 : decode c_An_addAddressesOf 10 = .ok (.invokevirtual 187, 3) := by decide +kernel
theorem d_An_addAddressesOf_13 : decode c_An_addAddressesOf 13 = .ok (.return_, 1) := by decide +kernel
abbrev rm_An_addAddressSet_n : Room := { frames := 0, cells := 0, slots := 0, locals := 0 }
set_option maxHeartbeats 4000000 in
set_option maxRecDepth 100000 in
/-- Answer.addAddressSet(null, type) -/
theorem t_An_addAddressSet_n (l : Launch) (E : zc_E) (G : zg_G) (a0 : Nat) (t : Int32) : zMv l E y_An_addAddressSet c_An_addAddressSet 4 rm_An_addAddressSet_n [.ref a0, .null, .int t] G (fun (G2 : zg_G) => G2 = G) := by
  refine zMv.of (by decide) (Nat.le_of_ble_eq_true rfl) ?_
  intro p e s m args below meth c Q hZ hG hret ls hl
  obtain ⟨hx, hb, hr, hts, hown, hlocks, hml, hnm, hbase, hK, hN, hQ⟩ := hZ
  have hl : lv_has ls 4 [(0, .ref a0), (1, .null), (2, .int t)] := hl
  have hS : zg_S (zc_b E) s.heap s.heap [] := va_S.rf
  refine lv_aload_nN hx hb d_An_addAddressSet_0 rfl (lv_at hl 1 rfl) ?_
  refine lv_ifnonnullN hx hb d_An_addAddressSet_1 ?_
  refine lv_null hx hb d_An_addAddressSet_4 ?_
  refine lv_goto (tgt := 13) hx hb d_An_addAddressSet_5 (by decide) ?_
  refine lv_astore_nN (lv' := [(3, .null), (0, .ref a0), (1, .null), (2, .int t)]) hx hb d_An_addAddressSet_13 rfl hl (by decide) rfl (fun ls hl => ?_)
  refine lv_aload_nN hx hb d_An_addAddressSet_14 rfl (lv_at hl 0 rfl) ?_
  refine lv_ifnullN (tgt := 64) hx hb d_An_addAddressSet_15 (by decide) ?_
  exact hret _ _ _ _ _ _ _ (rfl) hG hS (Nat.le_refl _) (Nat.le_refl _) d_An_addAddressSet_64
abbrev rm_An_addAddressSet (c9 s9 : Nat) : Room := { frames := 10, cells := c9, slots := s9, locals := 330 }
set_option maxHeartbeats 4000000 in
set_option maxRecDepth 100000 in
/-- Answer.addAddressSet(owner, type) -/
theorem t_An_addAddressSet (l : Launch) (E : zc_E) (G : zg_G) (k : Nat → Nat) (ro : zRo) (rc ty se : Int32) (os : List zOt) (top : np_N) (d1 d2 d3 : Nat) (t1 t2 t3 : List zTt) (hCx : zCx E G ro k rc ty se os top d1 d2 d3 t1 t2 t3) (hGZ : zGZ os top) (hdw : zdw os) (hzn : znr os < 2000) (oi : Nat) (hoi : oi < os.length) (t : Int32) (hB9 : zB9 (vad (zV os) (zWt t1 t2 t3) (oM (oe os oi)) t)) : zMv l E y_An_addAddressSet c_An_addAddressSet 4 (rm_An_addAddressSet (zPc (vad (zV os) (zWt t1 t2 t3) (oM (oe os oi)) t) - zPc (zWt t1 t2 t3)) (zPh os k (vad (zV os) (zWt t1 t2 t3) (oM (oe os oi)) t) - zPh os k (zWt t1 t2 t3))) [.ref (k 0), .ref (oA (oe os oi)), .int t] G (fun (G2 : zg_G) => ∃ ro2 e1 e2 e3 u1 u2 u3, zCx E G2 ro2 k rc ty se os top e1 e2 e3 u1 u2 u3 ∧ zfr ro zKa G ro2 G2 ∧ zWt u1 u2 u3 = vad (zV os) (zWt t1 t2 t3) (oM (oe os oi)) t) := by
  refine zMv.of (by decide) (Nat.le_of_ble_eq_true rfl) ?_
  intro p e s m args below meth c Q hZ hG hret ls hl
  obtain ⟨hx, hb, hr, hts, hown, hlocks, hml, hnm, hbase, hK, hN, hQ⟩ := hZ
  have hl : lv_has ls 4 [(0, .ref (k 0)), (1, .ref (oA (oe os oi))), (2, .int t)] := hl
  have hS : zg_S (zc_b E) s.heap s.heap [] := va_S.rf
  obtain ⟨⟨hz1, hz2, hz3, hz4, hz5, soa, u9, hz6, hz7, hz8, hz9, hzA⟩, ⟨ha1, ha2, hs1, hs2, hs3⟩, hT1⟩ := id hCx
  obtain ⟨bo, fo, hno1, hno2, hno3, hno4, hno5, -⟩ := id hz4
  have hne : 0 < os.length := hGZ.2.2.1
  have hsz := hGZ.1.sz
  have hol : os.length ≤ 2000 := by have := hsz.1; omega
  have hso := hGZ.1.1
  have hE00 : G (E.2.2.2 0) = none := hQ.out hG
  have hl0 := zWt_l t1 t2 t3
  have how := hz3.2 _ (oe_mem hoi)
  obtain ⟨bp, fp, hp1, hp2, hp3, hp4, hp5, -⟩ := id how.2.2.1
  have hb9 := hB9.le (vad_le (zV os) (zWt t1 t2 t3) (oM (oe os oi)) t)
  have hb1 : t1.length < 2000 := by have q := hb9.1; rw [hl0.1] at q; exact q
  have hb3 : t3.length < 2000 := by have q := hb9.2.2; rw [hl0.2.2] at q; exact q
  refine lv_aload_n hx hb d_An_addAddressSet_0 rfl (lv_at hl 1 rfl) ?_
  refine lv_ifnonnull (tgt := 8) hx hb d_An_addAddressSet_1 (by decide) ?_
  refine lv_aload_n hx hb d_An_addAddressSet_8 rfl (lv_at hl 1 rfl) ?_
  refine lv_iload_n hx hb d_An_addAddressSet_9 rfl (lv_at hl 2 rfl) ?_
  have hGo10 := hG
  refine zk_q (va_runV (As := [.int t]) (rest := []) ⟨hx, hb, hml, hown, hts⟩ (t_Ow_find_t l how (hGZ.1.2 oi hoi).2.1 t) (zcV 1 hts w_1032 w_654 w_655 w_12 w_656 (by decide +kernel) ⟨Nat.le_of_ble_eq_true rfl, Nat.le_of_ble_eq_true rfl⟩) (zc_preV hbase hK hN hQ hG hS how.1 rfl) rfl rfl hl.1 rfl (lv_room (Nat.le_of_ble_eq_true rfl)) d_An_addAddressSet_10 ⟨(by dsimp only; omega), (by dsimp only; omega)⟩) hS (fun r10 G10 H locs hp10 hG hS => ?_)
  rcases hp10 with ⟨⟨j9, hj1, hj2, hj3, er10⟩ | ⟨hj, er10⟩, eg10⟩
  · have hG : zP E G H := eg10 ▸ hG
    refine zr_some (a := sA (oS (oe os oi) j9)) er10 ?_
    have hvr := vrw_s (x := oM (oe os oi)) hGZ.1 hoi hj1
    rw [hj2] at hvr
    refine lv_astore_n (lv' := [(3, .ref (sA (oS (oe os oi) j9))), (0, .ref (k 0)), (1, .ref (oA (oe os oi))), (2, .int t)]) hx hb d_An_addAddressSet_13 rfl hl (by decide) rfl (fun ls hl => ?_)
    refine lv_aload_n hx hb d_An_addAddressSet_14 rfl (lv_at hl 0 rfl) ?_
    refine lv_ifnull hx hb d_An_addAddressSet_15 ?_
    refine lv_aload_n hx hb d_An_addAddressSet_18 rfl (lv_at hl 1 rfl) ?_
    refine zg_get (ci := 1) (C := "ZoneAnswers$Answer") (T := T_An) (N := 6) hx hb hts zi_An hown hK hG ha1 rfl 3 (by decide) (hts _ w_687) (fun _ h9 => h9) rfl d_An_addAddressSet_19 ?_
    refine lv_aload_n hx hb d_An_addAddressSet_22 rfl (lv_at hl 2 rfl) ?_
    refine zg_get (ci := 4) (C := "ZoneAnswers$Owner") (T := T_Ow) (N := 3) hx hb hts zi_Ow hown hK hG how.1 rfl 0 (by decide) (hts _ w_205) (fun _ h9 => h9) rfl d_An_addAddressSet_23 ?_
    refine lv_iload_n hx hb d_An_addAddressSet_26 rfl (lv_at hl 3 rfl) ?_
    refine zk_i (va_runV (As := [.ref (oN (oe os oi)), .int t]) (rest := []) ⟨hx, hb, hml, hown, hts⟩ (t_Se_has l E G (k 4) (k 7) d3 3 ro t3 hs3.1 (by omega) (oN (oe os oi)) bp (oM (oe os oi)) fp hp1 hp2 hp3 hp4 t) (zcV 2 hts w_1085 w_1086 w_1087 w_29 w_1088 (by decide +kernel) ⟨Nat.le_of_ble_eq_true rfl, Nat.le_of_ble_eq_true rfl⟩) (zc_preV hbase hK hN hQ hG hS hs3.1.1 rfl) rfl rfl hl.1 rfl (lv_room (Nat.le_of_ble_eq_true rfl)) d_An_addAddressSet_27 ⟨(by dsimp only; omega), (by dsimp only; omega)⟩) hS (fun r27 G27 H locs hp27 hG hS => ?_)
    have hG : zP E G H := hp27.2 ▸ hG
    refine lv_if_ne (tgt := 64) hx hb d_An_addAddressSet_30 (by decide) (fun c30 => ?_) (fun c30 => ?_)
    · exact hret _ _ _ _ _ _ _ (⟨ro, d1, d2, d3, t1, t2, t3, hCx, zfr.rf, (vad_h (Or.inl (aHas_t.mp (hp27.1.nz c30)))).symm⟩) hG hS (by dsimp only; omega) (by dsimp only; omega) d_An_addAddressSet_64
    · refine lv_aload_n hx hb d_An_addAddressSet_33 rfl (lv_at hl 1 rfl) ?_
      refine zg_get (ci := 1) (C := "ZoneAnswers$Answer") (T := T_An) (N := 6) hx hb hts zi_An hown hK hG ha1 rfl 1 (by decide) (hts _ w_685) (fun _ h9 => h9) rfl d_An_addAddressSet_34 ?_
      refine lv_aload_n hx hb d_An_addAddressSet_37 rfl (lv_at hl 2 rfl) ?_
      refine zg_get (ci := 4) (C := "ZoneAnswers$Owner") (T := T_Ow) (N := 3) hx hb hts zi_Ow hown hK hG how.1 rfl 0 (by decide) (hts _ w_205) (fun _ h9 => h9) rfl d_An_addAddressSet_38 ?_
      refine lv_iload_n hx hb d_An_addAddressSet_41 rfl (lv_at hl 3 rfl) ?_
      refine zk_i (va_runV (As := [.ref (oN (oe os oi)), .int t]) (rest := []) ⟨hx, hb, hml, hown, hts⟩ (t_Se_has l E G (k 2) (k 5) d1 1 ro t1 hs1.1 (by omega) (oN (oe os oi)) bp (oM (oe os oi)) fp hp1 hp2 hp3 hp4 t) (zcV 2 hts w_1085 w_1086 w_1087 w_29 w_1088 (by decide +kernel) ⟨Nat.le_of_ble_eq_true rfl, Nat.le_of_ble_eq_true rfl⟩) (zc_preV hbase hK hN hQ hG hS hs1.1.1 rfl) rfl rfl hl.1 rfl (lv_room (Nat.le_of_ble_eq_true rfl)) d_An_addAddressSet_42 ⟨(by dsimp only; omega), (by dsimp only; omega)⟩) hS (fun r42 G42 H locs hp42 hG hS => ?_)
      have hG : zP E G H := hp42.2 ▸ hG
      refine lv_if_ne (tgt := 64) hx hb d_An_addAddressSet_45 (by decide) (fun c45 => ?_) (fun c45 => ?_)
      · exact hret _ _ _ _ _ _ _ (⟨ro, d1, d2, d3, t1, t2, t3, hCx, zfr.rf, (vad_h (Or.inr (aHas_t.mp (hp42.1.nz c45)))).symm⟩) hG hS (by dsimp only; omega) (by dsimp only; omega) d_An_addAddressSet_64
      · have hn3 : ¬ aHas (zWt t1 t2 t3).2.2 (oM (oe os oi)) t := fun z => hp27.1.z c30 (aHas_t.mpr z)
        have hn1 : ¬ aHas (zWt t1 t2 t3).1 (oM (oe os oi)) t := fun z => hp42.1.z c45 (aHas_t.mpr z)
        have hvl : (vrw (zV os) (oM (oe os oi)) (oM (oe os oi)) t).length = (sX (oS (oe os oi) j9)).length := by rw [hvr, List.length_map]
        have hph := zPh_3 (os := os) (k := k) (W := zWt t1 t2 t3) hvl
        have hpc := zPc_3 (W := zWt t1 t2 t3) hvl
        rw [← vad_y hn3 hn1] at hph hpc
        rw [hl0.2.2] at hph
        have hB99 := hB9
        rw [vad_y hn3 hn1] at hB99
        have hlB : t3.length + (sX (oS (oe os oi) j9)).length < 2000 := by have q := hB99.2.2; unfold w3 at q; dsimp only at q; rw [List.length_append, hl0.2.2, hvl] at q; exact q
        refine lv_aload_n hx hb d_An_addAddressSet_48 rfl (lv_at hl 1 rfl) ?_
        refine zg_get (ci := 1) (C := "ZoneAnswers$Answer") (T := T_An) (N := 6) hx hb hts zi_An hown hK hG ha1 rfl 3 (by decide) (hts _ w_687) (fun _ h9 => h9) rfl d_An_addAddressSet_49 ?_
        refine lv_aload_n hx hb d_An_addAddressSet_52 rfl (lv_at hl 2 rfl) ?_
        refine zg_get (ci := 4) (C := "ZoneAnswers$Owner") (T := T_Ow) (N := 3) hx hb hts zi_Ow hown hK hG how.1 rfl 0 (by decide) (hts _ w_205) (fun _ h9 => h9) rfl d_An_addAddressSet_53 ?_
        refine lv_aload_n hx hb d_An_addAddressSet_56 rfl (lv_at hl 0 rfl) ?_
        refine lv_aload_n hx hb d_An_addAddressSet_57 rfl (lv_at hl 0 rfl) ?_
        refine zg_get (ci := 5) (C := "ZoneAnswers$Rrset") (T := T_Rr) (N := 3) hx hb hts zi_Rr hown hK hG (how.2.2.2.2 _ (oS_mem hj1)).1 rfl 1 (by decide) (hts _ w_623) (fun _ h9 => h9) rfl d_An_addAddressSet_58 ?_
        have hiJ := hoi
        have hsJ := hj1
        have hsrJ := (hz3.2 _ (oe_mem hiJ)).2.2.2.2 _ (oS_mem hsJ)
        have hadJ := t_Se_addSet l E G (k 4) (k 7) d3 3 (k 10) ro t3 hs3 (oN (oe os oi)) (oM (oe os oi)) how.2.2.1 (oA (oe os oi)) (oS (oe os oi) j9) hsrJ (sU (oS (oe os oi) j9)) hlB
        have hGo61 := hG
        refine zk_v (va_runV (As := [.ref (oN (oe os oi)), .ref (sA (oS (oe os oi) j9)), .int (sU (oS (oe os oi) j9))]) (rest := []) ⟨hx, hb, hml, hown, hts⟩ (hadJ) (zcV 3 hts w_1033 w_1034 w_1035 w_29 w_1036 (by decide +kernel) ⟨Nat.le_of_ble_eq_true rfl, Nat.le_of_ble_eq_true rfl⟩) (zc_preV hbase hK hN hQ hG hS hs3.1.1 rfl) rfl rfl hl.1 rfl (lv_room (Nat.le_of_ble_eq_true rfl)) d_An_addAddressSet_61 ⟨(by dsimp only; omega), (by dsimp only; omega)⟩) hS (fun G61 H locs hp61 hG hS => ?_)
        obtain ⟨ro_61, dd_61, ts_61, hES_61, hf0_61, hR0_61⟩ := hp61
        have hE_61q : G61 (E.2.2.2 0) = none := hQ.out hG
        have hC_61 := hCx.s3 (hQ.out hGo61) hE_61q hf0_61 hES_61
        have hf_61 : zfr ro zKa G ro_61 G61 := (zfr.rf (r := ro) (G := G)).tr (hf0_61.w zKs_a)
        have hR_61 := tV_of hR0_61
        have hW_61 : zWt t1 t2 (t3 ++ ts_61) = vad (zV os) (zWt t1 t2 t3) (oM (oe os oi)) t := by rw [zWt_3, hR_61]; rw [vad_y hn3 hn1, hvr, hj2]
        have hE_61 : G61 (E.2.2.2 0) = none := hQ.out hG
        obtain ⟨⟨hz1_61, hz2_61, hz3_61, hz4_61, hz5_61, soa_61, u9_61, hz6_61, hz7_61, hz8_61, hz9_61, hzA_61⟩, ⟨ha1_61, ha2_61, hs1_61, hs2_61, hs3_61⟩, hT1_61⟩ := id hC_61
        obtain ⟨bo_61, fo_61, hno1_61, hno2_61, hno3_61, hno4_61, hno5_61, -⟩ := id hz4_61
        have hl_61 := zWt_l t1 t2 (t3 ++ ts_61)
        exact hret _ _ _ _ _ _ _ (⟨ro_61, d1, d2, dd_61, t1, t2, (t3 ++ ts_61), hC_61, hf_61, hW_61⟩) hG hS (by dsimp only; omega) (by dsimp only; omega) d_An_addAddressSet_64
  · have hG : zP E G H := eg10 ▸ hG
    refine zr_none er10 ?_
    refine lv_astore_nN (lv' := [(3, .null), (0, .ref (k 0)), (1, .ref (oA (oe os oi))), (2, .int t)]) hx hb d_An_addAddressSet_13 rfl hl (by decide) rfl (fun ls hl => ?_)
    refine lv_aload_nN hx hb d_An_addAddressSet_14 rfl (lv_at hl 0 rfl) ?_
    refine lv_ifnullN (tgt := 64) hx hb d_An_addAddressSet_15 (by decide) ?_
    exact hret _ _ _ _ _ _ _ (⟨ro, d1, d2, d3, t1, t2, t3, hCx, zfr.rf, (vad_0 (Classical.byContradiction (fun z => absurd ((zV_ne hGZ.1 hoi).mp z) (fun w => by obtain ⟨j, q1, q2⟩ := w; exact hj j q1 q2)))).symm⟩) hG hS (by dsimp only; omega) (by dsimp only; omega) d_An_addAddressSet_64
abbrev rm_An_addAddressesOf_n : Room := { frames := 1, cells := 0, slots := 0, locals := 40 }
set_option maxHeartbeats 4000000 in
set_option maxRecDepth 100000 in
/-- Answer.addAddressesOf(null) -/
theorem t_An_addAddressesOf_n (l : Launch) (E : zc_E) (G : zg_G) (a0 : Nat) (fs0 : List Value) (ha0 : G a0 = some (.inr (1, fs0))) : zMv l E y_An_addAddressesOf c_An_addAddressesOf 2 rm_An_addAddressesOf_n [.ref a0, .null] G (fun (G2 : zg_G) => G2 = G) := by
  refine zMv.of (by decide) (Nat.le_of_ble_eq_true rfl) ?_
  intro p e s m args below meth c Q hZ hG hret ls hl
  obtain ⟨hx, hb, hr, hts, hown, hlocks, hml, hnm, hbase, hK, hN, hQ⟩ := hZ
  have hl : lv_has ls 2 [(0, .ref a0), (1, .null)] := hl
  have hS : zg_S (zc_b E) s.heap s.heap [] := va_S.rf
  refine lv_aload_n hx hb d_An_addAddressesOf_0 rfl (lv_at hl 0 rfl) ?_
  refine lv_aload_nN hx hb d_An_addAddressesOf_1 rfl (lv_at hl 1 rfl) ?_
  refine lv_iconst (v := 1) hx hb d_An_addAddressesOf_2 (by decide) ?_
  have hGo3 := hG
  refine zk_v (va_runV (As := [.null, .int 1]) (rest := []) ⟨hx, hb, hml, hown, hts⟩ (t_An_addAddressSet_n l E G a0 1) (zcV 2 hts w_1142 w_1144 wp_20 w_28 w_1145 (by decide +kernel) ⟨Nat.le_of_ble_eq_true rfl, Nat.le_of_ble_eq_true rfl⟩) (zc_preV hbase hK hN hQ hG hS ha0 rfl) rfl rfl hl.1 rfl (lv_room (Nat.le_of_ble_eq_true rfl)) d_An_addAddressesOf_3 ⟨(by decide), (by decide)⟩) hS (fun G3 H locs hp3 hG hS => ?_)
  have hG : zP E G H := hp3 ▸ hG
  refine lv_aload_n hx hb d_An_addAddressesOf_6 rfl (lv_at hl 0 rfl) ?_
  refine lv_aload_nN hx hb d_An_addAddressesOf_7 rfl (lv_at hl 1 rfl) ?_
  refine lv_bipush (v := 28) hx hb d_An_addAddressesOf_8 (by decide) ?_
  have hGo10 := hG
  refine zk_v (va_runV (As := [.null, .int 28]) (rest := []) ⟨hx, hb, hml, hown, hts⟩ (t_An_addAddressSet_n l E G a0 28) (zcV 2 hts w_1142 w_1144 wp_20 w_28 w_1145 (by decide +kernel) ⟨Nat.le_of_ble_eq_true rfl, Nat.le_of_ble_eq_true rfl⟩) (zc_preV hbase hK hN hQ hG hS ha0 rfl) rfl rfl hl.1 rfl (lv_room (Nat.le_of_ble_eq_true rfl)) d_An_addAddressesOf_10 ⟨(by decide), (by decide)⟩) hS (fun G10 H locs hp10 hG hS => ?_)
  have hG : zP E G H := hp10 ▸ hG
  exact hret _ _ _ _ _ _ _ (rfl) hG hS (Nat.le_refl _) (Nat.le_refl _) d_An_addAddressesOf_13
abbrev rm_An_addAddressesOf (c9 s9 : Nat) : Room := { frames := 11, cells := c9, slots := s9, locals := 370 }
set_option maxHeartbeats 4000000 in
set_option maxRecDepth 100000 in
/-- Answer.addAddressesOf(owner) -/
theorem t_An_addAddressesOf (l : Launch) (E : zc_E) (G : zg_G) (k : Nat → Nat) (ro : zRo) (rc ty se : Int32) (os : List zOt) (top : np_N) (d1 d2 d3 : Nat) (t1 t2 t3 : List zTt) (hCx : zCx E G ro k rc ty se os top d1 d2 d3 t1 t2 t3) (hGZ : zGZ os top) (hdw : zdw os) (hzn : znr os < 2000) (oi : Nat) (hoi : oi < os.length) (hB9 : zB9 (vao (zV os) (zWt t1 t2 t3) (oM (oe os oi)))) : zMv l E y_An_addAddressesOf c_An_addAddressesOf 2 (rm_An_addAddressesOf (zPc (vao (zV os) (zWt t1 t2 t3) (oM (oe os oi))) - zPc (zWt t1 t2 t3)) (zPh os k (vao (zV os) (zWt t1 t2 t3) (oM (oe os oi))) - zPh os k (zWt t1 t2 t3))) [.ref (k 0), .ref (oA (oe os oi))] G (fun (G2 : zg_G) => ∃ ro2 e1 e2 e3 u1 u2 u3, zCx E G2 ro2 k rc ty se os top e1 e2 e3 u1 u2 u3 ∧ zfr ro zKa G ro2 G2 ∧ zWt u1 u2 u3 = vao (zV os) (zWt t1 t2 t3) (oM (oe os oi))) := by
  refine zMv.of (by decide) (Nat.le_of_ble_eq_true rfl) ?_
  intro p e s m args below meth c Q hZ hG hret ls hl
  obtain ⟨hx, hb, hr, hts, hown, hlocks, hml, hnm, hbase, hK, hN, hQ⟩ := hZ
  have hl : lv_has ls 2 [(0, .ref (k 0)), (1, .ref (oA (oe os oi)))] := hl
  have hS : zg_S (zc_b E) s.heap s.heap [] := va_S.rf
  obtain ⟨⟨hz1, hz2, hz3, hz4, hz5, soa, u9, hz6, hz7, hz8, hz9, hzA⟩, ⟨ha1, ha2, hs1, hs2, hs3⟩, hT1⟩ := id hCx
  obtain ⟨bo, fo, hno1, hno2, hno3, hno4, hno5, -⟩ := id hz4
  have hne : 0 < os.length := hGZ.2.2.1
  have hsz := hGZ.1.sz
  have hol : os.length ≤ 2000 := by have := hsz.1; omega
  have hso := hGZ.1.1
  have hE00 : G (E.2.2.2 0) = none := hQ.out hG
  have hl0 := zWt_l t1 t2 t3
  have hle1 := vad_le (zV os) (zWt t1 t2 t3) (oM (oe os oi)) 1
  have hle2 := vad_le (zV os) (vad (zV os) (zWt t1 t2 t3) (oM (oe os oi)) 1) (oM (oe os oi)) 28
  have hpa := zPh_le (os := os) (k := k) hle1
  have hpb := zPh_le (os := os) (k := k) hle2
  have hpd := zPc_le hle1
  have hpe := zPc_le hle2
  change _ ≤ zPh os k (vao (zV os) (zWt t1 t2 t3) (oM (oe os oi))) at hpb
  change _ ≤ zPc (vao (zV os) (zWt t1 t2 t3) (oM (oe os oi))) at hpe
  refine lv_aload_n hx hb d_An_addAddressesOf_0 rfl (lv_at hl 0 rfl) ?_
  refine lv_aload_n hx hb d_An_addAddressesOf_1 rfl (lv_at hl 1 rfl) ?_
  refine lv_iconst (v := 1) hx hb d_An_addAddressesOf_2 (by decide) ?_
  have hGo3 := hG
  refine zk_v (va_runV (As := [.ref (oA (oe os oi)), .int 1]) (rest := []) ⟨hx, hb, hml, hown, hts⟩ (t_An_addAddressSet l E G k ro rc ty se os top d1 d2 d3 t1 t2 t3 hCx hGZ hdw hzn oi hoi 1 (hB9.le hle2)) (zcV 2 hts w_1142 w_1144 wp_20 w_28 w_1145 (by decide +kernel) ⟨Nat.le_of_ble_eq_true rfl, Nat.le_of_ble_eq_true rfl⟩) (zc_preV hbase hK hN hQ hG hS ha1 rfl) rfl rfl hl.1 rfl (lv_room (Nat.le_of_ble_eq_true rfl)) d_An_addAddressesOf_3 ⟨(by dsimp only; omega), (by dsimp only; omega)⟩) hS (fun G3 H locs hp3 hG hS => ?_)
  obtain ⟨ro_3, d1_3, d2_3, d3_3, t1_3, t2_3, t3_3, hC_3, hf0_3, hW0_3⟩ := hp3
  have hf_3 : zfr ro zKa G ro_3 G3 := (zfr.rf (r := ro) (G := G)).tr hf0_3
  have hW_3 : zWt t1_3 t2_3 t3_3 = vad (zV os) (zWt t1 t2 t3) (oM (oe os oi)) 1 := hW0_3
  have hE_3 : G3 (E.2.2.2 0) = none := hQ.out hG
  obtain ⟨⟨hz1_3, hz2_3, hz3_3, hz4_3, hz5_3, soa_3, u9_3, hz6_3, hz7_3, hz8_3, hz9_3, hzA_3⟩, ⟨ha1_3, ha2_3, hs1_3, hs2_3, hs3_3⟩, hT1_3⟩ := id hC_3
  obtain ⟨bo_3, fo_3, hno1_3, hno2_3, hno3_3, hno4_3, hno5_3, -⟩ := id hz4_3
  have hl_3 := zWt_l t1_3 t2_3 t3_3
  refine lv_aload_n hx hb d_An_addAddressesOf_6 rfl (lv_at hl 0 rfl) ?_
  refine lv_aload_n hx hb d_An_addAddressesOf_7 rfl (lv_at hl 1 rfl) ?_
  refine lv_bipush (v := 28) hx hb d_An_addAddressesOf_8 (by decide) ?_
  have had28 := t_An_addAddressSet l E G3 k ro_3 rc ty se os top d1_3 d2_3 d3_3 t1_3 t2_3 t3_3 hC_3 hGZ hdw hzn oi hoi 28 (by rw [hW_3]; exact hB9)
  rw [hW_3, show vad (zV os) (vad (zV os) (zWt t1 t2 t3) (oM (oe os oi)) 1) (oM (oe os oi)) 28 = vao (zV os) (zWt t1 t2 t3) (oM (oe os oi)) from rfl] at had28
  have hWq := hW_3
  have hGo10 := hG
  refine zk_v (va_runV (As := [.ref (oA (oe os oi)), .int 28]) (rest := []) ⟨hx, hb, hml, hown, hts⟩ (had28) (zcV 2 hts w_1142 w_1144 wp_20 w_28 w_1145 (by decide +kernel) ⟨Nat.le_of_ble_eq_true rfl, Nat.le_of_ble_eq_true rfl⟩) (zc_preV hbase hK hN hQ hG hS ha1_3 rfl) rfl rfl hl.1 rfl (lv_room (Nat.le_of_ble_eq_true rfl)) d_An_addAddressesOf_10 ⟨(by dsimp only; omega), (by dsimp only; omega)⟩) hS (fun G10 H locs hp10 hG hS => ?_)
  obtain ⟨ro_10, d1_10, d2_10, d3_10, t1_10, t2_10, t3_10, hC_10, hf0_10, hW0_10⟩ := hp10
  have hf_10 : zfr ro zKa G ro_10 G10 := hf_3.tr hf0_10
  have hW_10 : zWt t1_10 t2_10 t3_10 = vao (zV os) (zWt t1 t2 t3) (oM (oe os oi)) := hW0_10
  have hE_10 : G10 (E.2.2.2 0) = none := hQ.out hG
  obtain ⟨⟨hz1_10, hz2_10, hz3_10, hz4_10, hz5_10, soa_10, u9_10, hz6_10, hz7_10, hz8_10, hz9_10, hzA_10⟩, ⟨ha1_10, ha2_10, hs1_10, hs2_10, hs3_10⟩, hT1_10⟩ := id hC_10
  obtain ⟨bo_10, fo_10, hno1_10, hno2_10, hno3_10, hno4_10, hno5_10, -⟩ := id hz4_10
  have hl_10 := zWt_l t1_10 t2_10 t3_10
  exact hret _ _ _ _ _ _ _ (⟨ro_10, d1_10, d2_10, d3_10, t1_10, t2_10, t3_10, hC_10, hf_10, hW_10⟩) hG hS (by dsimp only; omega) (by dsimp only; omega) d_An_addAddressesOf_13
