theorem w_163 : (.methodLink "ZoneAnswers$Zone" 79 ⟨"java/util/ArrayList", "get", "(I)Ljava/lang/Object;"⟩ : Cond) ∈ zw := zw_at 163 (by decide +kernel) (by decide +kernel)
theorem w_164 : (.instanceMethod ⟨"java/util/ArrayList", "get", "(I)Ljava/lang/Object;"⟩ : Cond) ∈ zw := zw_at 164 (by decide +kernel) (by decide +kernel)
theorem w_165 : (.selects "java/util/ArrayList" ⟨"java/util/ArrayList", "get", "(I)Ljava/lang/Object;"⟩ ⟨"java/util/ArrayList", "get", "(I)Ljava/lang/Object;"⟩ : Cond) ∈ zw := zw_at 165 (by decide +kernel) (by decide +kernel)
theorem w_166 : (.code ⟨"java/util/ArrayList", "get", "(I)Ljava/lang/Object;"⟩ prog_35_method_20_code 2 (some (.object "java/lang/Object")) : Cond) ∈ zw := zw_at 166 (by decide +kernel) (by decide +kernel)
theorem w_177 : (.classLink "ZoneAnswers$Zone" 83 "ZoneAnswers$Owner" : Cond) ∈ zw := zw_at 177 (by decide +kernel) (by decide +kernel)
theorem w_193 : (.methodLink "ZoneAnswers$Zone" 94 ⟨"ZoneAnswers$Name", "isSame", "(LZoneAnswers$Name;)Z"⟩ : Cond) ∈ zw := zw_at 193 (by decide +kernel) (by decide +kernel)
theorem w_194 : (.instanceMethod ⟨"ZoneAnswers$Name", "isSame", "(LZoneAnswers$Name;)Z"⟩ : Cond) ∈ zw := zw_at 194 (by decide +kernel) (by decide +kernel)
theorem w_195 : (.selects "ZoneAnswers$Name" ⟨"ZoneAnswers$Name", "isSame", "(LZoneAnswers$Name;)Z"⟩ ⟨"ZoneAnswers$Name", "isSame", "(LZoneAnswers$Name;)Z"⟩ : Cond) ∈ zw := zw_at 195 (by decide +kernel) (by decide +kernel)
theorem w_196 : (.code ⟨"ZoneAnswers$Name", "isSame", "(LZoneAnswers$Name;)Z"⟩ prog_4_method_5_code 4 (some .boolean) : Cond) ∈ zw := zw_at 196 (by decide +kernel) (by decide +kernel)
theorem w_206 : (.fieldLink "ZoneAnswers$Zone" 85 "ZoneAnswers$Owner" "name" "LZoneAnswers$Name;" : Cond) ∈ zw := zw_at 206 (by decide +kernel) (by decide +kernel)
abbrev c_Zo_ownerName : ByteArray := prog_10_method_21_code
abbrev y_Zo_ownerName : MethodName := ⟨"ZoneAnswers$Zone", "ownerName", "(I)LZoneAnswers$Name;"⟩
theorem d_Zo_ownerName_0 : decode c_Zo_ownerName 0 = .ok (.aload_n 0, 1) := by decide +kernel
theorem d_Zo_ownerName_1 : decode c_Zo_ownerName 1 = .ok (.getfield 12, 3) := by decide +kernel
theorem d_Zo_ownerName_4 : decode c_Zo_ownerName 4 = .ok (.iload_n 1, 1) := by decide +kernel
theorem d_Zo_ownerName_5 : decode c_Zo_ownerName 5 = .ok (.invokevirtual 79, 3) := by decide +kernel
theorem d_Zo_ownerName_8 : decode c_Zo_ownerName 8 = .ok (.checkcast 83, 3) := by decide +kernel
theorem d_Zo_ownerName_11 : decode c_Zo_ownerName 11 = .ok (.getfield 85, 3) := by decide +kernel
theorem d_Zo_ownerName_14 : decode c_Zo_ownerName 14 = .ok (.areturn, 1) := by decide +kernel
abbrev c_Zo_isAt : ByteArray := prog_10_method_9_code
abbrev y_Zo_isAt : MethodName := ⟨"ZoneAnswers$Zone", "isAt", "(ILZoneAnswers$Name;)Z"⟩
theorem d_Zo_isAt_0 : decode c_Zo_isAt 0 = .ok (.iload_n 1, 1) := by decide +kernel
theorem d_Zo_isAt_1 : decode c_Zo_isAt 1 = .ok (.aload_n 0, 1) := by decide +kernel
theorem d_Zo_isAt_2 : decode c_Zo_isAt 2 = .ok (.getfield 12, 3) := by decide +kernel
theorem d_Zo_isAt_5 : decode c_Zo_isAt 5 = .ok (.invokevirtual 75, 3) := by decide +kernel
theorem d_Zo_isAt_8 : decode c_Zo_isAt 8 = .ok (.if_icmp .ge 28, 3) := by decide +kernel
theorem d_Zo_isAt_11 : decode c_Zo_isAt 11 = .ok (.aload_n 0, 1) := by decide +kernel
theorem d_Zo_isAt_12 : decode c_Zo_isAt 12 = .ok (.getfield 12, 3) := by decide +kernel
theorem d_Zo_isAt_15 : decode c_Zo_isAt 15 = .ok (.iload_n 1, 1) := by decide +kernel
theorem d_Zo_isAt_16 : decode c_Zo_isAt 16 = .ok (.invokevirtual 79, 3) := by decide +kernel
theorem d_Zo_isAt_19 : decode c_Zo_isAt 19 = .ok (.checkcast 83, 3) := by decide +kernel
theorem d_Zo_isAt_22 : decode c_Zo_isAt 22 = .ok (.getfield 85, 3) := by decide +kernel
theorem d_Zo_isAt_25 : decode c_Zo_isAt 25 = .ok (.aload_n 2, 1) := by decide +kernel
theorem d_Zo_isAt_26 : decode c_Zo_isAt 26 = .ok (.invokevirtual 94, 3) := by decide +kernel
theorem d_Zo_isAt_29 : decode c_Zo_isAt 29 = .ok (.ifCond .eq 7, 3) := by decide +kernel
theorem d_Zo_isAt_32 : decode c_Zo_isAt 32 = .ok (.iconst 1, 1) := by decide +kernel
theorem d_Zo_isAt_33 : decode c_Zo_isAt 33 = .ok (.goto 4, 3) := by decide +kernel
theorem d_Zo_isAt_36 : decode c_Zo_isAt 36 = .ok (.iconst 0, 1) := by decide +kernel
theorem d_Zo_isAt_37 : decode c_Zo_isAt 37 = .ok (.ireturn, 1) := by decide +kernel
abbrev rm_Zo_ownerName : Room := { frames := 3, cells := 0, slots := 0, locals := 80 }
set_option maxHeartbeats 4000000 in
set_option maxRecDepth 100000 in
/-- Zone.ownerName(i) -/
theorem t_Zo_ownerName (l : Launch) (E : zc_E) (G : zg_G) (a la tn st sd : Nat) (rc : Int32) (ha : G a = some (.inr (9, [.ref la, .ref tn, .ref st, .ref sd, .int rc]))) (dd n cap : Nat) (k : Int32) (f : Nat → Option Nat) (hla : G la = some (.inr (0, [.ref dd, .int (nI n), .int k]))) (hd : G dd = some (.inl (E.2.1 3, cap, .inr (.inr (.inr (.inr f)))))) (hc : n ≤ cap) (hz : cap < 2 ^ 24) (i o na se : Nat) (cu : Option Nat) (hi : i < n) (hfi : f i = some o) (ho : G o = some (.inr (4, [.ref na, .ref se, va_rf cu]))) : zMq l E y_Zo_ownerName c_Zo_ownerName 2 (some (.object "ZoneAnswers$Name")) rm_Zo_ownerName [.ref a, .int (nI i)] G (fun (r : Option Nat) (G2 : zg_G) => r = some na ∧ G2 = G) := by
  refine zMq.of (by decide) (Nat.le_of_ble_eq_true rfl) ?_
  intro p e s m args below meth c Q hZ hG hret ls hl
  obtain ⟨hx, hb, hr, hts, hown, hlocks, hml, hnm, hbase, hK, hN, hQ⟩ := hZ
  have hl : lv_has ls 2 [(0, .ref a), (1, .int (nI i))] := hl
  have hS : zg_S (zc_b E) s.heap s.heap [] := va_S.rf
  refine lv_aload_n hx hb d_Zo_ownerName_0 rfl (lv_at hl 0 rfl) ?_
  refine zg_get (ci := 9) (C := "ZoneAnswers$Zone") (T := T_Zo) (N := 5) hx hb hts zi_Zo hown hK hG ha rfl 0 (by decide) (hts _ w_91) (fun _ h9 => h9) rfl d_Zo_ownerName_1 ?_
  refine lv_iload_n hx hb d_Zo_ownerName_4 rfl (lv_at hl 1 rfl) ?_
  have hGo5 := hG
  refine zk_q (va_runV (As := [.int (nI i)]) (rest := []) ⟨hx, hb, hml, hown, hts⟩ (t_AL_get l E G la dd n cap k f hla hd hc hz i hi) (zcV 1 hts w_163 w_164 w_165 w_6 w_166 (by decide +kernel) ⟨Nat.le_of_ble_eq_true rfl, Nat.le_of_ble_eq_true rfl⟩) (zc_preV hbase hK hN hQ hG hS hla rfl) rfl rfl hl.1 rfl (lv_room (Nat.le_of_ble_eq_true rfl)) d_Zo_ownerName_5 ⟨(by decide), (by decide)⟩) hS (fun r5 G5 H locs hp5 hG hS => ?_)
  have hG : zP E G H := hp5.2 ▸ hG
  refine zr_some (a := o) (hp5.1.trans hfi) ?_
  refine zg_castY hx hb hown (hts _ w_177) hK hG ho rfl (zN.at hN (w := .castable "ZoneAnswers$Owner" "ZoneAnswers$Owner") (by decide +kernel)) d_Zo_ownerName_8 ?_
  refine zg_get (ci := 4) (C := "ZoneAnswers$Owner") (T := T_Ow) (N := 3) hx hb hts zi_Ow hown hK hG ho rfl 0 (by decide) (hts _ w_206) (fun _ h9 => h9) rfl d_Zo_ownerName_11 ?_
  exact hret (some na) _ _ _ _ _ _ _ _ hr (Or.inl ⟨_, rfl⟩) (⟨rfl, rfl⟩) hG hS (Nat.le_refl _) (Nat.le_refl _) d_Zo_ownerName_14
abbrev rm_Zo_isAt : Room := { frames := 3, cells := 0, slots := 0, locals := 80 }
set_option maxHeartbeats 4000000 in
set_option maxRecDepth 100000 in
/-- Zone.isAt(i, name), of a place in the list -/
theorem t_Zo_isAt (l : Launch) (E : zc_E) (G : zg_G) (a la tn st sd : Nat) (rc : Int32) (ha : G a = some (.inr (9, [.ref la, .ref tn, .ref st, .ref sd, .int rc]))) (dd n cap : Nat) (k : Int32) (f : Nat → Option Nat) (hla : G la = some (.inr (0, [.ref dd, .int (nI n), .int k]))) (hd : G dd = some (.inl (E.2.1 3, cap, .inr (.inr (.inr (.inr f)))))) (hc : n ≤ cap) (hz : cap < 2 ^ 24) (i o se : Nat) (cu : Option Nat) (hi : i < n) (hfi : f i = some o) (a0 b0 : Nat) (ls0 : np_N) (f0 : Nat → Int32) (ha0 : G a0 = some (.inr (3, [.ref b0, .int (nI ls0.length)]))) (hb0 : G b0 = some (.inl (E.2.1 0, np_len ls0, .inl f0))) (hf0 : np_f ls0 f0) (hg0 : np_g ls0) (a1 b1 : Nat) (ls1 : np_N) (f1 : Nat → Int32) (ha1 : G a1 = some (.inr (3, [.ref b1, .int (nI ls1.length)]))) (hb1 : G b1 = some (.inl (E.2.1 0, np_len ls1, .inl f1))) (hf1 : np_f ls1 f1) (hg1 : np_g ls1) (ho : G o = some (.inr (4, [.ref a0, .ref se, va_rf cu]))) : zMi l E y_Zo_isAt c_Zo_isAt 3 (some .boolean) rm_Zo_isAt [.ref a, .int (nI i), .ref a1] G (fun (r : Int32) (G2 : zg_G) => zb r (ls0 = ls1) ∧ G2 = G) := by
  refine zMi.of (by decide) (Nat.le_of_ble_eq_true rfl) ?_
  intro p e s m args below meth c Q hZ hG hret ls hl
  obtain ⟨hx, hb, hr, hts, hown, hlocks, hml, hnm, hbase, hK, hN, hQ⟩ := hZ
  have hl : lv_has ls 3 [(0, .ref a), (1, .int (nI i)), (2, .ref a1)] := hl
  have hS : zg_S (zc_b E) s.heap s.heap [] := va_S.rf
  refine lv_iload_n hx hb d_Zo_isAt_0 rfl (lv_at hl 1 rfl) ?_
  refine lv_aload_n hx hb d_Zo_isAt_1 rfl (lv_at hl 0 rfl) ?_
  refine zg_get (ci := 9) (C := "ZoneAnswers$Zone") (T := T_Zo) (N := 5) hx hb hts zi_Zo hown hK hG ha rfl 0 (by decide) (hts _ w_91) (fun _ h9 => h9) rfl d_Zo_isAt_2 ?_
  refine zk_i (va_runV (As := []) (rest := [.int (nI i)]) ⟨hx, hb, hml, hown, hts⟩ (t_AL_size l E G la (.ref dd) (nI n) k hla) (zcV 0 hts w_159 w_160 w_161 w_6 w_162 (by decide +kernel) ⟨Nat.le_of_ble_eq_true rfl, Nat.le_of_ble_eq_true rfl⟩) (zc_preV hbase hK hN hQ hG hS hla rfl) rfl rfl hl.1 rfl (lv_room (Nat.le_of_ble_eq_true rfl)) d_Zo_isAt_5 ⟨(by decide), (by decide)⟩) hS (fun r5 G5 H locs hp5 hG hS => ?_)
  have hG : zP E G H := hp5.2 ▸ hG
  refine zi_as (y := nI n) hp5.1 ?_
  refine lv_icmp_ge (tgt := 36) hx hb d_Zo_isAt_8 (by decide) (fun c8 => ?_) (fun c8 => ?_)
  · have b8 : n ≤ i := (nI_leI (a := n) (b := i) (by omega) (by omega)).mp c8
    exact absurd b8 (by omega)
  · have b8 : ¬ n ≤ i := fun q => c8 ((nI_leI (a := n) (b := i) (by omega) (by omega)).mpr q)
    refine lv_aload_n hx hb d_Zo_isAt_11 rfl (lv_at hl 0 rfl) ?_
    refine zg_get (ci := 9) (C := "ZoneAnswers$Zone") (T := T_Zo) (N := 5) hx hb hts zi_Zo hown hK hG ha rfl 0 (by decide) (hts _ w_91) (fun _ h9 => h9) rfl d_Zo_isAt_12 ?_
    refine lv_iload_n hx hb d_Zo_isAt_15 rfl (lv_at hl 1 rfl) ?_
    have hGo16 := hG
    refine zk_q (va_runV (As := [.int (nI i)]) (rest := []) ⟨hx, hb, hml, hown, hts⟩ (t_AL_get l E G la dd n cap k f hla hd hc hz i hi) (zcV 1 hts w_163 w_164 w_165 w_6 w_166 (by decide +kernel) ⟨Nat.le_of_ble_eq_true rfl, Nat.le_of_ble_eq_true rfl⟩) (zc_preV hbase hK hN hQ hG hS hla rfl) rfl rfl hl.1 rfl (lv_room (Nat.le_of_ble_eq_true rfl)) d_Zo_isAt_16 ⟨(by decide), (by decide)⟩) hS (fun r16 G16 H locs hp16 hG hS => ?_)
    have hG : zP E G H := hp16.2 ▸ hG
    refine zr_some (a := o) (hp16.1.trans hfi) ?_
    refine zg_castY hx hb hown (hts _ w_177) hK hG ho rfl (zN.at hN (w := .castable "ZoneAnswers$Owner" "ZoneAnswers$Owner") (by decide +kernel)) d_Zo_isAt_19 ?_
    refine zg_get (ci := 4) (C := "ZoneAnswers$Owner") (T := T_Ow) (N := 3) hx hb hts zi_Ow hown hK hG ho rfl 0 (by decide) (hts _ w_206) (fun _ h9 => h9) rfl d_Zo_isAt_22 ?_
    refine lv_aload_n hx hb d_Zo_isAt_25 rfl (lv_at hl 2 rfl) ?_
    refine zk_i (va_runV (As := [.ref a1]) (rest := []) ⟨hx, hb, hml, hown, hts⟩ (t_Na_isSame l E G a0 b0 ls0 f0 ha0 hb0 hf0 hg0 a1 b1 ls1 f1 ha1 hb1 hf1 hg1) (zcV 1 hts w_193 w_194 w_195 w_7 w_196 (by decide +kernel) ⟨Nat.le_of_ble_eq_true rfl, Nat.le_of_ble_eq_true rfl⟩) (zc_preV hbase hK hN hQ hG hS ha0 rfl) rfl rfl hl.1 rfl (lv_room (Nat.le_of_ble_eq_true rfl)) d_Zo_isAt_26 ⟨(by decide), (by decide)⟩) hS (fun r26 G26 H locs hp26 hG hS => ?_)
    have hG : zP E G H := hp26.2 ▸ hG
    refine lv_if_eq (tgt := 36) hx hb d_Zo_isAt_29 (by decide) (fun c29 => ?_) (fun c29 => ?_)
    · refine lv_iconst (v := 0) hx hb d_Zo_isAt_36 (by decide) ?_
      exact hret _ _ _ _ _ _ _ _ _ hr (rfl) (⟨by first | exact zb.t (hp26.1.nz c29) | exact zb.f (hp26.1.z c29), rfl⟩) hG hS (Nat.le_refl _) (Nat.le_refl _) d_Zo_isAt_37
    · refine lv_iconst (v := 1) hx hb d_Zo_isAt_32 (by decide) ?_
      refine lv_goto (tgt := 37) hx hb d_Zo_isAt_33 (by decide) ?_
      exact hret _ _ _ _ _ _ _ _ _ hr (rfl) (⟨by first | exact zb.t (hp26.1.nz c29) | exact zb.f (hp26.1.z c29), rfl⟩) hG hS (Nat.le_refl _) (Nat.le_refl _) d_Zo_isAt_37
set_option maxHeartbeats 4000000 in
set_option maxRecDepth 100000 in
/-- Zone.isAt(i, name), behind the list -/
theorem t_Zo_isAt_e (l : Launch) (E : zc_E) (G : zg_G) (a la tn st sd : Nat) (rc : Int32) (ha : G a = some (.inr (9, [.ref la, .ref tn, .ref st, .ref sd, .int rc]))) (dv : Value) (k : Int32) (n : Nat) (hla : G la = some (.inr (0, [dv, .int (nI n), .int k]))) (i x : Nat) (hi : n ≤ i) (hi2 : i < 2 ^ 31) : zMi l E y_Zo_isAt c_Zo_isAt 3 (some .boolean) rm_Zo_isAt [.ref a, .int (nI i), .ref x] G (fun (r : Int32) (G2 : zg_G) => r = 0 ∧ G2 = G) := by
  refine zMi.of (by decide) (Nat.le_of_ble_eq_true rfl) ?_
  intro p e s m args below meth c Q hZ hG hret ls hl
  obtain ⟨hx, hb, hr, hts, hown, hlocks, hml, hnm, hbase, hK, hN, hQ⟩ := hZ
  have hl : lv_has ls 3 [(0, .ref a), (1, .int (nI i)), (2, .ref x)] := hl
  have hS : zg_S (zc_b E) s.heap s.heap [] := va_S.rf
  refine lv_iload_n hx hb d_Zo_isAt_0 rfl (lv_at hl 1 rfl) ?_
  refine lv_aload_n hx hb d_Zo_isAt_1 rfl (lv_at hl 0 rfl) ?_
  refine zg_get (ci := 9) (C := "ZoneAnswers$Zone") (T := T_Zo) (N := 5) hx hb hts zi_Zo hown hK hG ha rfl 0 (by decide) (hts _ w_91) (fun _ h9 => h9) rfl d_Zo_isAt_2 ?_
  refine zk_i (va_runV (As := []) (rest := [.int (nI i)]) ⟨hx, hb, hml, hown, hts⟩ (t_AL_size l E G la dv (nI n) k hla) (zcV 0 hts w_159 w_160 w_161 w_6 w_162 (by decide +kernel) ⟨Nat.le_of_ble_eq_true rfl, Nat.le_of_ble_eq_true rfl⟩) (zc_preV hbase hK hN hQ hG hS hla rfl) rfl rfl hl.1 rfl (lv_room (Nat.le_of_ble_eq_true rfl)) d_Zo_isAt_5 ⟨(by decide), (by decide)⟩) hS (fun r5 G5 H locs hp5 hG hS => ?_)
  have hG : zP E G H := hp5.2 ▸ hG
  refine zi_as (y := nI n) hp5.1 ?_
  refine lv_icmp_ge (tgt := 36) hx hb d_Zo_isAt_8 (by decide) (fun c8 => ?_) (fun c8 => ?_)
  · have b8 : n ≤ i := (nI_leI (a := n) (b := i) (by omega) (by omega)).mp c8
    refine lv_iconst (v := 0) hx hb d_Zo_isAt_36 (by decide) ?_
    exact hret _ _ _ _ _ _ _ _ _ hr (rfl) (⟨rfl, rfl⟩) hG hS (Nat.le_refl _) (Nat.le_refl _) d_Zo_isAt_37
  · have b8 : ¬ n ≤ i := fun q => c8 ((nI_leI (a := n) (b := i) (by omega) (by omega)).mpr q)
    exact absurd hi b8
