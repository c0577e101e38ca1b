theorem w_9 : (.initialized "java/util/Objects" : Cond) ∈ zw := zw_at 9 (by decide +kernel) (by decide +kernel)
theorem w_10 : (.initialized "jdk/internal/util/Preconditions" : Cond) ∈ zw := zw_at 10 (by decide +kernel) (by decide +kernel)
theorem w_11 : (.initialized "java/lang/Math" : Cond) ∈ zw := zw_at 11 (by decide +kernel) (by decide +kernel)
theorem w_167 : (.methodLink "java/util/ArrayList" 118 ⟨"java/util/Objects", "checkIndex", "(II)I"⟩ : Cond) ∈ zw := zw_at 167 (by decide +kernel) (by decide +kernel)
theorem w_168 : (.static ⟨"java/util/Objects", "checkIndex", "(II)I"⟩ : Cond) ∈ zw := zw_at 168 (by decide +kernel) (by decide +kernel)
theorem w_169 : (.code ⟨"java/util/Objects", "checkIndex", "(II)I"⟩ prog_40_method_17_code 2 (some .int) : Cond) ∈ zw := zw_at 169 (by decide +kernel) (by decide +kernel)
theorem w_170 : (.methodLink "java/util/Objects" 105 ⟨"jdk/internal/util/Preconditions", "checkIndex", "(IILjava/util/function/BiFunction;)I"⟩ : Cond) ∈ zw := zw_at 170 (by decide +kernel) (by decide +kernel)
theorem w_171 : (.static ⟨"jdk/internal/util/Preconditions", "checkIndex", "(IILjava/util/function/BiFunction;)I"⟩ : Cond) ∈ zw := zw_at 171 (by decide +kernel) (by decide +kernel)
theorem w_172 : (.code ⟨"jdk/internal/util/Preconditions", "checkIndex", "(IILjava/util/function/BiFunction;)I"⟩ prog_44_method_11_code 3 (some .int) : Cond) ∈ zw := zw_at 172 (by decide +kernel) (by decide +kernel)
theorem w_173 : (.methodLink "java/util/ArrayList" 123 ⟨"java/util/ArrayList", "elementData", "(I)Ljava/lang/Object;"⟩ : Cond) ∈ zw := zw_at 173 (by decide +kernel) (by decide +kernel)
theorem w_174 : (.instanceMethod ⟨"java/util/ArrayList", "elementData", "(I)Ljava/lang/Object;"⟩ : Cond) ∈ zw := zw_at 174 (by decide +kernel) (by decide +kernel)
theorem w_175 : (.selects "java/util/ArrayList" ⟨"java/util/ArrayList", "elementData", "(I)Ljava/lang/Object;"⟩ ⟨"java/util/ArrayList", "elementData", "(I)Ljava/lang/Object;"⟩ : Cond) ∈ zw := zw_at 175 (by decide +kernel) (by decide +kernel)
theorem w_176 : (.code ⟨"java/util/ArrayList", "elementData", "(I)Ljava/lang/Object;"⟩ prog_35_method_18_code 2 (some (.object "java/lang/Object")) : Cond) ∈ zw := zw_at 176 (by decide +kernel) (by decide +kernel)
theorem w_329 : (.methodLink "jdk/internal/util/ArraysSupport" 194 ⟨"java/lang/Math", "max", "(II)I"⟩ : Cond) ∈ zw := zw_at 329 (by decide +kernel) (by decide +kernel)
theorem w_330 : (.static ⟨"java/lang/Math", "max", "(II)I"⟩ : Cond) ∈ zw := zw_at 330 (by decide +kernel) (by decide +kernel)
theorem w_331 : (.code ⟨"java/lang/Math", "max", "(II)I"⟩ prog_24_method_65_code 2 (some .int) : Cond) ∈ zw := zw_at 331 (by decide +kernel) (by decide +kernel)
theorem w_332 : (.constant "jdk/internal/util/ArraysSupport" 200 (2147483639 : Int32) : Cond) ∈ zw := zw_at 332 (by decide +kernel) (by decide +kernel)
abbrev c_Pr_checkIndex : ByteArray := prog_44_method_11_code
abbrev y_Pr_checkIndex : MethodName := ⟨"jdk/internal/util/Preconditions", "checkIndex", "(IILjava/util/function/BiFunction;)I"⟩
theorem d_Pr_checkIndex_0 : decode c_Pr_checkIndex 0 = .ok (.iload_n 0, 1) := by decide +kernel
theorem d_Pr_checkIndex_1 : decode c_Pr_checkIndex 1 = .ok (.ifCond .lt 8, 3) := by decide +kernel
theorem d_Pr_checkIndex_4 : decode c_Pr_checkIndex 4 = .ok (.iload_n 0, 1) := by decide +kernel
theorem d_Pr_checkIndex_5 : decode c_Pr_checkIndex 5 = .ok (.iload_n 1, 1) := by decide +kernel
theorem d_Pr_checkIndex_6 : decode c_Pr_checkIndex 6 = .ok (.if_icmp .lt 10, 3) := by decide +kernel
theorem d_Pr_checkIndex_9 : decode c_Pr_checkIndex 9 = .ok (.aload_n 2, 1) := by decide +kernel
theorem d_Pr_checkIndex_10 : decode c_Pr_checkIndex 10 = .ok (.iload_n 0, 1) := by decide +kernel
theorem d_Pr_checkIndex_11 : decode c_Pr_checkIndex 11 = .ok (.iload_n 1, 1) := by decide +kernel
theorem d_Pr_checkIndex_12 : decode c_Pr_checkIndex 12 = .ok (.invokestatic 95, 3) := by decide +kernel
theorem d_Pr_checkIndex_15 : decode c_Pr_checkIndex 15 = .ok (.athrow, 1) := by decide +kernel
theorem d_Pr_checkIndex_16 : decode c_Pr_checkIndex 16 = .ok (.iload_n 0, 1) := by decide +kernel
theorem d_Pr_checkIndex_17 : decode c_Pr_checkIndex 17 = .ok (.ireturn, 1) := by decide +kernel
abbrev c_Ob_checkIndex : ByteArray := prog_40_method_17_code
abbrev y_Ob_checkIndex : MethodName := ⟨"java/util/Objects", "checkIndex", "(II)I"⟩
theorem d_Ob_checkIndex_0 : decode c_Ob_checkIndex 0 = .ok (.iload_n 0, 1) := by decide +kernel
theorem d_Ob_checkIndex_1 : decode c_Ob_checkIndex 1 = .ok (.iload_n 1, 1) := by decide +kernel
theorem d_Ob_checkIndex_2 : decode c_Ob_checkIndex 2 = .ok (.aconst_null, 1) := by decide +kernel
theorem d_Ob_checkIndex_3 : decode c_Ob_checkIndex 3 = .ok (.invokestatic 105, 3) := by decide +kernel
theorem d_Ob_checkIndex_6 : decode c_Ob_checkIndex 6 = .ok (.ireturn, 1) := by decide +kernel
abbrev c_AL_elementData : ByteArray := prog_35_method_18_code
abbrev y_AL_elementData : MethodName := ⟨"java/util/ArrayList", "elementData", "(I)Ljava/lang/Object;"⟩
theorem d_AL_elementData_0 : decode c_AL_elementData 0 = .ok (.aload_n 0, 1) := by decide +kernel
theorem d_AL_elementData_1 : decode c_AL_elementData 1 = .ok (.getfield 9, 3) := by decide +kernel
theorem d_AL_elementData_4 : decode c_AL_elementData 4 = .ok (.iload_n 1, 1) := by decide +kernel
theorem d_AL_elementData_5 : decode c_AL_elementData 5 = .ok (.aaload, 1) := by decide +kernel
theorem d_AL_elementData_6 : decode c_AL_elementData 6 = .ok (.areturn, 1) := by decide +kernel
abbrev c_AL_get : ByteArray := prog_35_method_20_code
abbrev y_AL_get : MethodName := ⟨"java/util/ArrayList", "get", "(I)Ljava/lang/Object;"⟩
theorem d_AL_get_0 : decode c_AL_get 0 = .ok (.iload_n 1, 1) := by decide +kernel
theorem d_AL_get_1 : decode c_AL_get 1 = .ok (.aload_n 0, 1) := by decide +kernel
theorem d_AL_get_2 : decode c_AL_get 2 = .ok (.getfield 48, 3) := by decide +kernel
theorem d_AL_get_5 : decode c_AL_get 5 = .ok (.invokestatic 118, 3) := by decide +kernel
theorem d_AL_get_8 : decode c_AL_get 8 = .ok (.pop, 1) := by decide +kernel
theorem d_AL_get_9 : decode c_AL_get 9 = .ok (.aload_n 0, 1) := by decide +kernel
theorem d_AL_get_10 : decode c_AL_get 10 = .ok (.iload_n 1, 1) := by decide +kernel
theorem d_AL_get_11 : decode c_AL_get 11 = .ok (.invokevirtual 123, 3) := by decide +kernel
theorem d_AL_get_14 : decode c_AL_get 14 = .ok (.areturn, 1) := by decide +kernel
abbrev c_AL_rangeCheckForAdd : ByteArray := prog_35_method_45_code
abbrev y_AL_rangeCheckForAdd : MethodName := ⟨"java/util/ArrayList", "rangeCheckForAdd", "(I)V"⟩
theorem d_AL_rangeCheckForAdd_0 : decode c_AL_rangeCheckForAdd 0 = .ok (.iload_n 1, 1) := by decide +kernel
theorem d_AL_rangeCheckForAdd_1 : decode c_AL_rangeCheckForAdd 1 = .ok (.aload_n 0, 1) := by decide +kernel
theorem d_AL_rangeCheckForAdd_2 : decode c_AL_rangeCheckForAdd 2 = .ok (.getfield 48, 3) := by decide +kernel
theorem d_AL_rangeCheckForAdd_5 : decode c_AL_rangeCheckForAdd 5 = .ok (.if_icmp .gt 7, 3) := by decide +kernel
theorem d_AL_rangeCheckForAdd_8 : decode c_AL_rangeCheckForAdd 8 = .ok (.iload_n 1, 1) := by decide +kernel
theorem d_AL_rangeCheckForAdd_9 : decode c_AL_rangeCheckForAdd 9 = .ok (.ifCond .ge 16, 3) := by decide +kernel
theorem d_AL_rangeCheckForAdd_12 : decode c_AL_rangeCheckForAdd 12 = .ok (.new 187, 3) := by decide +kernel
theorem d_AL_rangeCheckForAdd_15 : decode c_AL_rangeCheckForAdd 15 = .ok (.dup, 1) := by decide +kernel
theorem d_AL_rangeCheckForAdd_16 : decode c_AL_rangeCheckForAdd 16 = .ok (.aload_n 0, 1) := by decide +kernel
theorem d_AL_rangeCheckForAdd_17 : decode c_AL_rangeCheckForAdd 17 = .ok (.iload_n 1, 1) := by decide +kernel
theorem d_AL_rangeCheckForAdd_18 : decode c_AL_rangeCheckForAdd 18 = .ok (.invokevirtual 198, 3) := by decide +kernel
theorem d_AL_rangeCheckForAdd_21 : decode c_AL_rangeCheckForAdd 21 = .ok (.invokespecial 193, 3) := by decide +kernel
theorem d_AL_rangeCheckForAdd_24 : decode c_AL_rangeCheckForAdd 24 = .ok (.athrow, 1) := by decide +kernel
theorem d_AL_rangeCheckForAdd_25 : decode c_AL_rangeCheckForAdd 25 = .ok (.return_, 1) := by decide +kernel
abbrev c_As_newLength : ByteArray := prog_43_method_27_code
abbrev y_As_newLength : MethodName := ⟨"jdk/internal/util/ArraysSupport", "newLength", "(III)I"⟩
theorem d_As_newLength_0 : decode c_As_newLength 0 = .ok (.iload_n 0, 1) := by decide +kernel
theorem d_As_newLength_1 : decode c_As_newLength 1 = .ok (.iload_n 1, 1) := by decide +kernel
theorem d_As_newLength_2 : decode c_As_newLength 2 = .ok (.iload_n 2, 1) := by decide +kernel
theorem d_As_newLength_3 : decode c_As_newLength 3 = .ok (.invokestatic 194, 3) := by decide +kernel
theorem d_As_newLength_6 : decode c_As_newLength 6 = .ok (.iadd, 1) := by decide +kernel
theorem d_As_newLength_7 : decode c_As_newLength 7 = .ok (.istore_n 3, 1) := by decide +kernel
theorem d_As_newLength_8 : decode c_As_newLength 8 = .ok (.iconst 0, 1) := by decide +kernel
theorem d_As_newLength_9 : decode c_As_newLength 9 = .ok (.iload_n 3, 1) := by decide +kernel
theorem d_As_newLength_10 : decode c_As_newLength 10 = .ok (.if_icmp .ge 11, 3) := by decide +kernel
theorem d_As_newLength_13 : decode c_As_newLength 13 = .ok (.iload_n 3, 1) := by decide +kernel
theorem d_As_newLength_14 : decode c_As_newLength 14 = .ok (.ldc 200, 2) := by decide +kernel
theorem d_As_newLength_16 : decode c_As_newLength 16 = .ok (.if_icmp .gt 5, 3) := by decide +kernel
theorem d_As_newLength_19 : decode c_As_newLength 19 = .ok (.iload_n 3, 1) := by decide +kernel
theorem d_As_newLength_20 : decode c_As_newLength 20 = .ok (.ireturn, 1) := by decide +kernel
theorem d_As_newLength_21 : decode c_As_newLength 21 = .ok (.iload_n 0, 1) := by decide +kernel
theorem d_As_newLength_22 : decode c_As_newLength 22 = .ok (.iload_n 1, 1) := by decide +kernel
theorem d_As_newLength_23 : decode c_As_newLength 23 = .ok (.invokestatic 201, 3) := by decide +kernel
theorem d_As_newLength_26 : decode c_As_newLength 26 = .ok (.ireturn, 1) := by decide +kernel
abbrev rm_Pr_checkIndex : Room := { frames := 0, cells := 0, slots := 0, locals := 0 }
set_option maxHeartbeats 4000000 in
set_option maxRecDepth 100000 in
theorem t_Pr_checkIndex (l : Launch) (E : zc_E) (G : zg_G) (i n : Nat) (hi : i < n) (hn : n < 2 ^ 31) : zMi l E y_Pr_checkIndex c_Pr_checkIndex 3 (some .int) rm_Pr_checkIndex [.int (nI i), .int (nI n), .null] G (fun (r : Int32) (G2 : zg_G) => r = nI i ∧ G2 = G) := by
  refine zMi.of (by decide) (Nat.le_of_ble_eq_true rfl) ?_
  intro p e s m args below meth c Q hZ hG hret ls hl
  obtain ⟨hx, hb, hr, hts, hown, hlocks, hml, hnm, hbase, hK, hN, hQ⟩ := hZ
  have hl : lv_has ls 3 [(0, .int (nI i)), (1, .int (nI n)), (2, .null)] := hl
  have hS : zg_S (zc_b E) s.heap s.heap [] := va_S.rf
  refine lv_iload_n hx hb d_Pr_checkIndex_0 rfl (lv_at hl 0 rfl) ?_
  refine lv_if_lt (tgt := 9) hx hb d_Pr_checkIndex_1 (by decide) (fun c1 => ?_) (fun c1 => ?_)
  · have b1 : i < 0 := (nI_ltI (a := i) (b := 0) (by omega) (by omega)).mp c1
    exact absurd b1 (by omega)
  · have b1 : ¬ i < 0 := fun q => c1 ((nI_ltI (a := i) (b := 0) (by omega) (by omega)).mpr q)
    refine lv_iload_n hx hb d_Pr_checkIndex_4 rfl (lv_at hl 0 rfl) ?_
    refine lv_iload_n hx hb d_Pr_checkIndex_5 rfl (lv_at hl 1 rfl) ?_
    refine lv_icmp_lt (tgt := 16) hx hb d_Pr_checkIndex_6 (by decide) (fun c6 => ?_) (fun c6 => ?_)
    · have b6 : i < n := (nI_ltI (a := i) (b := n) (by omega) (by omega)).mp c6
      refine lv_iload_n hx hb d_Pr_checkIndex_16 rfl (lv_at hl 0 rfl) ?_
      exact hret _ _ _ _ _ _ _ _ _ hr (rfl) (⟨rfl, rfl⟩) hG hS (Nat.le_refl _) (Nat.le_refl _) d_Pr_checkIndex_17
    · have b6 : ¬ i < n := fun q => c6 ((nI_ltI (a := i) (b := n) (by omega) (by omega)).mpr q)
      exact absurd hi b6
abbrev rm_Ob_checkIndex : Room := { frames := 1, cells := 0, slots := 0, locals := 22 }
set_option maxHeartbeats 4000000 in
set_option maxRecDepth 100000 in
theorem t_Ob_checkIndex (l : Launch) (E : zc_E) (G : zg_G) (i n : Nat) (hi : i < n) (hn : n < 2 ^ 31) : zMi l E y_Ob_checkIndex c_Ob_checkIndex 2 (some .int) rm_Ob_checkIndex [.int (nI i), .int (nI n)] G (fun (r : Int32) (G2 : zg_G) => r = nI i ∧ G2 = G) := by
  refine zMi.of (by decide) (Nat.le_of_ble_eq_true rfl) ?_
  intro p e s m args below meth c Q hZ hG hret ls hl
  obtain ⟨hx, hb, hr, hts, hown, hlocks, hml, hnm, hbase, hK, hN, hQ⟩ := hZ
  have hl : lv_has ls 2 [(0, .int (nI i)), (1, .int (nI n))] := hl
  have hS : zg_S (zc_b E) s.heap s.heap [] := va_S.rf
  refine lv_iload_n hx hb d_Ob_checkIndex_0 rfl (lv_at hl 0 rfl) ?_
  refine lv_iload_n hx hb d_Ob_checkIndex_1 rfl (lv_at hl 1 rfl) ?_
  refine lv_null hx hb d_Ob_checkIndex_2 ?_
  refine zk_i (va_runS (As := [.int (nI i), .int (nI n), .null]) (rest := []) ⟨hx, hb, hml, hown, hts⟩ (t_Pr_checkIndex l E G i n hi hn) (zcS 3 hts w_170 w_171 w_10 w_172 (by decide +kernel) ⟨Nat.le_of_ble_eq_true rfl, Nat.le_of_ble_eq_true rfl⟩) (zc_pre hbase hK hN hQ hG hS) rfl rfl hl.1 rfl (lv_room (Nat.le_of_ble_eq_true rfl)) d_Ob_checkIndex_3 ⟨(by decide), (by decide)⟩) hS (fun r3 G3 H locs hp3 hG hS => ?_)
  have hG : zP E G H := hp3.2 ▸ hG
  refine zi_as (y := nI i) hp3.1 ?_
  exact hret _ _ _ _ _ _ _ _ _ hr (rfl) (⟨rfl, rfl⟩) hG hS (Nat.le_refl _) (Nat.le_refl _) d_Ob_checkIndex_6
abbrev rm_AL_elementData : Room := { frames := 0, cells := 0, slots := 0, locals := 0 }
set_option maxHeartbeats 4000000 in
set_option maxRecDepth 100000 in
theorem t_AL_elementData (l : Launch) (E : zc_E) (G : zg_G) (a dd n cap : Nat) (k : Int32) (f : Nat → Option Nat) (ha : G a = some (.inr (0, [.ref dd, .int (nI n), .int k]))) (hd : G dd = some (.inl (E.2.1 3, cap, .inr (.inr (.inr (.inr f)))))) (hc : n ≤ cap) (hz : cap < 2 ^ 24) (i : Nat) (hi : i < n) : zMq l E y_AL_elementData c_AL_elementData 2 (some (.object "java/lang/Object")) rm_AL_elementData [.ref a, .int (nI i)] G (fun (r : Option Nat) (G2 : zg_G) => r = f i ∧ G2 = G) := by
  refine zMq.of (by decide) (Nat.le_of_ble_eq_true rfl) ?_
  intro p e s m args below meth c Q hZ hG hret ls hl
  obtain ⟨hx, hb, hr, hts, hown, hlocks, hml, hnm, hbase, hK, hN, hQ⟩ := hZ
  have hl : lv_has ls 2 [(0, .ref a), (1, .int (nI i))] := hl
  have hS : zg_S (zc_b E) s.heap s.heap [] := va_S.rf
  refine lv_aload_n hx hb d_AL_elementData_0 rfl (lv_at hl 0 rfl) ?_
  refine zg_get (ci := 0) (C := "java/util/ArrayList") (T := T_AL) (N := 3) hx hb hts zi_AL hown hK hG ha rfl 0 (by decide) (hts _ w_79) (fun _ h9 => h9) rfl d_AL_elementData_1 ?_
  refine lv_iload_n hx hb d_AL_elementData_4 rfl (lv_at hl 1 rfl) ?_
  refine zg_aldq hx hb hK hG 3 hd rfl (vp_in_nI (by omega) (by omega)) d_AL_elementData_5 ?_
  refine zr_as (y := f i) (by rw [zi_n _ (by omega)]) ?_
  exact hret _ _ _ _ _ _ _ _ _ hr (Or.inl ⟨_, rfl⟩) (⟨rfl, rfl⟩) hG hS (Nat.le_refl _) (Nat.le_refl _) d_AL_elementData_6
abbrev rm_AL_get : Room := { frames := 2, cells := 0, slots := 0, locals := 44 }
set_option maxHeartbeats 4000000 in
set_option maxRecDepth 100000 in
/-- ArrayList.get(i) -/
theorem t_AL_get (l : Launch) (E : zc_E) (G : zg_G) (a dd n cap : Nat) (k : Int32) (f : Nat → Option Nat) (ha : G a = some (.inr (0, [.ref dd, .int (nI n), .int k]))) (hd : G dd = some (.inl (E.2.1 3, cap, .inr (.inr (.inr (.inr f)))))) (hc : n ≤ cap) (hz : cap < 2 ^ 24) (i : Nat) (hi : i < n) : zMq l E y_AL_get c_AL_get 2 (some (.object "java/lang/Object")) rm_AL_get [.ref a, .int (nI i)] G (fun (r : Option Nat) (G2 : zg_G) => r = f i ∧ G2 = G) := by
  refine zMq.of (by decide) (Nat.le_of_ble_eq_true rfl) ?_
  intro p e s m args below meth c Q hZ hG hret ls hl
  obtain ⟨hx, hb, hr, hts, hown, hlocks, hml, hnm, hbase, hK, hN, hQ⟩ := hZ
  have hl : lv_has ls 2 [(0, .ref a), (1, .int (nI i))] := hl
  have hS : zg_S (zc_b E) s.heap s.heap [] := va_S.rf
  refine lv_iload_n hx hb d_AL_get_0 rfl (lv_at hl 1 rfl) ?_
  refine lv_aload_n hx hb d_AL_get_1 rfl (lv_at hl 0 rfl) ?_
  refine zg_get (ci := 0) (C := "java/util/ArrayList") (T := T_AL) (N := 3) hx hb hts zi_AL hown hK hG ha rfl 1 (by decide) (hts _ w_80) (fun _ h9 => h9) rfl d_AL_get_2 ?_
  refine zk_i (va_runS (As := [.int (nI i), .int (nI n)]) (rest := []) ⟨hx, hb, hml, hown, hts⟩ (t_Ob_checkIndex l E G i n hi (by omega)) (zcS 2 hts w_167 w_168 w_9 w_169 (by decide +kernel) ⟨Nat.le_of_ble_eq_true rfl, Nat.le_of_ble_eq_true rfl⟩) (zc_pre hbase hK hN hQ hG hS) rfl rfl hl.1 rfl (lv_room (Nat.le_of_ble_eq_true rfl)) d_AL_get_5 ⟨(by decide), (by decide)⟩) hS (fun r5 G5 H locs hp5 hG hS => ?_)
  have hG : zP E G H := hp5.2 ▸ hG
  refine zi_as (y := nI i) hp5.1 ?_
  refine lv_pop hx hb d_AL_get_8 rfl ?_
  refine lv_aload_n hx hb d_AL_get_9 rfl (lv_at hl 0 rfl) ?_
  refine lv_iload_n hx hb d_AL_get_10 rfl (lv_at hl 1 rfl) ?_
  have hGo11 := hG
  refine zk_q (va_runV (As := [.int (nI i)]) (rest := []) ⟨hx, hb, hml, hown, hts⟩ (t_AL_elementData l E G a dd n cap k f ha hd hc hz i hi) (zcV 1 hts w_173 w_174 w_175 w_6 w_176 (by decide +kernel) ⟨Nat.le_of_ble_eq_true rfl, Nat.le_of_ble_eq_true rfl⟩) (zc_preV hbase hK hN hQ hG hS ha rfl) rfl rfl hl.1 rfl (lv_room (Nat.le_of_ble_eq_true rfl)) d_AL_get_11 ⟨(by decide), (by decide)⟩) hS (fun r11 G11 H locs hp11 hG hS => ?_)
  have hG : zP E G H := hp11.2 ▸ hG
  refine zr_as (y := f i) hp11.1 ?_
  exact hret _ _ _ _ _ _ _ _ _ hr (Or.inl ⟨_, rfl⟩) (⟨rfl, rfl⟩) hG hS (Nat.le_refl _) (Nat.le_refl _) d_AL_get_14
abbrev rm_AL_rangeCheckForAdd : Room := { frames := 0, cells := 0, slots := 0, locals := 0 }
set_option maxHeartbeats 4000000 in
set_option maxRecDepth 100000 in
theorem t_AL_rangeCheckForAdd (l : Launch) (E : zc_E) (G : zg_G) (a : Nat) (n i : Nat) (dv : Value) (k : Int32) (ha : G a = some (.inr (0, [dv, .int (nI n), .int k]))) (hi : i ≤ n) (hn : n < 2 ^ 31) : zMv l E y_AL_rangeCheckForAdd c_AL_rangeCheckForAdd 2 rm_AL_rangeCheckForAdd [.ref a, .int (nI i)] G (fun (G2 : zg_G) => G2 = G) := by
  refine zMv.of (by decide) (Nat.le_of_ble_eq_true rfl) ?_
  intro p e s m args below meth c Q hZ hG hret ls hl
  obtain ⟨hx, hb, hr, hts, hown, hlocks, hml, hnm, hbase, hK, hN, hQ⟩ := hZ
  have hl : lv_has ls 2 [(0, .ref a), (1, .int (nI i))] := hl
  have hS : zg_S (zc_b E) s.heap s.heap [] := va_S.rf
  refine lv_iload_n hx hb d_AL_rangeCheckForAdd_0 rfl (lv_at hl 1 rfl) ?_
  refine lv_aload_n hx hb d_AL_rangeCheckForAdd_1 rfl (lv_at hl 0 rfl) ?_
  refine zg_get (ci := 0) (C := "java/util/ArrayList") (T := T_AL) (N := 3) hx hb hts zi_AL hown hK hG ha rfl 1 (by decide) (hts _ w_80) (fun _ h9 => h9) rfl d_AL_rangeCheckForAdd_2 ?_
  refine lv_icmp_gt (tgt := 12) hx hb d_AL_rangeCheckForAdd_5 (by decide) (fun c5 => ?_) (fun c5 => ?_)
  · have b5 : n < i := (nI_ltI (a := n) (b := i) (by omega) (by omega)).mp c5
    exact absurd b5 (by omega)
  · have b5 : ¬ n < i := fun q => c5 ((nI_ltI (a := n) (b := i) (by omega) (by omega)).mpr q)
    refine lv_iload_n hx hb d_AL_rangeCheckForAdd_8 rfl (lv_at hl 1 rfl) ?_
    refine lv_if_ge (tgt := 25) hx hb d_AL_rangeCheckForAdd_9 (by decide) (fun c9 => ?_) (fun c9 => ?_)
    · have b9 : 0 ≤ i := (nI_leI (a := 0) (b := i) (by omega) (by omega)).mp c9
      exact hret _ _ _ _ _ _ _ (rfl) hG hS (Nat.le_refl _) (Nat.le_refl _) d_AL_rangeCheckForAdd_25
    · have b9 : ¬ 0 ≤ i := fun q => c9 ((nI_leI (a := 0) (b := i) (by omega) (by omega)).mpr q)
      exact absurd (Nat.zero_le _) b9
abbrev rm_As_newLength : Room := { frames := 1, cells := 0, slots := 0, locals := 20 }
set_option maxHeartbeats 4000000 in
set_option maxRecDepth 100000 in
/-- ArraysSupport.newLength -/
theorem t_As_newLength (l : Launch) (E : zc_E) (G : zg_G) (o mg pg : Nat) (h4 : 1 ≤ mg) (h1 : o < 2 ^ 27) (h2 : mg < 2 ^ 27) (h3 : pg < 2 ^ 27) : zMi l E y_As_newLength c_As_newLength 4 (some .int) rm_As_newLength [.int (nI o), .int (nI mg), .int (nI pg)] G (fun (r : Int32) (G2 : zg_G) => r = nI (o + max mg pg) ∧ G2 = G) := by
  refine zMi.of (by decide) (Nat.le_of_ble_eq_true rfl) ?_
  intro p e s m args below meth c Q hZ hG hret ls hl
  obtain ⟨hx, hb, hr, hts, hown, hlocks, hml, hnm, hbase, hK, hN, hQ⟩ := hZ
  have hl : lv_has ls 4 [(0, .int (nI o)), (1, .int (nI mg)), (2, .int (nI pg))] := hl
  have hS : zg_S (zc_b E) s.heap s.heap [] := va_S.rf
  refine lv_iload_n hx hb d_As_newLength_0 rfl (lv_at hl 0 rfl) ?_
  refine lv_iload_n hx hb d_As_newLength_1 rfl (lv_at hl 1 rfl) ?_
  refine lv_iload_n hx hb d_As_newLength_2 rfl (lv_at hl 2 rfl) ?_
  refine va_mmax hx hb (hml.trans hl.1.symm) hown (hts _ w_329) (hts _ w_330) (hts _ w_11) (hts _ w_331) (Nat.le_of_ble_eq_true rfl) (Nat.le_of_ble_eq_true rfl) (by decide) (by decide) d_As_newLength_3 ?_
  refine zi_as (y := nI (max mg pg)) (zi_max (by omega) (by omega)) ?_
  refine lv_iadd hx hb d_As_newLength_6 ?_
  refine zi_as (y := nI (o + (max mg pg))) (nI_add o (max mg pg)) ?_
  refine lv_istore_n (lv' := [(3, .int (nI (o + (max mg pg)))), (0, .int (nI o)), (1, .int (nI mg)), (2, .int (nI pg))]) hx hb d_As_newLength_7 rfl hl (by decide) rfl (fun ls hl => ?_)
  refine lv_iconst (v := 0) hx hb d_As_newLength_8 (by decide) ?_
  refine lv_iload_n hx hb d_As_newLength_9 rfl (lv_at hl 0 rfl) ?_
  refine lv_icmp_ge (tgt := 21) hx hb d_As_newLength_10 (by decide) (fun c10 => ?_) (fun c10 => ?_)
  · have b10 : (o + (max mg pg)) ≤ 0 := (nI_leI (a := (o + (max mg pg))) (b := 0) (by omega) (by omega)).mp c10
    exact absurd b10 (by omega)
  · have b10 : ¬ (o + (max mg pg)) ≤ 0 := fun q => c10 ((nI_leI (a := (o + (max mg pg))) (b := 0) (by omega) (by omega)).mpr q)
    refine lv_iload_n hx hb d_As_newLength_13 rfl (lv_at hl 0 rfl) ?_
    refine lv_ldc hx hb hown (hts _ w_332) d_As_newLength_14 ?_
    refine lv_icmp_gt (tgt := 21) hx hb d_As_newLength_16 (by decide) (fun c16 => ?_) (fun c16 => ?_)
    · have b16 : 2147483639 < (o + (max mg pg)) := (nI_ltI (a := 2147483639) (b := (o + (max mg pg))) (by omega) (by omega)).mp c16
      exact absurd b16 (by omega)
    · have b16 : ¬ 2147483639 < (o + (max mg pg)) := fun q => c16 ((nI_ltI (a := 2147483639) (b := (o + (max mg pg))) (by omega) (by omega)).mpr q)
      refine lv_iload_n hx hb d_As_newLength_19 rfl (lv_at hl 0 rfl) ?_
      exact hret _ _ _ _ _ _ _ _ _ hr (rfl) (⟨rfl, rfl⟩) hG hS (Nat.le_refl _) (Nat.le_refl _) d_As_newLength_20
