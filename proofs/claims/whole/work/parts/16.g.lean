theorem w_21 : (.initialized "jdk/internal/util/ArraysSupport" : Cond) ∈ zw := zw_at 21 (by decide +kernel) (by decide +kernel)
theorem w_22 : (.initialized "java/util/Arrays" : Cond) ∈ zw := zw_at 22 (by decide +kernel) (by decide +kernel)
theorem w_23 : (.initialized "java/lang/System" : Cond) ∈ zw := zw_at 23 (by decide +kernel) (by decide +kernel)
theorem w_82 : (.fieldLink "java/util/ArrayList" 63 "java/util/ArrayList" "modCount" "I" : Cond) ∈ zw := zw_at 82 (by decide +kernel) (by decide +kernel)
theorem w_83 : (.sameField "java/util/ArrayList" "java/util/AbstractList" "modCount" "I" : Cond) ∈ zw := zw_at 83 (by decide +kernel) (by decide +kernel)
theorem w_183 : (.static ⟨"java/lang/Math", "min", "(II)I"⟩ : Cond) ∈ zw := zw_at 183 (by decide +kernel) (by decide +kernel)
theorem w_184 : (.code ⟨"java/lang/Math", "min", "(II)I"⟩ prog_24_method_69_code 2 (some .int) : Cond) ∈ zw := zw_at 184 (by decide +kernel) (by decide +kernel)
theorem w_327 : (.static ⟨"jdk/internal/util/ArraysSupport", "newLength", "(III)I"⟩ : Cond) ∈ zw := zw_at 327 (by decide +kernel) (by decide +kernel)
theorem w_328 : (.code ⟨"jdk/internal/util/ArraysSupport", "newLength", "(III)I"⟩ prog_43_method_27_code 4 (some .int) : Cond) ∈ zw := zw_at 328 (by decide +kernel) (by decide +kernel)
theorem w_347 : (.methodLink "java/util/Arrays" 304 ⟨"java/lang/Math", "min", "(II)I"⟩ : Cond) ∈ zw := zw_at 347 (by decide +kernel) (by decide +kernel)
theorem w_348 : (.methodLink "java/util/Arrays" 150 ⟨"java/lang/System", "arraycopy", "(Ljava/lang/Object;ILjava/lang/Object;II)V"⟩ : Cond) ∈ zw := zw_at 348 (by decide +kernel) (by decide +kernel)
theorem w_349 : (.static ⟨"java/lang/System", "arraycopy", "(Ljava/lang/Object;ILjava/lang/Object;II)V"⟩ : Cond) ∈ zw := zw_at 349 (by decide +kernel) (by decide +kernel)
theorem w_350 : (.native ⟨"java/lang/System", "arraycopy", "(Ljava/lang/Object;ILjava/lang/Object;II)V"⟩ : Cond) ∈ zw := zw_at 350 (by decide +kernel) (by decide +kernel)
theorem w_565 : (.methodLink "java/util/ArrayList" 73 ⟨"jdk/internal/util/ArraysSupport", "newLength", "(III)I"⟩ : Cond) ∈ zw := zw_at 565 (by decide +kernel) (by decide +kernel)
theorem w_566 : (.methodLink "java/util/ArrayList" 66 ⟨"java/util/Arrays", "copyOf", "([Ljava/lang/Object;I)[Ljava/lang/Object;"⟩ : Cond) ∈ zw := zw_at 566 (by decide +kernel) (by decide +kernel)
theorem w_567 : (.static ⟨"java/util/Arrays", "copyOf", "([Ljava/lang/Object;I)[Ljava/lang/Object;"⟩ : Cond) ∈ zw := zw_at 567 (by decide +kernel) (by decide +kernel)
theorem w_568 : (.code ⟨"java/util/Arrays", "copyOf", "([Ljava/lang/Object;I)[Ljava/lang/Object;"⟩ prog_36_method_119_code 2 (some (.array (.object "java/lang/Object"))) : Cond) ∈ zw := zw_at 568 (by decide +kernel) (by decide +kernel)
theorem w_569 : (.methodLink "java/util/Arrays" 86 ⟨"java/lang/Object", "getClass", "()Ljava/lang/Class;"⟩ : Cond) ∈ zw := zw_at 569 (by decide +kernel) (by decide +kernel)
theorem w_570 : (.instanceMethod ⟨"java/lang/Object", "getClass", "()Ljava/lang/Class;"⟩ : Cond) ∈ zw := zw_at 570 (by decide +kernel) (by decide +kernel)
theorem w_592 : (.native ⟨"java/lang/Object", "getClass", "()Ljava/lang/Class;"⟩ : Cond) ∈ zw := zw_at 592 (by decide +kernel) (by decide +kernel)
theorem w_593 : (.methodLink "java/util/Arrays" 300 ⟨"java/util/Arrays", "copyOf", "([Ljava/lang/Object;ILjava/lang/Class;)[Ljava/lang/Object;"⟩ : Cond) ∈ zw := zw_at 593 (by decide +kernel) (by decide +kernel)
theorem w_594 : (.static ⟨"java/util/Arrays", "copyOf", "([Ljava/lang/Object;ILjava/lang/Class;)[Ljava/lang/Object;"⟩ : Cond) ∈ zw := zw_at 594 (by decide +kernel) (by decide +kernel)
theorem w_595 : (.code ⟨"java/util/Arrays", "copyOf", "([Ljava/lang/Object;ILjava/lang/Class;)[Ljava/lang/Object;"⟩ prog_36_method_120_code 4 (some (.array (.object "java/lang/Object"))) : Cond) ∈ zw := zw_at 595 (by decide +kernel) (by decide +kernel)
theorem w_596 : (.classLink "java/util/Arrays" 110 "[Ljava/lang/Object;" : Cond) ∈ zw := zw_at 596 (by decide +kernel) (by decide +kernel)
theorem w_598 : (.classLink "java/util/Arrays" 2 "java/lang/Object" : Cond) ∈ zw := zw_at 598 (by decide +kernel) (by decide +kernel)
theorem w_599 : (.methodLink "java/util/ArrayList" 79 ⟨"java/lang/Math", "max", "(II)I"⟩ : Cond) ∈ zw := zw_at 599 (by decide +kernel) (by decide +kernel)
theorem w_600 : (.classLink "java/util/ArrayList" 7 "java/lang/Object" : Cond) ∈ zw := zw_at 600 (by decide +kernel) (by decide +kernel)
theorem w_1619 : (.selects "[Ljava/lang/Object;" ⟨"java/lang/Object", "getClass", "()Ljava/lang/Class;"⟩ ⟨"java/lang/Object", "getClass", "()Ljava/lang/Class;"⟩ : Cond) ∈ zw := zw_at 1619 (by decide +kernel) (by decide +kernel)
abbrev c_AL_clear : ByteArray := prog_35_method_40_code
abbrev y_AL_clear : MethodName := ⟨"java/util/ArrayList", "clear", "()V"⟩
theorem d_AL_clear_0 : decode c_AL_clear 0 = .ok (.aload_n 0, 1) := by decide +kernel
theorem d_AL_clear_1 : decode c_AL_clear 1 = .ok (.dup, 1) := by decide +kernel
theorem d_AL_clear_2 : decode c_AL_clear 2 = .ok (.getfield 63, 3) := by decide +kernel
theorem d_AL_clear_5 : decode c_AL_clear 5 = .ok (.iconst 1, 1) := by decide +kernel
theorem d_AL_clear_6 : decode c_AL_clear 6 = .ok (.iadd, 1) := by decide +kernel
theorem d_AL_clear_7 : decode c_AL_clear 7 = .ok (.putfield 63, 3) := by decide +kernel
theorem d_AL_clear_10 : decode c_AL_clear 10 = .ok (.aload_n 0, 1) := by decide +kernel
theorem d_AL_clear_11 : decode c_AL_clear 11 = .ok (.getfield 9, 3) := by decide +kernel
theorem d_AL_clear_14 : decode c_AL_clear 14 = .ok (.astore_n 1, 1) := by decide +kernel
theorem d_AL_clear_15 : decode c_AL_clear 15 = .ok (.aload_n 0, 1) := by decide +kernel
theorem d_AL_clear_16 : decode c_AL_clear 16 = .ok (.getfield 48, 3) := by decide +kernel
theorem d_AL_clear_19 : decode c_AL_clear 19 = .ok (.istore_n 2, 1) := by decide +kernel
theorem d_AL_clear_20 : decode c_AL_clear 20 = .ok (.aload_n 0, 1) := by decide +kernel
theorem d_AL_clear_21 : decode c_AL_clear 21 = .ok (.iconst 0, 1) := by decide +kernel
theorem d_AL_clear_22 : decode c_AL_clear 22 = .ok (.dup_x1, 1) := by decide +kernel
theorem d_AL_clear_23 : decode c_AL_clear 23 = .ok (.putfield 48, 3) := by decide +kernel
theorem d_AL_clear_26 : decode c_AL_clear 26 = .ok (.istore_n 3, 1) := by decide +kernel
theorem d_AL_clear_27 : decode c_AL_clear 27 = .ok (.iload_n 3, 1) := by decide +kernel
theorem d_AL_clear_28 : decode c_AL_clear 28 = .ok (.iload_n 2, 1) := by decide +kernel
theorem d_AL_clear_29 : decode c_AL_clear 29 = .ok (.if_icmp .ge 13, 3) := by decide +kernel
theorem d_AL_clear_32 : decode c_AL_clear 32 = .ok (.aload_n 1, 1) := by decide +kernel
theorem d_AL_clear_33 : decode c_AL_clear 33 = .ok (.iload_n 3, 1) := by decide +kernel
theorem d_AL_clear_34 : decode c_AL_clear 34 = .ok (.aconst_null, 1) := by decide +kernel
theorem d_AL_clear_35 : decode c_AL_clear 35 = .ok (.aastore, 1) := by decide +kernel
theorem d_AL_clear_36 : decode c_AL_clear 36 = .ok (.iinc 3 1, 3) := by decide +kernel
theorem d_AL_clear_39 : decode c_AL_clear 39 = .ok (.goto (-12), 3) := by decide +kernel
theorem d_AL_clear_42 : decode c_AL_clear 42 = .ok (.return_, 1) := by decide +kernel
abbrev c_Ar_copyOf_3 : ByteArray := prog_36_method_120_code
abbrev y_Ar_copyOf_3 : MethodName := ⟨"java/util/Arrays", "copyOf", "([Ljava/lang/Object;ILjava/lang/Class;)[Ljava/lang/Object;"⟩
theorem d_Ar_copyOf_3_0 : decode c_Ar_copyOf_3 0 = .ok (.aload_n 2, 1) := by decide +kernel
theorem d_Ar_copyOf_3_1 : decode c_Ar_copyOf_3 1 = .ok (.ldc 110, 2) := by decide +kernel
theorem d_Ar_copyOf_3_3 : decode c_Ar_copyOf_3 3 = .ok (.if_acmp .ne 10, 3) := by decide +kernel
theorem d_Ar_copyOf_3_6 : decode c_Ar_copyOf_3 6 = .ok (.iload_n 1, 1) := by decide +kernel
theorem d_Ar_copyOf_3_7 : decode c_Ar_copyOf_3 7 = .ok (.anewarray 2, 3) := by decide +kernel
theorem d_Ar_copyOf_3_10 : decode c_Ar_copyOf_3 10 = .ok (.goto 14, 3) := by decide +kernel
theorem d_Ar_copyOf_3_13 : decode c_Ar_copyOf_3 13 = .ok (.aload_n 2, 1) := by decide +kernel
theorem d_Ar_copyOf_3_14 : decode c_Ar_copyOf_3 14 = .ok (.invokevirtual 90, 3) := by decide +kernel
theorem d_Ar_copyOf_3_17 : decode c_Ar_copyOf_3 17 = .ok (.iload_n 1, 1) := by decide +kernel
theorem d_Ar_copyOf_3_18 : decode c_Ar_copyOf_3 18 = .ok (.invokestatic 95, 3) := by decide +kernel
theorem d_Ar_copyOf_3_21 : decode c_Ar_copyOf_3 21 = .ok (.checkcast 110, 3) := by decide +kernel
theorem d_Ar_copyOf_3_24 : decode c_Ar_copyOf_3 24 = .ok (.astore_n 3, 1) := by decide +kernel
theorem d_Ar_copyOf_3_25 : decode c_Ar_copyOf_3 25 = .ok (.aload_n 0, 1) := by decide +kernel
theorem d_Ar_copyOf_3_26 : decode c_Ar_copyOf_3 26 = .ok (.iconst 0, 1) := by decide +kernel
theorem d_Ar_copyOf_3_27 : decode c_Ar_copyOf_3 27 = .ok (.aload_n 3, 1) := by decide +kernel
theorem d_Ar_copyOf_3_28 : decode c_Ar_copyOf_3 28 = .ok (.iconst 0, 1) := by decide +kernel
theorem d_Ar_copyOf_3_29 : decode c_Ar_copyOf_3 29 = .ok (.aload_n 0, 1) := by decide +kernel
theorem d_Ar_copyOf_3_30 : decode c_Ar_copyOf_3 30 = .ok (.arraylength, 1) := by decide +kernel
theorem d_Ar_copyOf_3_31 : decode c_Ar_copyOf_3 31 = .ok (.iload_n 1, 1) := by decide +kernel
theorem d_Ar_copyOf_3_32 : decode c_Ar_copyOf_3 32 = .ok (.invokestatic 304, 3) := by decide +kernel
theorem d_Ar_copyOf_3_35 : decode c_Ar_copyOf_3 35 = .ok (.invokestatic 150, 3) := by decide +kernel
theorem d_Ar_copyOf_3_38 : decode c_Ar_copyOf_3 38 = .ok (.aload_n 3, 1) := by decide +kernel
theorem d_Ar_copyOf_3_39 : decode c_Ar_copyOf_3 39 = .ok (.areturn, 1) := by decide +kernel
abbrev c_Ar_copyOf_2 : ByteArray := prog_36_method_119_code
abbrev y_Ar_copyOf_2 : MethodName := ⟨"java/util/Arrays", "copyOf", "([Ljava/lang/Object;I)[Ljava/lang/Object;"⟩
theorem d_Ar_copyOf_2_0 : decode c_Ar_copyOf_2 0 = .ok (.aload_n 0, 1) := by decide +kernel
theorem d_Ar_copyOf_2_1 : decode c_Ar_copyOf_2 1 = .ok (.iload_n 1, 1) := by decide +kernel
theorem d_Ar_copyOf_2_2 : decode c_Ar_copyOf_2 2 = .ok (.aload_n 0, 1) := by decide +kernel
theorem d_Ar_copyOf_2_3 : decode c_Ar_copyOf_2 3 = .ok (.invokevirtual 86, 3) := by decide +kernel
theorem d_Ar_copyOf_2_6 : decode c_Ar_copyOf_2 6 = .ok (.invokestatic 300, 3) := by decide +kernel
theorem d_Ar_copyOf_2_9 : decode c_Ar_copyOf_2 9 = .ok (.areturn, 1) := by decide +kernel
abbrev c_AL_grow_2 : ByteArray := prog_35_method_6_code
abbrev y_AL_grow_2 : MethodName := ⟨"java/util/ArrayList", "grow", "(I)[Ljava/lang/Object;"⟩
theorem d_AL_grow_2_0 : decode c_AL_grow_2 0 = .ok (.aload_n 0, 1) := by decide +kernel
theorem d_AL_grow_2_1 : decode c_AL_grow_2 1 = .ok (.getfield 9, 3) := by decide +kernel
theorem d_AL_grow_2_4 : decode c_AL_grow_2 4 = .ok (.arraylength, 1) := by decide +kernel
theorem d_AL_grow_2_5 : decode c_AL_grow_2 5 = .ok (.istore_n 2, 1) := by decide +kernel
theorem d_AL_grow_2_6 : decode c_AL_grow_2 6 = .ok (.iload_n 2, 1) := by decide +kernel
theorem d_AL_grow_2_7 : decode c_AL_grow_2 7 = .ok (.ifCond .gt 13, 3) := by decide +kernel
theorem d_AL_grow_2_10 : decode c_AL_grow_2 10 = .ok (.aload_n 0, 1) := by decide +kernel
theorem d_AL_grow_2_11 : decode c_AL_grow_2 11 = .ok (.getfield 9, 3) := by decide +kernel
theorem d_AL_grow_2_14 : decode c_AL_grow_2 14 = .ok (.getstatic 39, 3) := by decide +kernel
theorem d_AL_grow_2_17 : decode c_AL_grow_2 17 = .ok (.if_acmp .eq 28, 3) := by decide +kernel
theorem d_AL_grow_2_20 : decode c_AL_grow_2 20 = .ok (.iload_n 2, 1) := by decide +kernel
theorem d_AL_grow_2_21 : decode c_AL_grow_2 21 = .ok (.iload_n 1, 1) := by decide +kernel
theorem d_AL_grow_2_22 : decode c_AL_grow_2 22 = .ok (.iload_n 2, 1) := by decide +kernel
theorem d_AL_grow_2_23 : decode c_AL_grow_2 23 = .ok (.isub, 1) := by decide +kernel
theorem d_AL_grow_2_24 : decode c_AL_grow_2 24 = .ok (.iload_n 2, 1) := by decide +kernel
theorem d_AL_grow_2_25 : decode c_AL_grow_2 25 = .ok (.iconst 1, 1) := by decide +kernel
theorem d_AL_grow_2_26 : decode c_AL_grow_2 26 = .ok (.ishr, 1) := by decide +kernel
theorem d_AL_grow_2_27 : decode c_AL_grow_2 27 = .ok (.invokestatic 73, 3) := by decide +kernel
theorem d_AL_grow_2_30 : decode c_AL_grow_2 30 = .ok (.istore_n 3, 1) := by decide +kernel
theorem d_AL_grow_2_31 : decode c_AL_grow_2 31 = .ok (.aload_n 0, 1) := by decide +kernel
theorem d_AL_grow_2_32 : decode c_AL_grow_2 32 = .ok (.aload_n 0, 1) := by decide +kernel
theorem d_AL_grow_2_33 : decode c_AL_grow_2 33 = .ok (.getfield 9, 3) := by decide +kernel
theorem d_AL_grow_2_36 : decode c_AL_grow_2 36 = .ok (.iload_n 3, 1) := by decide +kernel
theorem d_AL_grow_2_37 : decode c_AL_grow_2 37 = .ok (.invokestatic 66, 3) := by decide +kernel
theorem d_AL_grow_2_40 : decode c_AL_grow_2 40 = .ok (.dup_x1, 1) := by decide +kernel
theorem d_AL_grow_2_41 : decode c_AL_grow_2 41 = .ok (.putfield 9, 3) := by decide +kernel
theorem d_AL_grow_2_44 : decode c_AL_grow_2 44 = .ok (.areturn, 1) := by decide +kernel
theorem d_AL_grow_2_45 : decode c_AL_grow_2 45 = .ok (.aload_n 0, 1) := by decide +kernel
theorem d_AL_grow_2_46 : decode c_AL_grow_2 46 = .ok (.bipush 10, 2) := by decide +kernel
theorem d_AL_grow_2_48 : decode c_AL_grow_2 48 = .ok (.iload_n 1, 1) := by decide +kernel
theorem d_AL_grow_2_49 : decode c_AL_grow_2 49 = .ok (.invokestatic 79, 3) := by decide +kernel
theorem d_AL_grow_2_52 : decode c_AL_grow_2 52 = .ok (.anewarray 7, 3) := by decide +kernel
theorem d_AL_grow_2_55 : decode c_AL_grow_2 55 = .ok (.dup_x1, 1) := by decide +kernel
theorem d_AL_grow_2_56 : decode c_AL_grow_2 56 = .ok (.putfield 9, 3) := by decide +kernel
theorem d_AL_grow_2_59 : decode c_AL_grow_2 59 = .ok (.areturn, 1) := by decide +kernel
abbrev rm_AL_clear : Room := { frames := 0, cells := 0, slots := 0, locals := 0 }
set_option maxHeartbeats 4000000 in
set_option maxRecDepth 100000 in
/-- ArrayList.clear(), of a list that has had an element -/
theorem t_AL_clear (l : Launch) (E : zc_E) (G : zg_G) (a dd n cap : Nat) (k : Int32) (f : Nat → Option Nat) (ha : G a = some (.inr (0, [.ref dd, .int (nI n), .int k]))) (hd : G dd = some (.inl (E.2.1 3, cap, .inr (.inr (.inr (.inr f)))))) (hc : n ≤ cap) (hz : cap < 2 ^ 24) : zMv l E y_AL_clear c_AL_clear 4 rm_AL_clear [.ref a] G (fun (G2 : zg_G) => zx (fun q => q = a ∨ q = dd) G G2 ∧ G2 a = some (.inr (0, [.ref dd, .int 0, .int (k + 1)])) ∧ ∃ f2, G2 dd = some (.inl (E.2.1 3, cap, .inr (.inr (.inr (.inr f2))))) ∧ ∀ j, f2 j = if j < n then none else f j) := by
  refine zMv.of (by decide) (Nat.le_of_ble_eq_true rfl) ?_
  intro p e s m args below meth c Q hZ hG hret ls hl
  obtain ⟨hx, hb, hr, hts, hown, hlocks, hml, hnm, hbase, hK, hN, hQ⟩ := hZ
  have hl : lv_has ls 4 [(0, .ref a)] := hl
  have hS : zg_S (zc_b E) s.heap s.heap [] := va_S.rf
  have hne : a ≠ dd := zg_ne ha hd (by intro h; cases h)
  have hx0 : zx (fun q => q = a ∨ q = dd) G G := zx.rf
  refine lv_aload_n hx hb d_AL_clear_0 rfl (lv_at hl 0 rfl) ?_
  refine lv_dup hx hb d_AL_clear_1 rfl ?_
  refine zg_get (ci := 0) (C := "java/util/ArrayList") (T := T_AL) (N := 3) hx hb hts zi_AL hown hK hG ha rfl 2 (by decide) (hts _ w_82) (u_same (hts _ w_83)) rfl d_AL_clear_2 ?_
  refine lv_iconst (v := 1) hx hb d_AL_clear_5 (by decide) ?_
  refine lv_iadd hx hb d_AL_clear_6 ?_
  refine zg_put (ci := 0) (v := .int (k + 1)) (ty := .int) (C := "java/util/ArrayList") (T := T_AL) (N := 3) hx hb hts zi_AL t_AL t_AL_ok n_AL hown hK hG hS ha rfl 2 (by decide) (hts _ w_82) (u_same (hts _ w_83)) rfl (by decide +kernel) rfl rfl (Nat.le_of_ble_eq_true rfl) d_AL_clear_7 (fun H locs hG hS => ?_)
  obtain ⟨G1, eG1⟩ : ∃ z : zg_G, z = zg_up G a (.inr (0, [.ref dd, .int (nI n), .int (k + 1)])) := ⟨_, rfl⟩
  have hG : zP E G1 H := by rw [eG1]; exact hG
  have hx2 : zx (fun q => q = a ∨ q = dd) G G1 := hx0.tr (by rw [eG1]; exact zx.up (Or.inl rfl))
  have k3 : G1 a = some (.inr (0, [.ref dd, .int (nI n), .int (k + 1)])) := by rw [eG1]; exact zg_up_self _ _ _
  have k4 : G1 dd = some (.inl (E.2.1 3, cap, .inr (.inr (.inr (.inr f))))) := by rw [eG1, zg_up_ne (Ne.symm hne)]; exact hd
  refine lv_aload_n hx hb d_AL_clear_10 rfl (lv_at hl 0 rfl) ?_
  refine zg_get (ci := 0) (C := "java/util/ArrayList") (T := T_AL) (N := 3) hx hb hts zi_AL hown hK hG k3 rfl 0 (by decide) (hts _ w_79) (fun _ h9 => h9) rfl d_AL_clear_11 ?_
  refine lv_astore_n (lv' := [(1, .ref dd), (0, .ref a)]) hx hb d_AL_clear_14 rfl hl (by decide) rfl (fun ls hl => ?_)
  refine lv_aload_n hx hb d_AL_clear_15 rfl (lv_at hl 1 rfl) ?_
  refine zg_get (ci := 0) (C := "java/util/ArrayList") (T := T_AL) (N := 3) hx hb hts zi_AL hown hK hG k3 rfl 1 (by decide) (hts _ w_80) (fun _ h9 => h9) rfl d_AL_clear_16 ?_
  refine lv_istore_n (lv' := [(2, .int (nI n)), (1, .ref dd), (0, .ref a)]) hx hb d_AL_clear_19 rfl hl (by decide) rfl (fun ls hl => ?_)
  refine lv_aload_n hx hb d_AL_clear_20 rfl (lv_at hl 2 rfl) ?_
  refine lv_iconst (v := 0) hx hb d_AL_clear_21 (by decide) ?_
  refine lv_dup_x1 hx hb d_AL_clear_22 rfl rfl ?_
  refine zg_put (ci := 0) (v := .int 0) (ty := .int) (C := "java/util/ArrayList") (T := T_AL) (N := 3) hx hb hts zi_AL t_AL t_AL_ok n_AL hown hK hG hS k3 rfl 1 (by decide) (hts _ w_80) (fun _ h9 => h9) rfl (by decide +kernel) rfl rfl (Nat.le_of_ble_eq_true rfl) d_AL_clear_23 (fun H locs hG hS => ?_)
  obtain ⟨G5, eG5⟩ : ∃ z : zg_G, z = zg_up G1 a (.inr (0, [.ref dd, .int 0, .int (k + 1)])) := ⟨_, rfl⟩
  have hG : zP E G5 H := by rw [eG5]; exact hG
  have hx6 : zx (fun q => q = a ∨ q = dd) G G5 := hx2.tr (by rw [eG5]; exact zx.up (Or.inl rfl))
  have k7 : G5 a = some (.inr (0, [.ref dd, .int 0, .int (k + 1)])) := by rw [eG5]; exact zg_up_self _ _ _
  have k8 : G5 dd = some (.inl (E.2.1 3, cap, .inr (.inr (.inr (.inr f))))) := by rw [eG5, zg_up_ne (Ne.symm hne)]; exact k4
  refine lv_istore_n (lv' := [(3, .int 0), (2, .int (nI n)), (1, .ref dd), (0, .ref a)]) hx hb d_AL_clear_26 rfl hl (by decide) rfl (fun ls hl => ?_)
  have loop27 : ∀ (N : Nat) (Gx : zg_G) (i : Nat) (f2 : Nat → Option Nat) (H : Heap) (locs : List Loc), (n - i) < N → (i ≤ n) → (∀ j, f2 j = if j < i then none else f j) → (Gx a = some (.inr (0, [.ref dd, .int 0, .int (k + 1)]))) → (Gx dd = some (.inl (E.2.1 3, cap, .inr (.inr (.inr (.inr f2)))))) → (zx (fun q => q = a ∨ q = dd) G Gx) → zP E Gx H → zg_S (zc_b E) s.heap H locs → ∀ (ls : Array Slot), lv_has ls 4 [(0, .ref a), (1, .ref dd), (2, .int (nI n)), (3, .int (nI i))] → W p l e rm_AL_clear s m args below meth c H locs 0 0 Q (F0 m 27 ls []) := by
    intro N
    induction N with
    | zero =>
      intro Gx i f2 H locs hlt
      exact absurd hlt (Nat.not_lt_zero _)
    | succ N ih =>
      intro Gx i f2 H locs hlt hi hf2 kk_a kk_dd hxl hG hS ls hl
      refine lv_iload_n hx hb d_AL_clear_27 rfl (lv_at hl 3 rfl) ?_
      refine lv_iload_n hx hb d_AL_clear_28 rfl (lv_at hl 2 rfl) ?_
      refine lv_icmp_ge (tgt := 42) hx hb d_AL_clear_29 (by decide) (fun c29 => ?_) (fun c29 => ?_)
      · have b29 : n ≤ i := (nI_leI (a := n) (b := i) (by omega) (by omega)).mp c29
        exact hret _ _ _ _ _ _ _ (⟨hxl, kk_a, f2, kk_dd, fun j => by rw [hf2 j, show i = n by omega]⟩) hG hS (Nat.le_refl _) (Nat.le_refl _) d_AL_clear_42
      · have b29 : ¬ n ≤ i := fun q => c29 ((nI_leI (a := n) (b := i) (by omega) (by omega)).mpr q)
        refine lv_aload_n hx hb d_AL_clear_32 rfl (lv_at hl 1 rfl) ?_
        refine lv_iload_n hx hb d_AL_clear_33 rfl (lv_at hl 3 rfl) ?_
        refine lv_null hx hb d_AL_clear_34 ?_
        refine zg_astqN hx hb hK hG hS 3 kk_dd rfl (vp_in_nI (by omega) (by omega)) d_AL_clear_35 (fun H locs hG hS => ?_)
        rw [zi_n i (by omega)] at hG
        obtain ⟨G9, eG9⟩ : ∃ z : zg_G, z = zg_up Gx dd (.inl (E.2.1 3, cap, .inr (.inr (.inr (.inr (va_up f2 i none)))))) := ⟨_, rfl⟩
        have hG : zP E G9 H := by rw [eG9]; exact hG
        have hx10 : zx (fun q => q = a ∨ q = dd) G G9 := hxl.tr (by rw [eG9]; exact zx.up (Or.inr rfl))
        have k11 : G9 a = some (.inr (0, [.ref dd, .int 0, .int (k + 1)])) := by rw [eG9, zg_up_ne (hne)]; exact kk_a
        have k12 : G9 dd = some (.inl (E.2.1 3, cap, .inr (.inr (.inr (.inr (va_up f2 i none)))))) := by rw [eG9]; exact zg_up_self _ _ _
        refine lv_iinc (v := nI (i + 1)) (lv' := [(3, .int (nI (i + 1))), (0, .ref a), (1, .ref dd), (2, .int (nI n))]) hx hb d_AL_clear_36 hl (k := 3) rfl (nI_add i 1) (by decide) rfl (fun ls hl => ?_)
        refine lv_goto (tgt := 27) hx hb d_AL_clear_39 (by decide) ?_
        exact ih G9 (i + 1) (va_up f2 i none) _ _ (by omega) (by omega) (zf_clr hf2) (k11) (k12) (hx10) hG hS ls (lv_sub hl [1, 2, 3, 0] rfl)
  exact loop27 _ G5 0 f _ _ (Nat.lt_succ_self _) (Nat.zero_le _) (fun j => by simp) (k7) (k8) (hx6) hG hS ls (lv_sub hl [3, 2, 1, 0] rfl)
set_option maxHeartbeats 4000000 in
set_option maxRecDepth 100000 in
/-- ArrayList.clear(), of a fresh list -/
theorem t_AL_clear_e (l : Launch) (E : zc_E) (G : zg_G) (a : Nat) (k : Int32) (ha : G a = some (.inr (0, [.ref (E.2.2.2 0), .int 0, .int k]))) : zMv l E y_AL_clear c_AL_clear 4 rm_AL_clear [.ref a] G (fun (G2 : zg_G) => zx (fun q => q = a) G G2 ∧ G2 a = some (.inr (0, [.ref (E.2.2.2 0), .int 0, .int (k + 1)]))) := by
  refine zMv.of (by decide) (Nat.le_of_ble_eq_true rfl) ?_
  intro p e s m args below meth c Q hZ hG hret ls hl
  obtain ⟨hx, hb, hr, hts, hown, hlocks, hml, hnm, hbase, hK, hN, hQ⟩ := hZ
  have hl : lv_has ls 4 [(0, .ref a)] := hl
  have hS : zg_S (zc_b E) s.heap s.heap [] := va_S.rf
  have hx0 : zx (fun q => q = a) G G := zx.rf
  refine lv_aload_n hx hb d_AL_clear_0 rfl (lv_at hl 0 rfl) ?_
  refine lv_dup hx hb d_AL_clear_1 rfl ?_
  refine zg_get (ci := 0) (C := "java/util/ArrayList") (T := T_AL) (N := 3) hx hb hts zi_AL hown hK hG ha rfl 2 (by decide) (hts _ w_82) (u_same (hts _ w_83)) rfl d_AL_clear_2 ?_
  refine lv_iconst (v := 1) hx hb d_AL_clear_5 (by decide) ?_
  refine lv_iadd hx hb d_AL_clear_6 ?_
  refine zg_put (ci := 0) (v := .int (k + 1)) (ty := .int) (C := "java/util/ArrayList") (T := T_AL) (N := 3) hx hb hts zi_AL t_AL t_AL_ok n_AL hown hK hG hS ha rfl 2 (by decide) (hts _ w_82) (u_same (hts _ w_83)) rfl (by decide +kernel) rfl rfl (Nat.le_of_ble_eq_true rfl) d_AL_clear_7 (fun H locs hG hS => ?_)
  obtain ⟨G1, eG1⟩ : ∃ z : zg_G, z = zg_up G a (.inr (0, [.ref (E.2.2.2 0), .int 0, .int (k + 1)])) := ⟨_, rfl⟩
  have hG : zP E G1 H := by rw [eG1]; exact hG
  have hx2 : zx (fun q => q = a) G G1 := hx0.tr (by rw [eG1]; exact zx.up (rfl))
  have k3 : G1 a = some (.inr (0, [.ref (E.2.2.2 0), .int 0, .int (k + 1)])) := by rw [eG1]; exact zg_up_self _ _ _
  refine lv_aload_n hx hb d_AL_clear_10 rfl (lv_at hl 0 rfl) ?_
  refine zg_get (ci := 0) (C := "java/util/ArrayList") (T := T_AL) (N := 3) hx hb hts zi_AL hown hK hG k3 rfl 0 (by decide) (hts _ w_79) (fun _ h9 => h9) rfl d_AL_clear_11 ?_
  refine lv_astore_n (lv' := [(1, .ref (E.2.2.2 0)), (0, .ref a)]) hx hb d_AL_clear_14 rfl hl (by decide) rfl (fun ls hl => ?_)
  refine lv_aload_n hx hb d_AL_clear_15 rfl (lv_at hl 1 rfl) ?_
  refine zg_get (ci := 0) (C := "java/util/ArrayList") (T := T_AL) (N := 3) hx hb hts zi_AL hown hK hG k3 rfl 1 (by decide) (hts _ w_80) (fun _ h9 => h9) rfl d_AL_clear_16 ?_
  refine lv_istore_n (lv' := [(2, .int 0), (1, .ref (E.2.2.2 0)), (0, .ref a)]) hx hb d_AL_clear_19 rfl hl (by decide) rfl (fun ls hl => ?_)
  refine lv_aload_n hx hb d_AL_clear_20 rfl (lv_at hl 2 rfl) ?_
  refine lv_iconst (v := 0) hx hb d_AL_clear_21 (by decide) ?_
  refine lv_dup_x1 hx hb d_AL_clear_22 rfl rfl ?_
  refine zg_put (ci := 0) (v := .int 0) (ty := .int) (C := "java/util/ArrayList") (T := T_AL) (N := 3) hx hb hts zi_AL t_AL t_AL_ok n_AL hown hK hG hS k3 rfl 1 (by decide) (hts _ w_80) (fun _ h9 => h9) rfl (by decide +kernel) rfl rfl (Nat.le_of_ble_eq_true rfl) d_AL_clear_23 (fun H locs hG hS => ?_)
  obtain ⟨G4, eG4⟩ : ∃ z : zg_G, z = zg_up G1 a (.inr (0, [.ref (E.2.2.2 0), .int 0, .int (k + 1)])) := ⟨_, rfl⟩
  have hG : zP E G4 H := by rw [eG4]; exact hG
  have hx5 : zx (fun q => q = a) G G4 := hx2.tr (by rw [eG4]; exact zx.up (rfl))
  have k6 : G4 a = some (.inr (0, [.ref (E.2.2.2 0), .int 0, .int (k + 1)])) := by rw [eG4]; exact zg_up_self _ _ _
  refine lv_istore_n (lv' := [(3, .int 0), (2, .int 0), (1, .ref (E.2.2.2 0)), (0, .ref a)]) hx hb d_AL_clear_26 rfl hl (by decide) rfl (fun ls hl => ?_)
  refine lv_iload_n hx hb d_AL_clear_27 rfl (lv_at hl 0 rfl) ?_
  refine lv_iload_n hx hb d_AL_clear_28 rfl (lv_at hl 1 rfl) ?_
  refine lv_icmp_ge (tgt := 42) hx hb d_AL_clear_29 (by decide) (fun c29 => ?_) (fun c29 => ?_)
  · have b29 : 0 ≤ 0 := (nI_leI (a := 0) (b := 0) (by omega) (by omega)).mp c29
    exact hret _ _ _ _ _ _ _ (⟨hx5, k6⟩) hG hS (Nat.le_refl _) (Nat.le_refl _) d_AL_clear_42
  · have b29 : ¬ 0 ≤ 0 := fun q => c29 ((nI_leI (a := 0) (b := 0) (by omega) (by omega)).mpr q)
    exact absurd (Nat.le_refl 0) b29
abbrev rm_Ar_copyOf_3 (m1 : Nat) : Room := { frames := 1, cells := 1, slots := m1, locals := 40 }
set_option maxHeartbeats 4000000 in
set_option maxRecDepth 100000 in
/-- Arrays.copyOf(Object[], int, Class) -/
theorem t_Ar_copyOf_3 (l : Launch) (E : zc_E) (G : zg_G) (dd cap m1 : Nat) (f : Nat → Option Nat) (hd : G dd = some (.inl (E.2.1 3, cap, .inr (.inr (.inr (.inr f)))))) (hz : cap ≤ m1) (hm : m1 < 2 ^ 26) (hel : ∀ j y, f j = some y → zel G y) : zMq l E y_Ar_copyOf_3 c_Ar_copyOf_3 4 (some (.array (.object "java/lang/Object"))) (rm_Ar_copyOf_3 m1) [.ref dd, .int (nI m1), .ref (E.2.2.2 1)] G (fun (r : Option Nat) (G2 : zg_G) => ∃ q f2, r = some q ∧ G q = none ∧ zx z0 G G2 ∧ G2 q = some (.inl (E.2.1 3, m1, .inr (.inr (.inr (.inr f2))))) ∧ ∀ j, f2 j = if j < cap then f j else none) := by
  refine zMq.of (by decide) (Nat.le_of_ble_eq_true rfl) ?_
  intro p e s m args below meth c Q hZ hG hret ls hl
  obtain ⟨hx, hb, hr, hts, hown, hlocks, hml, hnm, hbase, hK, hN, hQ⟩ := hZ
  have hl : lv_has ls 4 [(0, .ref dd), (1, .int (nI m1)), (2, .ref (E.2.2.2 1))] := hl
  have hS : zg_S (zc_b E) s.heap s.heap [] := va_S.rf
  have hx0 : zx z0 G G := zx.rf
  refine lv_aload_n hx hb d_Ar_copyOf_3_0 rfl (lv_at hl 2 rfl) ?_
  refine va_ldcM hx hb hown (hts _ w_596) hQ.2.2.1 d_Ar_copyOf_3_1 ?_
  refine lv_acmp_ne (rx := (some (E.2.2.2 1))) (ry := (some (E.2.2.2 1))) (tgt := 13) hx hb d_Ar_copyOf_3_3 (by decide) (fun c3 => ?_) (fun c3 => ?_)
  · exact absurd rfl c3
  · refine lv_iload_n hx hb d_Ar_copyOf_3_6 rfl (lv_at hl 1 rfl) ?_
    refine zg_newq (C := "java/lang/Object") (N' := m1) hx hb hown (hts _ w_598) hQ.2.2.2.1 hK hG hS hbase (nI_pos (by omega)) (zi_n _ (by omega)) (by omega) (by dsimp only; omega) (by dsimp only; omega) d_Ar_copyOf_3_7 3 rfl (fun q7 H n7 hG hS => ?_)
    obtain ⟨G1, eG1⟩ : ∃ z : zg_G, z = zg_up G q7 (.inl (E.2.1 3, m1, .inr (.inr (.inr (.inr (fun _ => none)))))) := ⟨_, rfl⟩
    have hG : zP E G1 H := by rw [eG1]; exact hG
    have hx2 : zx z0 G G1 := hx0.tr (by rw [eG1]; exact zx.nw n7)
    have ne7_dd : dd ≠ q7 := zg_fr n7 hd
    have k3 : G1 dd = some (.inl (E.2.1 3, cap, .inr (.inr (.inr (.inr f))))) := by rw [eG1, zg_up_ne (zg_fr n7 hd)]; exact hd
    have k4 : G1 q7 = some (.inl (E.2.1 3, m1, .inr (.inr (.inr (.inr (fun _ => none)))))) := by rw [eG1]; exact zg_up_self _ _ _
    refine lv_goto (tgt := 24) hx hb d_Ar_copyOf_3_10 (by decide) ?_
    refine lv_astore_n (lv' := [(3, .ref q7), (0, .ref dd), (1, .int (nI m1)), (2, .ref (E.2.2.2 1))]) hx hb d_Ar_copyOf_3_24 rfl hl (by decide) rfl (fun ls hl => ?_)
    refine lv_aload_n hx hb d_Ar_copyOf_3_25 rfl (lv_at hl 1 rfl) ?_
    refine lv_iconst (v := 0) hx hb d_Ar_copyOf_3_26 (by decide) ?_
    refine lv_aload_n hx hb d_Ar_copyOf_3_27 rfl (lv_at hl 0 rfl) ?_
    refine lv_iconst (v := 0) hx hb d_Ar_copyOf_3_28 (by decide) ?_
    refine lv_aload_n hx hb d_Ar_copyOf_3_29 rfl (lv_at hl 1 rfl) ?_
    refine zg_alen hx hb hK hG 3 k3 rfl (v := nI cap) rfl d_Ar_copyOf_3_30 ?_
    refine lv_iload_n hx hb d_Ar_copyOf_3_31 rfl (lv_at hl 2 rfl) ?_
    refine va_mmin hx hb (hml.trans hl.1.symm) hown (hts _ w_347) (hts _ w_183) (hts _ w_11) (hts _ w_184) (Nat.le_of_ble_eq_true rfl) (Nat.le_of_ble_eq_true rfl) (by dsimp only; omega) (by dsimp only; omega) d_Ar_copyOf_3_32 ?_
    refine zi_as (y := nI cap) (by rw [zi_min (by omega) (by omega), Nat.min_eq_left hz]) ?_
    refine zg_copyM hx hb (hml.trans hl.1.symm) hown (hts _ w_348) (hts _ w_350) (hts _ w_349) (hts _ w_23) hK hG hS 3 3 k3 k4 rfl rfl (by decide) (by decide) (nI_pos (by omega)) (by rw [show Int32.toNatClampNeg 0 = 0 from by decide, zi_n cap (by omega)]; omega) (by rw [show Int32.toNatClampNeg 0 = 0 from by decide, zi_n cap (by omega)]; omega) (by rw [show Int32.toNatClampNeg 0 = 0 from by decide, zi_n cap (by omega)]; exact fun i hi y hy => ((hel _ y hy).x hx2).any hK hN hG) (Nat.le_of_ble_eq_true rfl) (by show _ ≤ (40 : Nat); decide) d_Ar_copyOf_3_35 (fun H locs hG hS => ?_)
    rw [show Int32.toNatClampNeg 0 = 0 from by decide, zi_n cap (by omega)] at hG
    obtain ⟨G5, eG5⟩ : ∃ z : zg_G, z = zg_up G1 q7 (.inl (E.2.1 3, m1, .inr (.inr (.inr (.inr (va_cpy f (fun _ => none) 0 0 cap)))))) := ⟨_, rfl⟩
    have hG : zP E G5 H := by rw [eG5]; exact hG
    have hx6 : zx z0 G G5 := by rw [eG5]; exact hx2.upn n7
    have k7 : G5 dd = some (.inl (E.2.1 3, cap, .inr (.inr (.inr (.inr f))))) := by rw [eG5, zg_up_ne (ne7_dd)]; exact k3
    have k8 : G5 q7 = some (.inl (E.2.1 3, m1, .inr (.inr (.inr (.inr (va_cpy f (fun _ => none) 0 0 cap)))))) := by rw [eG5]; exact zg_up_self _ _ _
    refine lv_aload_n hx hb d_Ar_copyOf_3_38 rfl (lv_at hl 0 rfl) ?_
    exact hret (some q7) _ _ _ _ _ _ _ _ hr (Or.inr ⟨_, rfl⟩) (⟨q7, _, rfl, n7, hx6, k8, fun j => zf_cpy j⟩) hG hS (Nat.le_refl _) (by dsimp only; omega) d_Ar_copyOf_3_39
abbrev rm_Ar_copyOf_2 (m1 : Nat) : Room := { frames := 2, cells := 1, slots := m1, locals := 70 }
set_option maxHeartbeats 4000000 in
set_option maxRecDepth 100000 in
/-- Arrays.copyOf(Object[], int) -/
theorem t_Ar_copyOf_2 (l : Launch) (E : zc_E) (G : zg_G) (dd cap m1 : Nat) (f : Nat → Option Nat) (hd : G dd = some (.inl (E.2.1 3, cap, .inr (.inr (.inr (.inr f)))))) (hz : cap ≤ m1) (hm : m1 < 2 ^ 26) (hel : ∀ j y, f j = some y → zel G y) : zMq l E y_Ar_copyOf_2 c_Ar_copyOf_2 2 (some (.array (.object "java/lang/Object"))) (rm_Ar_copyOf_2 m1) [.ref dd, .int (nI m1)] G (fun (r : Option Nat) (G2 : zg_G) => ∃ q f2, r = some q ∧ G q = none ∧ zx z0 G G2 ∧ G2 q = some (.inl (E.2.1 3, m1, .inr (.inr (.inr (.inr f2))))) ∧ ∀ j, f2 j = if j < cap then f j else none) := by
  refine zMq.of (by decide) (Nat.le_of_ble_eq_true rfl) ?_
  intro p e s m args below meth c Q hZ hG hret ls hl
  obtain ⟨hx, hb, hr, hts, hown, hlocks, hml, hnm, hbase, hK, hN, hQ⟩ := hZ
  have hl : lv_has ls 2 [(0, .ref dd), (1, .int (nI m1))] := hl
  have hS : zg_S (zc_b E) s.heap s.heap [] := va_S.rf
  refine lv_aload_n hx hb d_Ar_copyOf_2_0 rfl (lv_at hl 0 rfl) ?_
  refine lv_iload_n hx hb d_Ar_copyOf_2_1 rfl (lv_at hl 1 rfl) ?_
  refine lv_aload_n hx hb d_Ar_copyOf_2_2 rfl (lv_at hl 0 rfl) ?_
  refine va_getC (C := "[Ljava/lang/Object;") hx hb (hml.trans hl.1.symm) hown (hts _ w_569) hQ.2.2.2.2.2.1.use (hts _ w_1619) (hts _ w_570) (hts _ w_592) hQ.2.2.1 (zg_arecv hG hd hQ.2.2.2.2.2.2.2.2.1) (Nat.le_of_ble_eq_true rfl) (Nat.le_of_ble_eq_true rfl) d_Ar_copyOf_2_3 ?_
  have hGo6 := hG
  refine zk_q (va_runS (As := [.ref dd, .int (nI m1), .ref (E.2.2.2 1)]) (rest := []) ⟨hx, hb, hml, hown, hts⟩ (t_Ar_copyOf_3 l E G dd cap m1 f hd hz hm hel) (zcS 3 hts w_593 w_594 w_22 w_595 (by decide +kernel) ⟨Nat.le_of_ble_eq_true rfl, Nat.le_of_ble_eq_true rfl⟩) (zc_pre hbase hK hN hQ hG hS) rfl rfl hl.1 rfl (lv_room (Nat.le_of_ble_eq_true rfl)) d_Ar_copyOf_2_6 ⟨(by dsimp only; omega), (by dsimp only; omega)⟩) hS (fun r6 G6 H locs hp6 hG hS => ?_)
  exact hret _ _ _ _ _ _ _ _ _ hr (Or.inr ⟨_, rfl⟩) (hp6) hG hS (by dsimp only; omega) (by dsimp only; omega) d_Ar_copyOf_2_9
abbrev rm_AL_grow_2 (B : Nat) : Room := { frames := 3, cells := 1, slots := B, locals := 110 }
set_option maxHeartbeats 4000000 in
set_option maxRecDepth 100000 in
/-- ArrayList.grow(1) of a fresh list -/
theorem t_AL_grow_2_e (l : Launch) (E : zc_E) (G : zg_G) (a : Nat) (k : Int32) (ha : G a = some (.inr (0, [.ref (E.2.2.2 0), .int (nI 0), .int k]))) (B : Nat) (hB : 10 ≤ B) : zMq l E y_AL_grow_2 c_AL_grow_2 4 (some (.array (.object "java/lang/Object"))) (rm_AL_grow_2 B) [.ref a, .int (nI 1)] G (fun (r : Option Nat) (G2 : zg_G) => ∃ q, r = some q ∧ G q = none ∧ zx (fun q => q = a) G G2 ∧ G2 a = some (.inr (0, [.ref q, .int (nI 0), .int k])) ∧ G2 q = some (.inl (E.2.1 3, 10, .inr (.inr (.inr (.inr (fun _ => none))))))) := by
  refine zMq.of (by decide) (Nat.le_of_ble_eq_true rfl) ?_
  intro p e s m args below meth c Q hZ hG hret ls hl
  obtain ⟨hx, hb, hr, hts, hown, hlocks, hml, hnm, hbase, hK, hN, hQ⟩ := hZ
  have hl : lv_has ls 4 [(0, .ref a), (1, .int (nI 1))] := hl
  have hS : zg_S (zc_b E) s.heap s.heap [] := va_S.rf
  have hx0 : zx (fun q => q = a) G G := zx.rf
  refine lv_aload_n hx hb d_AL_grow_2_0 rfl (lv_at hl 0 rfl) ?_
  refine zg_get (ci := 0) (C := "java/util/ArrayList") (T := T_AL) (N := 3) hx hb hts zi_AL hown hK hG ha rfl 0 (by decide) (hts _ w_79) (fun _ h9 => h9) rfl d_AL_grow_2_1 ?_
  refine va_tlen hx hb hQ.2.1 hS (v := 0) rfl d_AL_grow_2_4 ?_
  refine lv_istore_n (lv' := [(2, .int 0), (0, .ref a), (1, .int (nI 1))]) hx hb d_AL_grow_2_5 rfl hl (by decide) rfl (fun ls hl => ?_)
  refine lv_iload_n hx hb d_AL_grow_2_6 rfl (lv_at hl 0 rfl) ?_
  refine lv_if_gt (tgt := 20) hx hb d_AL_grow_2_7 (by decide) (fun c7 => ?_) (fun c7 => ?_)
  · have b7 : 0 < 0 := (nI_ltI (a := 0) (b := 0) (by omega) (by omega)).mp c7
    exact absurd b7 (by omega)
  · have b7 : ¬ 0 < 0 := fun q => c7 ((nI_ltI (a := 0) (b := 0) (by omega) (by omega)).mpr q)
    refine lv_aload_n hx hb d_AL_grow_2_10 rfl (lv_at hl 1 rfl) ?_
    refine zg_get (ci := 0) (C := "java/util/ArrayList") (T := T_AL) (N := 3) hx hb hts zi_AL hown hK hG ha rfl 0 (by decide) (hts _ w_79) (fun _ h9 => h9) rfl d_AL_grow_2_11 ?_
    refine va_gets hx hb hQ.1 hS hown (hts _ w_77) (fun _ h9 => h9) d_AL_grow_2_14 ?_
    refine lv_acmp_eq (rx := (some (E.2.2.2 0))) (ry := (some (E.2.2.2 0))) (tgt := 45) hx hb d_AL_grow_2_17 (by decide) (fun c17 => ?_) (fun c17 => ?_)
    · refine lv_aload_n hx hb d_AL_grow_2_45 rfl (lv_at hl 1 rfl) ?_
      refine lv_bipush (v := 10) hx hb d_AL_grow_2_46 (by decide) ?_
      refine lv_iload_n hx hb d_AL_grow_2_48 rfl (lv_at hl 2 rfl) ?_
      refine va_mmax hx hb (hml.trans hl.1.symm) hown (hts _ w_599) (hts _ w_330) (hts _ w_11) (hts _ w_331) (Nat.le_of_ble_eq_true rfl) (Nat.le_of_ble_eq_true rfl) (by dsimp only; omega) (by dsimp only; omega) d_AL_grow_2_49 ?_
      refine zi_as (y := nI 10) (by decide) ?_
      refine zg_newq (C := "java/lang/Object") (N' := 10) hx hb hown (hts _ w_600) hQ.2.2.2.1 hK hG hS hbase (by decide) (by decide) (by omega) (by dsimp only; omega) (by dsimp only; omega) d_AL_grow_2_52 3 rfl (fun q52 H n52 hG hS => ?_)
      obtain ⟨G1, eG1⟩ : ∃ z : zg_G, z = zg_up G q52 (.inl (E.2.1 3, 10, .inr (.inr (.inr (.inr (fun _ => none)))))) := ⟨_, rfl⟩
      have hG : zP E G1 H := by rw [eG1]; exact hG
      have hx2 : zx (fun q => q = a) G G1 := hx0.tr (by rw [eG1]; exact zx.nw n52)
      have ne52_a : a ≠ q52 := zg_fr n52 ha
      have k3 : G1 a = some (.inr (0, [.ref (E.2.2.2 0), .int (nI 0), .int k])) := by rw [eG1, zg_up_ne (zg_fr n52 ha)]; exact ha
      have k4 : G1 q52 = some (.inl (E.2.1 3, 10, .inr (.inr (.inr (.inr (fun _ => none)))))) := by rw [eG1]; exact zg_up_self _ _ _
      refine lv_dup_x1 hx hb d_AL_grow_2_55 rfl rfl ?_
      refine zg_put (ci := 0) (v := .ref q52) (ty := .array (.object "java/lang/Object")) (C := "java/util/ArrayList") (T := T_AL) (N := 3) hx hb hts zi_AL t_AL t_AL_ok n_AL hown hK hG hS k3 rfl 0 (by decide) (hts _ w_79) (fun _ h9 => h9) rfl (by decide +kernel) rfl rfl (Nat.le_of_ble_eq_true rfl) d_AL_grow_2_56 (fun H locs hG hS => ?_)
      obtain ⟨G5, eG5⟩ : ∃ z : zg_G, z = zg_up G1 a (.inr (0, [.ref q52, .int (nI 0), .int k])) := ⟨_, rfl⟩
      have hG : zP E G5 H := by rw [eG5]; exact hG
      have hx6 : zx (fun q => q = a) G G5 := hx2.tr (by rw [eG5]; exact zx.up (rfl))
      have k7 : G5 a = some (.inr (0, [.ref q52, .int (nI 0), .int k])) := by rw [eG5]; exact zg_up_self _ _ _
      have k8 : G5 q52 = some (.inl (E.2.1 3, 10, .inr (.inr (.inr (.inr (fun _ => none)))))) := by rw [eG5, zg_up_ne (Ne.symm ne52_a)]; exact k4
      exact hret (some q52) _ _ _ _ _ _ _ _ hr (Or.inr ⟨_, rfl⟩) (⟨q52, rfl, n52, hx6, k7, k8⟩) hG hS (by dsimp only; omega) (by dsimp only; omega) d_AL_grow_2_59
    · exact absurd rfl c17
set_option maxHeartbeats 4000000 in
set_option maxRecDepth 100000 in
/-- ArrayList.grow(n + 1) of a full list -/
theorem t_AL_grow_2_f (l : Launch) (E : zc_E) (G : zg_G) (a dd n cap : Nat) (k : Int32) (f : Nat → Option Nat) (ha : G a = some (.inr (0, [.ref dd, .int (nI n), .int k]))) (hd : G dd = some (.inl (E.2.1 3, cap, .inr (.inr (.inr (.inr f)))))) (hc : n ≤ cap) (hz : cap < 2 ^ 24) (h0 : 0 < cap) (B : Nat) (hB : 2 * cap + 1 ≤ B) (hel : ∀ j y, f j = some y → zel G y) : zMq l E y_AL_grow_2 c_AL_grow_2 4 (some (.array (.object "java/lang/Object"))) (rm_AL_grow_2 B) [.ref a, .int (nI (cap + 1))] G (fun (r : Option Nat) (G2 : zg_G) => ∃ q f2 c2, r = some q ∧ G q = none ∧ cap < c2 ∧ c2 ≤ 2 * cap + 1 ∧ zx (fun q => q = a) G G2 ∧ G2 a = some (.inr (0, [.ref q, .int (nI n), .int k])) ∧ G2 q = some (.inl (E.2.1 3, c2, .inr (.inr (.inr (.inr f2))))) ∧ ∀ j, f2 j = if j < cap then f j else none) := by
  refine zMq.of (by decide) (Nat.le_of_ble_eq_true rfl) ?_
  intro p e s m args below meth c Q hZ hG hret ls hl
  obtain ⟨hx, hb, hr, hts, hown, hlocks, hml, hnm, hbase, hK, hN, hQ⟩ := hZ
  have hl : lv_has ls 4 [(0, .ref a), (1, .int (nI (cap + 1)))] := hl
  have hS : zg_S (zc_b E) s.heap s.heap [] := va_S.rf
  have hx0 : zx (fun q => q = a) G G := zx.rf
  refine lv_aload_n hx hb d_AL_grow_2_0 rfl (lv_at hl 0 rfl) ?_
  refine zg_get (ci := 0) (C := "java/util/ArrayList") (T := T_AL) (N := 3) hx hb hts zi_AL hown hK hG ha rfl 0 (by decide) (hts _ w_79) (fun _ h9 => h9) rfl d_AL_grow_2_1 ?_
  refine zg_alen hx hb hK hG 3 hd rfl (v := nI cap) rfl d_AL_grow_2_4 ?_
  refine lv_istore_n (lv' := [(2, .int (nI cap)), (0, .ref a), (1, .int (nI (cap + 1)))]) hx hb d_AL_grow_2_5 rfl hl (by decide) rfl (fun ls hl => ?_)
  refine lv_iload_n hx hb d_AL_grow_2_6 rfl (lv_at hl 0 rfl) ?_
  refine lv_if_gt (tgt := 20) hx hb d_AL_grow_2_7 (by decide) (fun c7 => ?_) (fun c7 => ?_)
  · have b7 : 0 < cap := (nI_ltI (a := 0) (b := cap) (by omega) (by omega)).mp c7
    refine lv_iload_n hx hb d_AL_grow_2_20 rfl (lv_at hl 0 rfl) ?_
    refine lv_iload_n hx hb d_AL_grow_2_21 rfl (lv_at hl 2 rfl) ?_
    refine lv_iload_n hx hb d_AL_grow_2_22 rfl (lv_at hl 0 rfl) ?_
    refine lv_isub hx hb d_AL_grow_2_23 ?_
    refine zi_as (y := nI 1) (by rw [zi_sub (by omega)]; congr 1; omega) ?_
    refine lv_iload_n hx hb d_AL_grow_2_24 rfl (lv_at hl 0 rfl) ?_
    refine lv_iconst (v := 1) hx hb d_AL_grow_2_25 (by decide) ?_
    refine lv_ishr hx hb d_AL_grow_2_26 ?_
    refine zi_as (y := nI (cap / 2)) (pk_shrN (by omega) _ 1 (by decide)) ?_
    refine zk_i (va_runS (As := [.int (nI cap), .int (nI 1), .int (nI (cap / 2))]) (rest := []) ⟨hx, hb, hml, hown, hts⟩ (t_As_newLength l E G cap 1 (cap / 2) (Nat.le_refl 1) (by omega) (by omega) (by omega)) (zcS 3 hts w_565 w_327 w_21 w_328 (by decide +kernel) ⟨Nat.le_of_ble_eq_true rfl, Nat.le_of_ble_eq_true rfl⟩) (zc_pre hbase hK hN hQ hG hS) rfl rfl hl.1 rfl (lv_room (Nat.le_of_ble_eq_true rfl)) d_AL_grow_2_27 ⟨(by dsimp only; omega), (by dsimp only; omega)⟩) hS (fun r27 G27 H locs hp27 hG hS => ?_)
    have hG : zP E G H := hp27.2 ▸ hG
    refine zi_as (y := nI (cap + max 1 (cap / 2))) hp27.1 ?_
    refine lv_istore_n (lv' := [(3, .int (nI (cap + max 1 (cap / 2)))), (2, .int (nI cap)), (0, .ref a), (1, .int (nI (cap + 1)))]) hx hb d_AL_grow_2_30 rfl hl (by decide) rfl (fun ls hl => ?_)
    refine lv_aload_n hx hb d_AL_grow_2_31 rfl (lv_at hl 2 rfl) ?_
    refine lv_aload_n hx hb d_AL_grow_2_32 rfl (lv_at hl 2 rfl) ?_
    refine zg_get (ci := 0) (C := "java/util/ArrayList") (T := T_AL) (N := 3) hx hb hts zi_AL hown hK hG ha rfl 0 (by decide) (hts _ w_79) (fun _ h9 => h9) rfl d_AL_grow_2_33 ?_
    refine lv_iload_n hx hb d_AL_grow_2_36 rfl (lv_at hl 0 rfl) ?_
    have hGo37 := hG
    refine zk_q (va_runS (As := [.ref dd, .int (nI (cap + max 1 (cap / 2)))]) (rest := [.ref a]) ⟨hx, hb, hml, hown, hts⟩ (t_Ar_copyOf_2 l E G dd cap (cap + max 1 (cap / 2)) f hd (by omega) (by omega) hel) (zcS 2 hts w_566 w_567 w_22 w_568 (by decide +kernel) ⟨Nat.le_of_ble_eq_true rfl, Nat.le_of_ble_eq_true rfl⟩) (zc_pre hbase hK hN hQ hG hS) rfl rfl hl.1 rfl (lv_room (Nat.le_of_ble_eq_true rfl)) d_AL_grow_2_37 ⟨(by dsimp only; omega), (by dsimp only; omega)⟩) hS (fun r37 G37 H locs hp37 hG hS => ?_)
    obtain ⟨q37, f37, er37, nq37, hx37, hq37, hf37⟩ := hp37
    refine zr_some (a := q37) er37 ?_
    have k1 : G37 a = some (.inr (0, [.ref dd, .int (nI n), .int k])) := hx37.o ha
    have ne_q37_a : a ≠ q37 := zg_fr nq37 ha
    have k2 : G37 dd = some (.inl (E.2.1 3, cap, .inr (.inr (.inr (.inr f))))) := hx37.o hd
    have ne_q37_dd : dd ≠ q37 := zg_fr nq37 hd
    have hx3 : zx (fun q => q = a) G G37 := hx0.tr (hx37.w (fun _ z => z.elim))
    refine lv_dup_x1 hx hb d_AL_grow_2_40 rfl rfl ?_
    refine zg_put (ci := 0) (v := .ref q37) (ty := .array (.object "java/lang/Object")) (C := "java/util/ArrayList") (T := T_AL) (N := 3) hx hb hts zi_AL t_AL t_AL_ok n_AL hown hK hG hS k1 rfl 0 (by decide) (hts _ w_79) (fun _ h9 => h9) rfl (by decide +kernel) rfl rfl (Nat.le_of_ble_eq_true rfl) d_AL_grow_2_41 (fun H locs hG hS => ?_)
    obtain ⟨G4, eG4⟩ : ∃ z : zg_G, z = zg_up G37 a (.inr (0, [.ref q37, .int (nI n), .int k])) := ⟨_, rfl⟩
    have hG : zP E G4 H := by rw [eG4]; exact hG
    have hx5 : zx (fun q => q = a) G G4 := hx3.tr (by rw [eG4]; exact zx.up (rfl))
    have k6 : G4 a = some (.inr (0, [.ref q37, .int (nI n), .int k])) := by rw [eG4]; exact zg_up_self _ _ _
    have k7 : G4 dd = some (.inl (E.2.1 3, cap, .inr (.inr (.inr (.inr f))))) := by rw [eG4, zg_up_ne (zg_ne k2 k1 (by intro h; simp at h))]; exact k2
    have k8 : G4 q37 = some (.inl (E.2.1 3, cap + max 1 (cap / 2), .inr (.inr (.inr (.inr f37))))) := by rw [eG4, zg_up_ne (Ne.symm ne_q37_a)]; exact hq37
    exact hret (some q37) _ _ _ _ _ _ _ _ hr (Or.inr ⟨_, rfl⟩) (⟨q37, f37, _, rfl, nq37, by omega, by omega, hx5, k6, k8, hf37⟩) hG hS (by dsimp only; omega) (by dsimp only; omega) d_AL_grow_2_44
  · have b7 : ¬ 0 < cap := fun q => c7 ((nI_ltI (a := 0) (b := cap) (by omega) (by omega)).mpr q)
    exact absurd h0 b7
