theorem w_4 : (.initialized "java/util/AbstractCollection" : Cond) ∈ zw := zw_at 4 (by decide +kernel) (by decide +kernel)
theorem w_5 : (.initialized "java/util/AbstractList" : Cond) ∈ zw := zw_at 5 (by decide +kernel) (by decide +kernel)
theorem w_6 : (.initialized "java/util/ArrayList" : Cond) ∈ zw := zw_at 6 (by decide +kernel) (by decide +kernel)
theorem w_43 : (.instanceMethod ⟨"java/lang/Object", "<init>", "()V"⟩ : Cond) ∈ zw := zw_at 43 (by decide +kernel) (by decide +kernel)
theorem w_44 : (.code ⟨"java/lang/Object", "<init>", "()V"⟩ object_method_1_code 1 none : Cond) ∈ zw := zw_at 44 (by decide +kernel) (by decide +kernel)
theorem w_50 : (.methodLink "ZoneAnswers$Tape" 3 ⟨"java/lang/Object", "<init>", "()V"⟩ : Cond) ∈ zw := zw_at 50 (by decide +kernel) (by decide +kernel)
theorem w_51 : (.fieldLink "ZoneAnswers$Tape" 11 "ZoneAnswers$Tape" "bytes" "[B" : Cond) ∈ zw := zw_at 51 (by decide +kernel) (by decide +kernel)
theorem w_58 : (.arrayClass .byte : Cond) ∈ zw := zw_at 58 (by decide +kernel) (by decide +kernel)
theorem w_66 : (.instantiable "java/util/ArrayList" 3 : Cond) ∈ zw := zw_at 66 (by decide +kernel) (by decide +kernel)
theorem w_68 : (.instanceMethod ⟨"java/util/ArrayList", "<init>", "()V"⟩ : Cond) ∈ zw := zw_at 68 (by decide +kernel) (by decide +kernel)
theorem w_69 : (.code ⟨"java/util/ArrayList", "<init>", "()V"⟩ prog_35_method_2_code 1 none : Cond) ∈ zw := zw_at 69 (by decide +kernel) (by decide +kernel)
theorem w_70 : (.methodLink "java/util/ArrayList" 1 ⟨"java/util/AbstractList", "<init>", "()V"⟩ : Cond) ∈ zw := zw_at 70 (by decide +kernel) (by decide +kernel)
theorem w_71 : (.instanceMethod ⟨"java/util/AbstractList", "<init>", "()V"⟩ : Cond) ∈ zw := zw_at 71 (by decide +kernel) (by decide +kernel)
theorem w_72 : (.code ⟨"java/util/AbstractList", "<init>", "()V"⟩ prog_34_method_1_code 1 none : Cond) ∈ zw := zw_at 72 (by decide +kernel) (by decide +kernel)
theorem w_73 : (.methodLink "java/util/AbstractList" 1 ⟨"java/util/AbstractCollection", "<init>", "()V"⟩ : Cond) ∈ zw := zw_at 73 (by decide +kernel) (by decide +kernel)
theorem w_74 : (.instanceMethod ⟨"java/util/AbstractCollection", "<init>", "()V"⟩ : Cond) ∈ zw := zw_at 74 (by decide +kernel) (by decide +kernel)
theorem w_75 : (.code ⟨"java/util/AbstractCollection", "<init>", "()V"⟩ prog_33_method_1_code 1 none : Cond) ∈ zw := zw_at 75 (by decide +kernel) (by decide +kernel)
theorem w_76 : (.methodLink "java/util/AbstractCollection" 1 ⟨"java/lang/Object", "<init>", "()V"⟩ : Cond) ∈ zw := zw_at 76 (by decide +kernel) (by decide +kernel)
theorem w_77 : (.fieldLink "java/util/ArrayList" 39 "java/util/ArrayList" "DEFAULTCAPACITY_EMPTY_ELEMENTDATA" "[Ljava/lang/Object;" : Cond) ∈ zw := zw_at 77 (by decide +kernel) (by decide +kernel)
theorem w_79 : (.fieldLink "java/util/ArrayList" 9 "java/util/ArrayList" "elementData" "[Ljava/lang/Object;" : Cond) ∈ zw := zw_at 79 (by decide +kernel) (by decide +kernel)
theorem w_81 : (.fieldLink "java/util/AbstractList" 7 "java/util/AbstractList" "modCount" "I" : Cond) ∈ zw := zw_at 81 (by decide +kernel) (by decide +kernel)
theorem w_112 : (.methodLink "ZoneAnswers$Name" 3 ⟨"java/lang/Object", "<init>", "()V"⟩ : Cond) ∈ zw := zw_at 112 (by decide +kernel) (by decide +kernel)
theorem w_138 : (.methodLink "ZoneAnswers$Datum" 1 ⟨"java/lang/Object", "<init>", "()V"⟩ : Cond) ∈ zw := zw_at 138 (by decide +kernel) (by decide +kernel)
theorem w_139 : (.fieldLink "ZoneAnswers$Datum" 7 "ZoneAnswers$Datum" "bytes" "[B" : Cond) ∈ zw := zw_at 139 (by decide +kernel) (by decide +kernel)
theorem w_142 : (.fieldLink "ZoneAnswers$Datum" 13 "ZoneAnswers$Datum" "target" "LZoneAnswers$Name;" : Cond) ∈ zw := zw_at 142 (by decide +kernel) (by decide +kernel)
theorem w_677 : (.methodLink "ZoneAnswers$Section" 1 ⟨"java/lang/Object", "<init>", "()V"⟩ : Cond) ∈ zw := zw_at 677 (by decide +kernel) (by decide +kernel)
theorem w_678 : (.classLink "ZoneAnswers$Section" 7 "java/util/ArrayList" : Cond) ∈ zw := zw_at 678 (by decide +kernel) (by decide +kernel)
theorem w_679 : (.methodLink "ZoneAnswers$Section" 9 ⟨"java/util/ArrayList", "<init>", "()V"⟩ : Cond) ∈ zw := zw_at 679 (by decide +kernel) (by decide +kernel)
theorem w_680 : (.fieldLink "ZoneAnswers$Section" 10 "ZoneAnswers$Section" "rows" "Ljava/util/ArrayList;" : Cond) ∈ zw := zw_at 680 (by decide +kernel) (by decide +kernel)
theorem w_1045 : (.methodLink "ZoneAnswers$Told" 1 ⟨"java/lang/Object", "<init>", "()V"⟩ : Cond) ∈ zw := zw_at 1045 (by decide +kernel) (by decide +kernel)
theorem w_1046 : (.fieldLink "ZoneAnswers$Told" 7 "ZoneAnswers$Told" "name" "LZoneAnswers$Name;" : Cond) ∈ zw := zw_at 1046 (by decide +kernel) (by decide +kernel)
theorem w_1049 : (.fieldLink "ZoneAnswers$Told" 13 "ZoneAnswers$Told" "type" "I" : Cond) ∈ zw := zw_at 1049 (by decide +kernel) (by decide +kernel)
theorem w_1053 : (.fieldLink "ZoneAnswers$Told" 17 "ZoneAnswers$Told" "time" "I" : Cond) ∈ zw := zw_at 1053 (by decide +kernel) (by decide +kernel)
theorem w_1055 : (.fieldLink "ZoneAnswers$Told" 20 "ZoneAnswers$Told" "datum" "LZoneAnswers$Datum;" : Cond) ∈ zw := zw_at 1055 (by decide +kernel) (by decide +kernel)
abbrev c_Na_init : ByteArray := prog_4_method_1_code
abbrev y_Na_init : MethodName := ⟨"ZoneAnswers$Name", "<init>", "([B)V"⟩
theorem d_Na_init_0 : decode c_Na_init 0 = .ok (.aload_n 0, 1) := by decide +kernel
theorem d_Na_init_1 : decode c_Na_init 1 = .ok (.invokespecial 3, 3) := by decide +kernel
theorem d_Na_init_4 : decode c_Na_init 4 = .ok (.aload_n 0, 1) := by decide +kernel
theorem d_Na_init_5 : decode c_Na_init 5 = .ok (.aload_n 1, 1) := by decide +kernel
theorem d_Na_init_6 : decode c_Na_init 6 = .ok (.putfield 9, 3) := by decide +kernel
theorem d_Na_init_9 : decode c_Na_init 9 = .ok (.iconst 0, 1) := by decide +kernel
theorem d_Na_init_10 : decode c_Na_init 10 = .ok (.istore_n 2, 1) := by decide +kernel
theorem d_Na_init_11 : decode c_Na_init 11 = .ok (.iconst 0, 1) := by decide +kernel
theorem d_Na_init_12 : decode c_Na_init 12 = .ok (.istore_n 3, 1) := by decide +kernel
theorem d_Na_init_13 : decode c_Na_init 13 = .ok (.iload_n 3, 1) := by decide +kernel
theorem d_Na_init_14 : decode c_Na_init 14 = .ok (.aload_n 1, 1) := by decide +kernel
theorem d_Na_init_15 : decode c_Na_init 15 = .ok (.arraylength, 1) := by decide +kernel
theorem d_Na_init_16 : decode c_Na_init 16 = .ok (.if_icmp .ge 23, 3) := by decide +kernel
theorem d_Na_init_19 : decode c_Na_init 19 = .ok (.aload_n 1, 1) := by decide +kernel
theorem d_Na_init_20 : decode c_Na_init 20 = .ok (.iload_n 3, 1) := by decide +kernel
theorem d_Na_init_21 : decode c_Na_init 21 = .ok (.baload, 1) := by decide +kernel
theorem d_Na_init_22 : decode c_Na_init 22 = .ok (.ifCond .le 17, 3) := by decide +kernel
theorem d_Na_init_25 : decode c_Na_init 25 = .ok (.iinc 2 1, 3) := by decide +kernel
theorem d_Na_init_28 : decode c_Na_init 28 = .ok (.iload_n 3, 1) := by decide +kernel
theorem d_Na_init_29 : decode c_Na_init 29 = .ok (.aload_n 1, 1) := by decide +kernel
theorem d_Na_init_30 : decode c_Na_init 30 = .ok (.iload_n 3, 1) := by decide +kernel
theorem d_Na_init_31 : decode c_Na_init 31 = .ok (.baload, 1) := by decide +kernel
theorem d_Na_init_32 : decode c_Na_init 32 = .ok (.iconst 1, 1) := by decide +kernel
theorem d_Na_init_33 : decode c_Na_init 33 = .ok (.iadd, 1) := by decide +kernel
theorem d_Na_init_34 : decode c_Na_init 34 = .ok (.iadd, 1) := by decide +kernel
theorem d_Na_init_35 : decode c_Na_init 35 = .ok (.istore_n 3, 1) := by decide +kernel
theorem d_Na_init_36 : decode c_Na_init 36 = .ok (.goto (-23), 3) := by decide +kernel
theorem d_Na_init_39 : decode c_Na_init 39 = .ok (.aload_n 0, 1) := by decide +kernel
theorem d_Na_init_40 : decode c_Na_init 40 = .ok (.iload_n 2, 1) := by decide +kernel
theorem d_Na_init_41 : decode c_Na_init 41 = .ok (.putfield 15, 3) := by decide +kernel
theorem d_Na_init_44 : decode c_Na_init 44 = .ok (.return_, 1) := by decide +kernel
abbrev c_Da_init : ByteArray := prog_3_method_1_code
abbrev y_Da_init : MethodName := ⟨"ZoneAnswers$Datum", "<init>", "([BLZoneAnswers$Name;)V"⟩
theorem d_Da_init_0 : decode c_Da_init 0 = .ok (.aload_n 0, 1) := by decide +kernel
theorem d_Da_init_1 : decode c_Da_init 1 = .ok (.invokespecial 1, 3) := by decide +kernel
theorem d_Da_init_4 : decode c_Da_init 4 = .ok (.aload_n 0, 1) := by decide +kernel
theorem d_Da_init_5 : decode c_Da_init 5 = .ok (.aload_n 1, 1) := by decide +kernel
theorem d_Da_init_6 : decode c_Da_init 6 = .ok (.putfield 7, 3) := by decide +kernel
theorem d_Da_init_9 : decode c_Da_init 9 = .ok (.aload_n 0, 1) := by decide +kernel
theorem d_Da_init_10 : decode c_Da_init 10 = .ok (.aload_n 2, 1) := by decide +kernel
theorem d_Da_init_11 : decode c_Da_init 11 = .ok (.putfield 13, 3) := by decide +kernel
theorem d_Da_init_14 : decode c_Da_init 14 = .ok (.return_, 1) := by decide +kernel
abbrev c_To_init : ByteArray := prog_9_method_1_code
abbrev y_To_init : MethodName := ⟨"ZoneAnswers$Told", "<init>", "(LZoneAnswers$Name;IILZoneAnswers$Datum;)V"⟩
theorem d_To_init_0 : decode c_To_init 0 = .ok (.aload_n 0, 1) := by decide +kernel
theorem d_To_init_1 : decode c_To_init 1 = .ok (.invokespecial 1, 3) := by decide +kernel
theorem d_To_init_4 : decode c_To_init 4 = .ok (.aload_n 0, 1) := by decide +kernel
theorem d_To_init_5 : decode c_To_init 5 = .ok (.aload_n 1, 1) := by decide +kernel
theorem d_To_init_6 : decode c_To_init 6 = .ok (.putfield 7, 3) := by decide +kernel
theorem d_To_init_9 : decode c_To_init 9 = .ok (.aload_n 0, 1) := by decide +kernel
theorem d_To_init_10 : decode c_To_init 10 = .ok (.iload_n 2, 1) := by decide +kernel
theorem d_To_init_11 : decode c_To_init 11 = .ok (.putfield 13, 3) := by decide +kernel
theorem d_To_init_14 : decode c_To_init 14 = .ok (.aload_n 0, 1) := by decide +kernel
theorem d_To_init_15 : decode c_To_init 15 = .ok (.iload_n 3, 1) := by decide +kernel
theorem d_To_init_16 : decode c_To_init 16 = .ok (.putfield 17, 3) := by decide +kernel
theorem d_To_init_19 : decode c_To_init 19 = .ok (.aload_n 0, 1) := by decide +kernel
theorem d_To_init_20 : decode c_To_init 20 = .ok (.aload 4, 2) := by decide +kernel
theorem d_To_init_22 : decode c_To_init 22 = .ok (.putfield 20, 3) := by decide +kernel
theorem d_To_init_25 : decode c_To_init 25 = .ok (.return_, 1) := by decide +kernel
abbrev c_Ta_init : ByteArray := prog_8_method_1_code
abbrev y_Ta_init : MethodName := ⟨"ZoneAnswers$Tape", "<init>", "()V"⟩
theorem d_Ta_init_0 : decode c_Ta_init 0 = .ok (.aload_n 0, 1) := by decide +kernel
theorem d_Ta_init_1 : decode c_Ta_init 1 = .ok (.invokespecial 3, 3) := by decide +kernel
theorem d_Ta_init_4 : decode c_Ta_init 4 = .ok (.aload_n 0, 1) := by decide +kernel
theorem d_Ta_init_5 : decode c_Ta_init 5 = .ok (.sipush 256, 3) := by decide +kernel
theorem d_Ta_init_8 : decode c_Ta_init 8 = .ok (.newarray .byte, 2) := by decide +kernel
theorem d_Ta_init_10 : decode c_Ta_init 10 = .ok (.putfield 11, 3) := by decide +kernel
theorem d_Ta_init_13 : decode c_Ta_init 13 = .ok (.aload_n 0, 1) := by decide +kernel
theorem d_Ta_init_14 : decode c_Ta_init 14 = .ok (.iconst 0, 1) := by decide +kernel
theorem d_Ta_init_15 : decode c_Ta_init 15 = .ok (.putfield 15, 3) := by decide +kernel
theorem d_Ta_init_18 : decode c_Ta_init 18 = .ok (.return_, 1) := by decide +kernel
abbrev c_Ac_init : ByteArray := prog_33_method_1_code
abbrev y_Ac_init : MethodName := ⟨"java/util/AbstractCollection", "<init>", "()V"⟩
theorem d_Ac_init_0 : decode c_Ac_init 0 = .ok (.aload_n 0, 1) := by decide +kernel
theorem d_Ac_init_1 : decode c_Ac_init 1 = .ok (.invokespecial 1, 3) := by decide +kernel
theorem d_Ac_init_4 : decode c_Ac_init 4 = .ok (.return_, 1) := by decide +kernel
abbrev c_Ab_init : ByteArray := prog_34_method_1_code
abbrev y_Ab_init : MethodName := ⟨"java/util/AbstractList", "<init>", "()V"⟩
theorem d_Ab_init_0 : decode c_Ab_init 0 = .ok (.aload_n 0, 1) := by decide +kernel
theorem d_Ab_init_1 : decode c_Ab_init 1 = .ok (.invokespecial 1, 3) := by decide +kernel
theorem d_Ab_init_4 : decode c_Ab_init 4 = .ok (.aload_n 0, 1) := by decide +kernel
theorem d_Ab_init_5 : decode c_Ab_init 5 = .ok (.iconst 0, 1) := by decide +kernel
theorem d_Ab_init_6 : decode c_Ab_init 6 = .ok (.putfield 7, 3) := by decide +kernel
theorem d_Ab_init_9 : decode c_Ab_init 9 = .ok (.return_, 1) := by decide +kernel
abbrev c_AL_init : ByteArray := prog_35_method_2_code
abbrev y_AL_init : MethodName := ⟨"java/util/ArrayList", "<init>", "()V"⟩
theorem d_AL_init_0 : decode c_AL_init 0 = .ok (.aload_n 0, 1) := by decide +kernel
theorem d_AL_init_1 : decode c_AL_init 1 = .ok (.invokespecial 1, 3) := by decide +kernel
theorem d_AL_init_4 : decode c_AL_init 4 = .ok (.aload_n 0, 1) := by decide +kernel
theorem d_AL_init_5 : decode c_AL_init 5 = .ok (.getstatic 39, 3) := by decide +kernel
theorem d_AL_init_8 : decode c_AL_init 8 = .ok (.putfield 9, 3) := by decide +kernel
theorem d_AL_init_11 : decode c_AL_init 11 = .ok (.return_, 1) := by decide +kernel
abbrev c_Se_init : ByteArray := prog_7_method_1_code
abbrev y_Se_init : MethodName := ⟨"ZoneAnswers$Section", "<init>", "()V"⟩
theorem d_Se_init_0 : decode c_Se_init 0 = .ok (.aload_n 0, 1) := by decide +kernel
theorem d_Se_init_1 : decode c_Se_init 1 = .ok (.invokespecial 1, 3) := by decide +kernel
theorem d_Se_init_4 : decode c_Se_init 4 = .ok (.aload_n 0, 1) := by decide +kernel
theorem d_Se_init_5 : decode c_Se_init 5 = .ok (.new 7, 3) := by decide +kernel
theorem d_Se_init_8 : decode c_Se_init 8 = .ok (.dup, 1) := by decide +kernel
theorem d_Se_init_9 : decode c_Se_init 9 = .ok (.invokespecial 9, 3) := by decide +kernel
theorem d_Se_init_12 : decode c_Se_init 12 = .ok (.putfield 10, 3) := by decide +kernel
theorem d_Se_init_15 : decode c_Se_init 15 = .ok (.return_, 1) := by decide +kernel
abbrev rm_Na_init : Room := { frames := 1, cells := 0, slots := 0, locals := 12 }
set_option maxHeartbeats 4000000 in
set_option maxRecDepth 100000 in
/-- new Name(bytes) -/
theorem t_Na_init (l : Launch) (E : zc_E) (G : zg_G) (a0 : Nat) (b0 : Nat) (ls0 : np_N) (f0 : Nat → Int32) (hb0 : G b0 = some (.inl (E.2.1 0, np_len ls0, .inl f0))) (hf0 : np_f ls0 f0) (hg0 : np_g ls0) (ha0 : G a0 = some (.inr (3, [.null, .int 0]))) : zMv l E y_Na_init c_Na_init 4 rm_Na_init [.ref a0, .ref b0] G (fun (G2 : zg_G) => G2 = zg_up G a0 (.inr (3, [.ref b0, .int (nI ls0.length)]))) := by
  refine zMv.of (by decide) (Nat.le_of_ble_eq_true rfl) ?_
  intro p e s m args below meth c Q hZ hG hret ls hl
  obtain ⟨hx, hb, hr, hts, hown, hlocks, hml, hnm, hbase, hK, hN, hQ⟩ := hZ
  have hl : lv_has ls 4 [(0, .ref a0), (1, .ref b0)] := hl
  have hS : zg_S (zc_b E) s.heap s.heap [] := va_S.rf
  have zl0 := hg0.2
  have zc0 := hg0.count
  refine lv_aload_n hx hb d_Na_init_0 rfl (lv_at hl 0 rfl) ?_
  refine W.objInit hx hb hown (hts _ w_112) (hts _ w_43) (hts _ w_44) rfl (by rw [hml]; exact hl.1) rfl d_Na_init_1 (Nat.le_of_ble_eq_true rfl) (Nat.le_of_ble_eq_true rfl) ?_
  refine W.eq (g2 := F0 m 4 ls []) rfl ?_
  refine lv_aload_n hx hb d_Na_init_4 rfl (lv_at hl 0 rfl) ?_
  refine lv_aload_n hx hb d_Na_init_5 rfl (lv_at hl 1 rfl) ?_
  refine zg_putF (ci := 3) (v := .ref b0) (ty := .array .byte) (C := "ZoneAnswers$Name") (T := T_Na) (N := 2) hx hb hts zi_Na t_Na t_Na_ok n_Na hown hK hG hS ha0 rfl 0 (by decide) (hts _ w_113) (fun _ h9 => h9) rfl hnm rfl (by decide +kernel) rfl rfl (Nat.le_of_ble_eq_true rfl) d_Na_init_6 (fun H locs hG hS => ?_)
  obtain ⟨G1, eG1⟩ : ∃ z : zg_G, z = zg_up G a0 (.inr (3, [.ref b0, .int 0])) := ⟨_, rfl⟩
  have hG : zP E G1 H := by rw [eG1]; exact hG
  have k2 : G1 a0 = some (.inr (3, [.ref b0, .int 0])) := by rw [eG1]; exact zg_up_self _ _ _
  have k3 : G1 b0 = some (.inl (E.2.1 0, np_len ls0, .inl f0)) := by rw [eG1, zg_up_ne (zg_ne hb0 ha0 (by intro h; simp at h))]; exact hb0
  refine lv_iconst (v := 0) hx hb d_Na_init_9 (by decide) ?_
  refine lv_istore_n (lv' := [(2, .int 0), (0, .ref a0), (1, .ref b0)]) hx hb d_Na_init_10 rfl hl (by decide) rfl (fun ls hl => ?_)
  refine lv_iconst (v := 0) hx hb d_Na_init_11 (by decide) ?_
  refine lv_istore_n (lv' := [(3, .int 0), (2, .int 0), (0, .ref a0), (1, .ref b0)]) hx hb d_Na_init_12 rfl hl (by decide) rfl (fun ls hl => ?_)
  have loop13 : ∀ (N : Nat) (i : Nat), (ls0.length - i) < N → (i ≤ ls0.length) → ∀ (ls : Array Slot), lv_has ls 4 [(0, .ref a0), (1, .ref b0), (2, .int (nI i)), (3, .int (nI (np_pos ls0 i)))] → W p l e rm_Na_init s m args below meth c H locs 0 0 Q (F0 m 13 ls []) := by
    intro N
    induction N with
    | zero =>
      intro i hlt
      exact absurd hlt (Nat.not_lt_zero _)
    | succ N ih =>
      intro i hlt hi ls hl
      have zp := np_pos_le ls0 i hi
      refine lv_iload_n hx hb d_Na_init_13 rfl (lv_at hl 3 rfl) ?_
      refine lv_aload_n hx hb d_Na_init_14 rfl (lv_at hl 1 rfl) ?_
      refine zg_alen hx hb hK hG 0 k3 rfl (v := nI (np_len ls0)) rfl d_Na_init_15 ?_
      refine lv_icmp_ge (tgt := 39) hx hb d_Na_init_16 (by decide) (fun c16 => ?_) (fun c16 => ?_)
      · have b16 : (np_len ls0) ≤ (np_pos ls0 i) := (nI_leI (a := (np_len ls0)) (b := (np_pos ls0 i)) (by omega) (by omega)).mp c16
        exact absurd b16 (by omega)
      · have b16 : ¬ (np_len ls0) ≤ (np_pos ls0 i) := fun q => c16 ((nI_leI (a := (np_len ls0)) (b := (np_pos ls0 i)) (by omega) (by omega)).mpr q)
        refine lv_aload_n hx hb d_Na_init_19 rfl (lv_at hl 1 rfl) ?_
        refine lv_iload_n hx hb d_Na_init_20 rfl (lv_at hl 3 rfl) ?_
        refine zg_bald hx hb hK hG 0 k3 rfl (vp_in_nI (by omega) (by omega)) d_Na_init_21 ?_
        refine zi_as (y := f0 (np_pos ls0 i)) (by rw [zi_n _ (by omega)]) ?_
        refine lv_if_le (tgt := 39) hx hb d_Na_init_22 (by decide) (fun c22 => ?_) (fun c22 => ?_)
        · have hi2 := np_fle hf0 hg0 hi c22
          refine lv_aload_n hx hb d_Na_init_39 rfl (lv_at hl 0 rfl) ?_
          refine lv_iload_n hx hb d_Na_init_40 rfl (lv_at hl 2 rfl) ?_
          refine zg_putF (ci := 3) (v := .int (nI i)) (ty := .int) (C := "ZoneAnswers$Name") (T := T_Na) (N := 2) hx hb hts zi_Na t_Na t_Na_ok n_Na hown hK hG hS k2 rfl 1 (by decide) (hts _ w_116) (fun _ h9 => h9) rfl hnm rfl (by decide +kernel) rfl rfl (Nat.le_of_ble_eq_true rfl) d_Na_init_41 (fun H locs hG hS => ?_)
          obtain ⟨G4, eG4⟩ : ∃ z : zg_G, z = zg_up G1 a0 (.inr (3, [.ref b0, .int (nI i)])) := ⟨_, rfl⟩
          have hG : zP E G4 H := by rw [eG4]; exact hG
          have k5 : G4 a0 = some (.inr (3, [.ref b0, .int (nI i)])) := by rw [eG4]; exact zg_up_self _ _ _
          have k6 : G4 b0 = some (.inl (E.2.1 0, np_len ls0, .inl f0)) := by rw [eG4, zg_up_ne (zg_ne k3 k2 (by intro h; simp at h))]; exact k3
          exact hret _ _ _ _ _ _ _ (by rw [eG4, eG1, zg_up_up, hi2]) hG hS (Nat.le_refl _) (Nat.le_refl _) d_Na_init_44
        · have hi2 := np_fgt hf0 hi c22
          refine lv_iinc (v := nI (i + 1)) (lv' := [(2, .int (nI (i + 1))), (0, .ref a0), (1, .ref b0), (3, .int (nI (np_pos ls0 i)))]) hx hb d_Na_init_25 hl (k := 2) rfl (nI_add i 1) (by decide) rfl (fun ls hl => ?_)
          refine lv_iload_n hx hb d_Na_init_28 rfl (lv_at hl 3 rfl) ?_
          refine lv_aload_n hx hb d_Na_init_29 rfl (lv_at hl 2 rfl) ?_
          refine lv_iload_n hx hb d_Na_init_30 rfl (lv_at hl 3 rfl) ?_
          refine zg_bald hx hb hK hG 0 k3 rfl (np_in hg0 hi) d_Na_init_31 ?_
          refine zi_as (y := nI (ls0.getD i []).length) (np_rd hf0 hg0 hi2) ?_
          refine lv_iconst (v := 1) hx hb d_Na_init_32 (by decide) ?_
          refine lv_iadd hx hb d_Na_init_33 ?_
          refine lv_iadd hx hb d_Na_init_34 ?_
          refine zi_as (y := nI (np_pos ls0 (i + 1))) (np_step hi2) ?_
          refine lv_istore_n (lv' := [(3, .int (nI (np_pos ls0 (i + 1)))), (2, .int (nI (i + 1))), (0, .ref a0), (1, .ref b0)]) hx hb d_Na_init_35 rfl hl (by decide) rfl (fun ls hl => ?_)
          refine lv_goto (tgt := 13) hx hb d_Na_init_36 (by decide) ?_
          exact ih (i + 1) (by omega) (hi2) ls (lv_sub hl [2, 3, 1, 0] rfl)
  have hl : lv_has ls 4 [(3, .int (nI (np_pos ls0 0))), (2, .int (nI 0)), (0, .ref a0), (1, .ref b0)] := by rw [np_pos0]; exact hl
  exact loop13 _ 0 (Nat.lt_succ_self _) (Nat.zero_le _) ls (lv_sub hl [2, 3, 1, 0] rfl)
abbrev rm_Da_init : Room := { frames := 1, cells := 0, slots := 0, locals := 12 }
set_option maxHeartbeats 4000000 in
set_option maxRecDepth 100000 in
/-- new Datum(bytes, target) -/
theorem t_Da_init_n (l : Launch) (E : zc_E) (G : zg_G) (a b : Nat) (ha : G a = some (.inr (2, [.null, .null]))) : zMv l E y_Da_init c_Da_init 3 rm_Da_init [.ref a, .ref b, .null] G (fun (G2 : zg_G) => G2 = zg_up G a (.inr (2, [.ref b, .null]))) := by
  refine zMv.of (by decide) (Nat.le_of_ble_eq_true rfl) ?_
  intro p e s m args below meth c Q hZ hG hret ls hl
  obtain ⟨hx, hb, hr, hts, hown, hlocks, hml, hnm, hbase, hK, hN, hQ⟩ := hZ
  have hl : lv_has ls 3 [(0, .ref a), (1, .ref b), (2, .null)] := hl
  have hS : zg_S (zc_b E) s.heap s.heap [] := va_S.rf
  refine lv_aload_n hx hb d_Da_init_0 rfl (lv_at hl 0 rfl) ?_
  refine W.objInit hx hb hown (hts _ w_138) (hts _ w_43) (hts _ w_44) rfl (by rw [hml]; exact hl.1) rfl d_Da_init_1 (Nat.le_of_ble_eq_true rfl) (Nat.le_of_ble_eq_true rfl) ?_
  refine W.eq (g2 := F0 m 4 ls []) rfl ?_
  refine lv_aload_n hx hb d_Da_init_4 rfl (lv_at hl 0 rfl) ?_
  refine lv_aload_n hx hb d_Da_init_5 rfl (lv_at hl 1 rfl) ?_
  refine zg_putF (ci := 2) (v := .ref b) (ty := .array .byte) (C := "ZoneAnswers$Datum") (T := T_Da) (N := 2) hx hb hts zi_Da t_Da t_Da_ok n_Da hown hK hG hS ha rfl 0 (by decide) (hts _ w_139) (fun _ h9 => h9) rfl hnm rfl (by decide +kernel) rfl rfl (Nat.le_of_ble_eq_true rfl) d_Da_init_6 (fun H locs hG hS => ?_)
  obtain ⟨G1, eG1⟩ : ∃ z : zg_G, z = zg_up G a (.inr (2, [.ref b, .null])) := ⟨_, rfl⟩
  have hG : zP E G1 H := by rw [eG1]; exact hG
  have k2 : G1 a = some (.inr (2, [.ref b, .null])) := by rw [eG1]; exact zg_up_self _ _ _
  refine lv_aload_n hx hb d_Da_init_9 rfl (lv_at hl 0 rfl) ?_
  refine lv_aload_nN hx hb d_Da_init_10 rfl (lv_at hl 2 rfl) ?_
  refine zg_putF (ci := 2) (v := .null) (ty := .object "ZoneAnswers$Name") (C := "ZoneAnswers$Datum") (T := T_Da) (N := 2) hx hb hts zi_Da t_Da t_Da_ok n_Da hown hK hG hS k2 rfl 1 (by decide) (hts _ w_142) (fun _ h9 => h9) rfl hnm rfl (by decide +kernel) rfl rfl (Nat.le_of_ble_eq_true rfl) d_Da_init_11 (fun H locs hG hS => ?_)
  obtain ⟨G3, eG3⟩ : ∃ z : zg_G, z = zg_up G1 a (.inr (2, [.ref b, .null])) := ⟨_, rfl⟩
  have hG : zP E G3 H := by rw [eG3]; exact hG
  have k4 : G3 a = some (.inr (2, [.ref b, .null])) := by rw [eG3]; exact zg_up_self _ _ _
  exact hret _ _ _ _ _ _ _ (by rw [eG3, eG1, zg_up_up]) hG hS (Nat.le_refl _) (Nat.le_refl _) d_Da_init_14
set_option maxHeartbeats 4000000 in
set_option maxRecDepth 100000 in
/-- new Datum(bytes, target) -/
theorem t_Da_init_s (l : Launch) (E : zc_E) (G : zg_G) (a b : Nat) (t : Nat) (ha : G a = some (.inr (2, [.null, .null]))) : zMv l E y_Da_init c_Da_init 3 rm_Da_init [.ref a, .ref b, .ref t] G (fun (G2 : zg_G) => G2 = zg_up G a (.inr (2, [.ref b, .ref t]))) := by
  refine zMv.of (by decide) (Nat.le_of_ble_eq_true rfl) ?_
  intro p e s m args below meth c Q hZ hG hret ls hl
  obtain ⟨hx, hb, hr, hts, hown, hlocks, hml, hnm, hbase, hK, hN, hQ⟩ := hZ
  have hl : lv_has ls 3 [(0, .ref a), (1, .ref b), (2, .ref t)] := hl
  have hS : zg_S (zc_b E) s.heap s.heap [] := va_S.rf
  refine lv_aload_n hx hb d_Da_init_0 rfl (lv_at hl 0 rfl) ?_
  refine W.objInit hx hb hown (hts _ w_138) (hts _ w_43) (hts _ w_44) rfl (by rw [hml]; exact hl.1) rfl d_Da_init_1 (Nat.le_of_ble_eq_true rfl) (Nat.le_of_ble_eq_true rfl) ?_
  refine W.eq (g2 := F0 m 4 ls []) rfl ?_
  refine lv_aload_n hx hb d_Da_init_4 rfl (lv_at hl 0 rfl) ?_
  refine lv_aload_n hx hb d_Da_init_5 rfl (lv_at hl 1 rfl) ?_
  refine zg_putF (ci := 2) (v := .ref b) (ty := .array .byte) (C := "ZoneAnswers$Datum") (T := T_Da) (N := 2) hx hb hts zi_Da t_Da t_Da_ok n_Da hown hK hG hS ha rfl 0 (by decide) (hts _ w_139) (fun _ h9 => h9) rfl hnm rfl (by decide +kernel) rfl rfl (Nat.le_of_ble_eq_true rfl) d_Da_init_6 (fun H locs hG hS => ?_)
  obtain ⟨G1, eG1⟩ : ∃ z : zg_G, z = zg_up G a (.inr (2, [.ref b, .null])) := ⟨_, rfl⟩
  have hG : zP E G1 H := by rw [eG1]; exact hG
  have k2 : G1 a = some (.inr (2, [.ref b, .null])) := by rw [eG1]; exact zg_up_self _ _ _
  refine lv_aload_n hx hb d_Da_init_9 rfl (lv_at hl 0 rfl) ?_
  refine lv_aload_n hx hb d_Da_init_10 rfl (lv_at hl 2 rfl) ?_
  refine zg_putF (ci := 2) (v := .ref t) (ty := .object "ZoneAnswers$Name") (C := "ZoneAnswers$Datum") (T := T_Da) (N := 2) hx hb hts zi_Da t_Da t_Da_ok n_Da hown hK hG hS k2 rfl 1 (by decide) (hts _ w_142) (fun _ h9 => h9) rfl hnm rfl (by decide +kernel) rfl rfl (Nat.le_of_ble_eq_true rfl) d_Da_init_11 (fun H locs hG hS => ?_)
  obtain ⟨G3, eG3⟩ : ∃ z : zg_G, z = zg_up G1 a (.inr (2, [.ref b, .ref t])) := ⟨_, rfl⟩
  have hG : zP E G3 H := by rw [eG3]; exact hG
  have k4 : G3 a = some (.inr (2, [.ref b, .ref t])) := by rw [eG3]; exact zg_up_self _ _ _
  exact hret _ _ _ _ _ _ _ (by rw [eG3, eG1, zg_up_up]) hG hS (Nat.le_refl _) (Nat.le_refl _) d_Da_init_14
abbrev rm_To_init : Room := { frames := 1, cells := 0, slots := 0, locals := 12 }
set_option maxHeartbeats 4000000 in
set_option maxRecDepth 100000 in
/-- new Told(..) -/
theorem t_To_init (l : Launch) (E : zc_E) (G : zg_G) (a x dd : Nat) (t u : Int32) (ha : G a = some (.inr (8, [.null, .int 0, .int 0, .null]))) : zMv l E y_To_init c_To_init 5 rm_To_init [.ref a, .ref x, .int t, .int u, .ref dd] G (fun (G2 : zg_G) => G2 = zg_up G a (.inr (8, [.ref x, .int t, .int u, .ref dd]))) := by
  refine zMv.of (by decide) (Nat.le_of_ble_eq_true rfl) ?_
  intro p e s m args below meth c Q hZ hG hret ls hl
  obtain ⟨hx, hb, hr, hts, hown, hlocks, hml, hnm, hbase, hK, hN, hQ⟩ := hZ
  have hl : lv_has ls 5 [(0, .ref a), (1, .ref x), (2, .int t), (3, .int u), (4, .ref dd)] := hl
  have hS : zg_S (zc_b E) s.heap s.heap [] := va_S.rf
  refine lv_aload_n hx hb d_To_init_0 rfl (lv_at hl 0 rfl) ?_
  refine W.objInit hx hb hown (hts _ w_1045) (hts _ w_43) (hts _ w_44) rfl (by rw [hml]; exact hl.1) rfl d_To_init_1 (Nat.le_of_ble_eq_true rfl) (Nat.le_of_ble_eq_true rfl) ?_
  refine W.eq (g2 := F0 m 4 ls []) rfl ?_
  refine lv_aload_n hx hb d_To_init_4 rfl (lv_at hl 0 rfl) ?_
  refine lv_aload_n hx hb d_To_init_5 rfl (lv_at hl 1 rfl) ?_
  refine zg_putF (ci := 8) (v := .ref x) (ty := .object "ZoneAnswers$Name") (C := "ZoneAnswers$Told") (T := T_To) (N := 4) hx hb hts zi_To t_To t_To_ok n_To hown hK hG hS ha rfl 0 (by decide) (hts _ w_1046) (fun _ h9 => h9) rfl hnm rfl (by decide +kernel) rfl rfl (Nat.le_of_ble_eq_true rfl) d_To_init_6 (fun H locs hG hS => ?_)
  obtain ⟨G1, eG1⟩ : ∃ z : zg_G, z = zg_up G a (.inr (8, [.ref x, .int 0, .int 0, .null])) := ⟨_, rfl⟩
  have hG : zP E G1 H := by rw [eG1]; exact hG
  have k2 : G1 a = some (.inr (8, [.ref x, .int 0, .int 0, .null])) := by rw [eG1]; exact zg_up_self _ _ _
  refine lv_aload_n hx hb d_To_init_9 rfl (lv_at hl 0 rfl) ?_
  refine lv_iload_n hx hb d_To_init_10 rfl (lv_at hl 2 rfl) ?_
  refine zg_putF (ci := 8) (v := .int t) (ty := .int) (C := "ZoneAnswers$Told") (T := T_To) (N := 4) hx hb hts zi_To t_To t_To_ok n_To hown hK hG hS k2 rfl 1 (by decide) (hts _ w_1049) (fun _ h9 => h9) rfl hnm rfl (by decide +kernel) rfl rfl (Nat.le_of_ble_eq_true rfl) d_To_init_11 (fun H locs hG hS => ?_)
  obtain ⟨G3, eG3⟩ : ∃ z : zg_G, z = zg_up G1 a (.inr (8, [.ref x, .int t, .int 0, .null])) := ⟨_, rfl⟩
  have hG : zP E G3 H := by rw [eG3]; exact hG
  have k4 : G3 a = some (.inr (8, [.ref x, .int t, .int 0, .null])) := by rw [eG3]; exact zg_up_self _ _ _
  refine lv_aload_n hx hb d_To_init_14 rfl (lv_at hl 0 rfl) ?_
  refine lv_iload_n hx hb d_To_init_15 rfl (lv_at hl 3 rfl) ?_
  refine zg_putF (ci := 8) (v := .int u) (ty := .int) (C := "ZoneAnswers$Told") (T := T_To) (N := 4) hx hb hts zi_To t_To t_To_ok n_To hown hK hG hS k4 rfl 2 (by decide) (hts _ w_1053) (fun _ h9 => h9) rfl hnm rfl (by decide +kernel) rfl rfl (Nat.le_of_ble_eq_true rfl) d_To_init_16 (fun H locs hG hS => ?_)
  obtain ⟨G5, eG5⟩ : ∃ z : zg_G, z = zg_up G3 a (.inr (8, [.ref x, .int t, .int u, .null])) := ⟨_, rfl⟩
  have hG : zP E G5 H := by rw [eG5]; exact hG
  have k6 : G5 a = some (.inr (8, [.ref x, .int t, .int u, .null])) := by rw [eG5]; exact zg_up_self _ _ _
  refine lv_aload_n hx hb d_To_init_19 rfl (lv_at hl 0 rfl) ?_
  refine lv_aload hx hb d_To_init_20 (lv_at hl 4 rfl) ?_
  refine zg_putF (ci := 8) (v := .ref dd) (ty := .object "ZoneAnswers$Datum") (C := "ZoneAnswers$Told") (T := T_To) (N := 4) hx hb hts zi_To t_To t_To_ok n_To hown hK hG hS k6 rfl 3 (by decide) (hts _ w_1055) (fun _ h9 => h9) rfl hnm rfl (by decide +kernel) rfl rfl (Nat.le_of_ble_eq_true rfl) d_To_init_22 (fun H locs hG hS => ?_)
  obtain ⟨G7, eG7⟩ : ∃ z : zg_G, z = zg_up G5 a (.inr (8, [.ref x, .int t, .int u, .ref dd])) := ⟨_, rfl⟩
  have hG : zP E G7 H := by rw [eG7]; exact hG
  have k8 : G7 a = some (.inr (8, [.ref x, .int t, .int u, .ref dd])) := by rw [eG7]; exact zg_up_self _ _ _
  exact hret _ _ _ _ _ _ _ (by rw [eG7, eG5, eG3, eG1, zg_up_up, zg_up_up, zg_up_up]) hG hS (Nat.le_refl _) (Nat.le_refl _) d_To_init_25
abbrev rm_Ta_init : Room := { frames := 1, cells := 1, slots := 256, locals := 12 }
set_option maxHeartbeats 4000000 in
set_option maxRecDepth 100000 in
/-- new Tape() -/
theorem t_Ta_init (l : Launch) (E : zc_E) (G : zg_G) (a : Nat) (ha : G a = some (.inr (7, [.null, .int 0]))) : zMv l E y_Ta_init c_Ta_init 1 rm_Ta_init [.ref a] G (fun (G2 : zg_G) => ∃ b, G b = none ∧ G2 = zg_up (zg_up G b (.inl (E.2.1 0, 256, .inl (fun _ => 0)))) a (.inr (7, [.ref b, .int 0]))) := by
  refine zMv.of (by decide) (Nat.le_of_ble_eq_true rfl) ?_
  intro p e s m args below meth c Q hZ hG hret ls hl
  obtain ⟨hx, hb, hr, hts, hown, hlocks, hml, hnm, hbase, hK, hN, hQ⟩ := hZ
  have hl : lv_has ls 1 [(0, .ref a)] := hl
  have hS : zg_S (zc_b E) s.heap s.heap [] := va_S.rf
  refine lv_aload_n hx hb d_Ta_init_0 rfl (lv_at hl 0 rfl) ?_
  refine W.objInit hx hb hown (hts _ w_50) (hts _ w_43) (hts _ w_44) rfl (by rw [hml]; exact hl.1) rfl d_Ta_init_1 (Nat.le_of_ble_eq_true rfl) (Nat.le_of_ble_eq_true rfl) ?_
  refine W.eq (g2 := F0 m 4 ls []) rfl ?_
  refine lv_aload_n hx hb d_Ta_init_4 rfl (lv_at hl 0 rfl) ?_
  refine lv_sipush (v := 256) hx hb d_Ta_init_5 (by decide) ?_
  refine zg_newp (atype := .byte) (ty := .byte) (N' := 256) (a0 := (256, .inl (fun _ => 0))) hx hb (hts _ w_58) rfl hK hG hS hbase (fun _ => rfl) (by decide) (by decide) (by show _ * _ ≤ _; simp only [componentBytes]; omega) (by decide) (by decide) d_Ta_init_8 0 rfl (fun _ h => h) (fun q8 H n8 hG hS => ?_)
  obtain ⟨G1, eG1⟩ : ∃ z : zg_G, z = zg_up G q8 (.inl (E.2.1 0, 256, .inl (fun _ => 0))) := ⟨_, rfl⟩
  have hG : zP E G1 H := by rw [eG1]; exact hG
  have ne8_a : a ≠ q8 := zg_fr n8 ha
  have k2 : G1 a = some (.inr (7, [.null, .int 0])) := by rw [eG1, zg_up_ne (zg_fr n8 ha)]; exact ha
  have k3 : G1 q8 = some (.inl (E.2.1 0, 256, .inl (fun _ => 0))) := by rw [eG1]; exact zg_up_self _ _ _
  refine zg_put (ci := 7) (v := .ref q8) (ty := .array .byte) (C := "ZoneAnswers$Tape") (T := T_Ta) (N := 2) hx hb hts zi_Ta t_Ta t_Ta_ok n_Ta hown hK hG hS k2 rfl 0 (by decide) (hts _ w_51) (fun _ h9 => h9) rfl (by decide +kernel) rfl rfl (Nat.le_of_ble_eq_true rfl) d_Ta_init_10 (fun H locs hG hS => ?_)
  obtain ⟨G4, eG4⟩ : ∃ z : zg_G, z = zg_up G1 a (.inr (7, [.ref q8, .int 0])) := ⟨_, rfl⟩
  have hG : zP E G4 H := by rw [eG4]; exact hG
  have k5 : G4 a = some (.inr (7, [.ref q8, .int 0])) := by rw [eG4]; exact zg_up_self _ _ _
  have k6 : G4 q8 = some (.inl (E.2.1 0, 256, .inl (fun _ => 0))) := by rw [eG4, zg_up_ne (Ne.symm ne8_a)]; exact k3
  refine lv_aload_n hx hb d_Ta_init_13 rfl (lv_at hl 0 rfl) ?_
  refine lv_iconst (v := 0) hx hb d_Ta_init_14 (by decide) ?_
  refine zg_put (ci := 7) (v := .int 0) (ty := .int) (C := "ZoneAnswers$Tape") (T := T_Ta) (N := 2) hx hb hts zi_Ta t_Ta t_Ta_ok n_Ta hown hK hG hS k5 rfl 1 (by decide) (hts _ w_52) (fun _ h9 => h9) rfl (by decide +kernel) rfl rfl (Nat.le_of_ble_eq_true rfl) d_Ta_init_15 (fun H locs hG hS => ?_)
  obtain ⟨G7, eG7⟩ : ∃ z : zg_G, z = zg_up G4 a (.inr (7, [.ref q8, .int 0])) := ⟨_, rfl⟩
  have hG : zP E G7 H := by rw [eG7]; exact hG
  have k8 : G7 a = some (.inr (7, [.ref q8, .int 0])) := by rw [eG7]; exact zg_up_self _ _ _
  have k9 : G7 q8 = some (.inl (E.2.1 0, 256, .inl (fun _ => 0))) := by rw [eG7, zg_up_ne (Ne.symm ne8_a)]; exact k6
  exact hret _ _ _ _ _ _ _ (⟨q8, n8, by rw [eG7, eG4, zg_up_up, eG1]⟩) hG hS (by decide) (by decide) d_Ta_init_18
abbrev rm_Ac_init : Room := { frames := 1, cells := 0, slots := 0, locals := 12 }
set_option maxHeartbeats 4000000 in
set_option maxRecDepth 100000 in
theorem t_Ac_init (l : Launch) (E : zc_E) (G : zg_G) (a : Nat) : zMv l E y_Ac_init c_Ac_init 1 rm_Ac_init [.ref a] G (fun (G2 : zg_G) => G2 = G) := by
  refine zMv.of (by decide) (Nat.le_of_ble_eq_true rfl) ?_
  intro p e s m args below meth c Q hZ hG hret ls hl
  obtain ⟨hx, hb, hr, hts, hown, hlocks, hml, hnm, hbase, hK, hN, hQ⟩ := hZ
  have hl : lv_has ls 1 [(0, .ref a)] := hl
  have hS : zg_S (zc_b E) s.heap s.heap [] := va_S.rf
  refine lv_aload_n hx hb d_Ac_init_0 rfl (lv_at hl 0 rfl) ?_
  refine W.objInit hx hb hown (hts _ w_76) (hts _ w_43) (hts _ w_44) rfl (by rw [hml]; exact hl.1) rfl d_Ac_init_1 (Nat.le_of_ble_eq_true rfl) (Nat.le_of_ble_eq_true rfl) ?_
  refine W.eq (g2 := F0 m 4 ls []) rfl ?_
  exact hret _ _ _ _ _ _ _ (rfl) hG hS (Nat.le_refl _) (Nat.le_refl _) d_Ac_init_4
abbrev rm_Ab_init : Room := { frames := 2, cells := 0, slots := 0, locals := 40 }
set_option maxHeartbeats 4000000 in
set_option maxRecDepth 100000 in
theorem t_Ab_init (l : Launch) (E : zc_E) (G : zg_G) (a : Nat) (ha : G a = some (.inr (0, [.null, .int 0, .int 0]))) : zMv l E y_Ab_init c_Ab_init 1 rm_Ab_init [.ref a] G (fun (G2 : zg_G) => G2 = G) := by
  refine zMv.of (by decide) (Nat.le_of_ble_eq_true rfl) ?_
  intro p e s m args below meth c Q hZ hG hret ls hl
  obtain ⟨hx, hb, hr, hts, hown, hlocks, hml, hnm, hbase, hK, hN, hQ⟩ := hZ
  have hl : lv_has ls 1 [(0, .ref a)] := hl
  have hS : zg_S (zc_b E) s.heap s.heap [] := va_S.rf
  refine lv_aload_n hx hb d_Ab_init_0 rfl (lv_at hl 0 rfl) ?_
  have hGo1 := hG
  refine zk_v (va_runI (As := []) (rest := []) ⟨hx, hb, hml, hown, hts⟩ (t_Ac_init l E G a) (zcI 0 hts w_73 w_74 w_4 w_75 rfl (by decide +kernel) ⟨Nat.le_of_ble_eq_true rfl, Nat.le_of_ble_eq_true rfl⟩) (zc_pre hbase hK hN hQ hG hS) rfl rfl hl.1 rfl (lv_room (Nat.le_of_ble_eq_true rfl)) d_Ab_init_1 ⟨(by decide), (by decide)⟩) hS (fun G1 H locs hp1 hG hS => ?_)
  have hG : zP E G H := hp1 ▸ hG
  refine lv_aload_n hx hb d_Ab_init_4 rfl (lv_at hl 0 rfl) ?_
  refine lv_iconst (v := 0) hx hb d_Ab_init_5 (by decide) ?_
  refine zg_put (ci := 0) (v := .int 0) (ty := .int) (C := "java/util/ArrayList") (T := T_AL) (N := 3) hx hb hts zi_AL t_AL t_AL_ok n_AL hown hK hG hS ha rfl 2 (by decide) (hts _ w_81) (fun _ h9 => h9) rfl (by decide +kernel) rfl rfl (Nat.le_of_ble_eq_true rfl) d_Ab_init_6 (fun H locs hG hS => ?_)
  obtain ⟨G1, eG1⟩ : ∃ z : zg_G, z = zg_up G a (.inr (0, [.null, .int 0, .int 0])) := ⟨_, rfl⟩
  have hG : zP E G1 H := by rw [eG1]; exact hG
  have k2 : G1 a = some (.inr (0, [.null, .int 0, .int 0])) := by rw [eG1]; exact zg_up_self _ _ _
  exact hret _ _ _ _ _ _ _ (by rw [eG1]; exact zg_up_same ha) hG hS (Nat.le_refl _) (Nat.le_refl _) d_Ab_init_9
abbrev rm_AL_init : Room := { frames := 3, cells := 0, slots := 0, locals := 70 }
set_option maxHeartbeats 4000000 in
set_option maxRecDepth 100000 in
/-- new ArrayList() -/
theorem t_AL_init (l : Launch) (E : zc_E) (G : zg_G) (a : Nat) (ha : G a = some (.inr (0, [.null, .int 0, .int 0]))) : zMv l E y_AL_init c_AL_init 1 rm_AL_init [.ref a] G (fun (G2 : zg_G) => G2 = zg_up G a (.inr (0, [.ref (E.2.2.2 0), .int 0, .int 0]))) := by
  refine zMv.of (by decide) (Nat.le_of_ble_eq_true rfl) ?_
  intro p e s m args below meth c Q hZ hG hret ls hl
  obtain ⟨hx, hb, hr, hts, hown, hlocks, hml, hnm, hbase, hK, hN, hQ⟩ := hZ
  have hl : lv_has ls 1 [(0, .ref a)] := hl
  have hS : zg_S (zc_b E) s.heap s.heap [] := va_S.rf
  refine lv_aload_n hx hb d_AL_init_0 rfl (lv_at hl 0 rfl) ?_
  have hGo1 := hG
  refine zk_v (va_runI (As := []) (rest := []) ⟨hx, hb, hml, hown, hts⟩ (t_Ab_init l E G a ha) (zcI 0 hts w_70 w_71 w_5 w_72 rfl (by decide +kernel) ⟨Nat.le_of_ble_eq_true rfl, Nat.le_of_ble_eq_true rfl⟩) (zc_pre hbase hK hN hQ hG hS) rfl rfl hl.1 rfl (lv_room (Nat.le_of_ble_eq_true rfl)) d_AL_init_1 ⟨(by decide), (by decide)⟩) hS (fun G1 H locs hp1 hG hS => ?_)
  have hG : zP E G H := hp1 ▸ hG
  refine lv_aload_n hx hb d_AL_init_4 rfl (lv_at hl 0 rfl) ?_
  refine va_gets hx hb hQ.1 hS hown (hts _ w_77) (fun _ h9 => h9) d_AL_init_5 ?_
  refine zg_put (ci := 0) (v := .ref (E.2.2.2 0)) (ty := .array (.object "java/lang/Object")) (C := "java/util/ArrayList") (T := T_AL) (N := 3) hx hb hts zi_AL t_AL t_AL_ok n_AL hown hK hG hS ha rfl 0 (by decide) (hts _ w_79) (fun _ h9 => h9) rfl (by decide +kernel) rfl rfl (Nat.le_of_ble_eq_true rfl) d_AL_init_8 (fun H locs hG hS => ?_)
  obtain ⟨G1, eG1⟩ : ∃ z : zg_G, z = zg_up G a (.inr (0, [.ref (E.2.2.2 0), .int 0, .int 0])) := ⟨_, rfl⟩
  have hG : zP E G1 H := by rw [eG1]; exact hG
  have k2 : G1 a = some (.inr (0, [.ref (E.2.2.2 0), .int 0, .int 0])) := by rw [eG1]; exact zg_up_self _ _ _
  exact hret _ _ _ _ _ _ _ (eG1) hG hS (Nat.le_refl _) (Nat.le_refl _) d_AL_init_11
abbrev rm_Se_init : Room := { frames := 4, cells := 1, slots := 3, locals := 100 }
set_option maxHeartbeats 4000000 in
set_option maxRecDepth 100000 in
/-- new Section() -/
theorem t_Se_init (l : Launch) (E : zc_E) (G : zg_G) (a : Nat) (ha : G a = some (.inr (6, [.null]))) : zMv l E y_Se_init c_Se_init 1 rm_Se_init [.ref a] G (fun (G2 : zg_G) => ∃ b, G b = none ∧ G2 = zg_up (zg_up G b (.inr (0, [.ref (E.2.2.2 0), .int 0, .int 0]))) a (.inr (6, [.ref b]))) := by
  refine zMv.of (by decide) (Nat.le_of_ble_eq_true rfl) ?_
  intro p e s m args below meth c Q hZ hG hret ls hl
  obtain ⟨hx, hb, hr, hts, hown, hlocks, hml, hnm, hbase, hK, hN, hQ⟩ := hZ
  have hl : lv_has ls 1 [(0, .ref a)] := hl
  have hS : zg_S (zc_b E) s.heap s.heap [] := va_S.rf
  refine lv_aload_n hx hb d_Se_init_0 rfl (lv_at hl 0 rfl) ?_
  refine W.objInit hx hb hown (hts _ w_677) (hts _ w_43) (hts _ w_44) rfl (by rw [hml]; exact hl.1) rfl d_Se_init_1 (Nat.le_of_ble_eq_true rfl) (Nat.le_of_ble_eq_true rfl) ?_
  refine W.eq (g2 := F0 m 4 ls []) rfl ?_
  refine lv_aload_n hx hb d_Se_init_4 rfl (lv_at hl 0 rfl) ?_
  refine zg_new (ci := 0) (fs := [.null, .int 0, .int 0]) (C := "java/util/ArrayList") (T := T_AL) (N := 3) hx hb hts zi_AL t_AL t_AL_ok hown (hts _ w_678) (hts _ w_66) (hts _ w_6) hK hG hS hbase rfl (fun j hj => by rcases (show j = 0 ∨ j = 1 ∨ j = 2 by omega) with rfl | rfl | rfl <;> rfl) (by decide) (by decide) d_Se_init_5 (fun q5 H n5 hG hS => ?_)
  obtain ⟨G1, eG1⟩ : ∃ z : zg_G, z = zg_up G q5 (.inr (0, [.null, .int 0, .int 0])) := ⟨_, rfl⟩
  have hG : zP E G1 H := by rw [eG1]; exact hG
  have ne5_a : a ≠ q5 := zg_fr n5 ha
  have k2 : G1 a = some (.inr (6, [.null])) := by rw [eG1, zg_up_ne (zg_fr n5 ha)]; exact ha
  have k3 : G1 q5 = some (.inr (0, [.null, .int 0, .int 0])) := by rw [eG1]; exact zg_up_self _ _ _
  refine lv_dup hx hb d_Se_init_8 rfl ?_
  have hGo9 := hG
  refine zk_v (va_runI (As := []) (rest := [.ref q5, .ref a]) ⟨hx, hb, hml, hown, hts⟩ (t_AL_init l E G1 q5 k3) (zcI 0 hts w_679 w_68 w_6 w_69 rfl (by decide +kernel) ⟨Nat.le_of_ble_eq_true rfl, Nat.le_of_ble_eq_true rfl⟩) (zc_pre hbase hK hN hQ hG hS) rfl rfl hl.1 rfl (lv_room (Nat.le_of_ble_eq_true rfl)) d_Se_init_9 ⟨(by decide), (by decide)⟩) hS (fun G9 H locs hp9 hG hS => ?_)
  have k4 : G9 a = some (.inr (6, [.null])) := by rw [hp9, zg_up_ne (ne5_a)]; exact k2
  have k5 : G9 q5 = some (.inr (0, [.ref (E.2.2.2 0), .int 0, .int 0])) := by rw [hp9]; exact zg_up_self _ _ _
  refine zg_putF (ci := 6) (v := .ref q5) (ty := .object "java/util/ArrayList") (C := "ZoneAnswers$Section") (T := T_Se) (N := 1) hx hb hts zi_Se t_Se t_Se_ok n_Se hown hK hG hS k4 rfl 0 (by decide) (hts _ w_680) (fun _ h9 => h9) rfl hnm rfl (by decide +kernel) rfl rfl (Nat.le_of_ble_eq_true rfl) d_Se_init_12 (fun H locs hG hS => ?_)
  obtain ⟨G6, eG6⟩ : ∃ z : zg_G, z = zg_up G9 a (.inr (6, [.ref q5])) := ⟨_, rfl⟩
  have hG : zP E G6 H := by rw [eG6]; exact hG
  have k7 : G6 a = some (.inr (6, [.ref q5])) := by rw [eG6]; exact zg_up_self _ _ _
  have k8 : G6 q5 = some (.inr (0, [.ref (E.2.2.2 0), .int 0, .int 0])) := by rw [eG6, zg_up_ne (Ne.symm ne5_a)]; exact k5
  exact hret _ _ _ _ _ _ _ (⟨q5, n5, by rw [eG6, hp9, eG1, zg_up_up]⟩) hG hS (by decide) (by decide) d_Se_init_15
