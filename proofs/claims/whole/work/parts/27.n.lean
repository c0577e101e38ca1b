/-- a type that put takes -/
def zput (x : Int32) : Prop := ¬ x < 1 ∧ ¬ 65535 < x ∧ ¬ (x = 6 ∨ x = 41 ∨ (¬ x < 46 ∧ x ≤ 48) ∨ (¬ x < 249 ∧ x ≤ 255))
/-- the number of four bytes -/
def zr4 (f : Nat → Int32) (k : Nat) : Int32 := (((f k &&& 255) <<< (24 &&& 31)) ||| ((f (k + 1) &&& 255) <<< (16 &&& 31))) ||| ((f (k + 2) &&& 255) <<< (8 &&& 31)) ||| (f (k + 3) &&& 255)
theorem zcp_up {f0 f2 : Nat → Int32} {x i : Nat} (h : ∀ j, j < i → f2 j = f0 (x + j)) (hf : fits .byte (.int (f0 (x + i))) = true) : ∀ j, j < i + 1 → upd f2 i (vp_nar .byte (f0 (x + i))) j = f0 (x + j) := by
  intro j hj
  unfold upd
  by_cases e : j = i
  · rw [if_pos e, e]; unfold vp_nar; rw [narrow_of_fits hf]
  · rw [if_neg e]; exact h j (by omega)
theorem zlow_keep {f0 f2 : Nat → Int32} {i : Nat} (h : ∀ j, f2 j = if 0 ≤ j ∧ j < i then zlow (f0 j) else f0 j) (c : f2 i < 65 ∨ 90 < f2 i) : ∀ j, f2 j = if 0 ≤ j ∧ j < i + 1 then zlow (f0 j) else f0 j := by
  intro j
  have e : f2 i = f0 i := by rw [h i, if_neg (by omega)]
  by_cases hj : j = i
  · rw [if_pos (by omega), hj, e]
    rw [e] at c
    exact (if_neg (fun q => c.elim (fun z => absurd q.1 (Int32.not_le.mpr z)) (fun z => absurd q.2 (Int32.not_le.mpr z)))).symm
  · rw [h j]
    by_cases hq : 0 ≤ j ∧ j < i
    · rw [if_pos hq, if_pos (by omega)]
    · rw [if_neg hq, if_neg (by omega)]
theorem zlow_hit {f0 f2 : Nat → Int32} {i : Nat} (h : ∀ j, f2 j = if 0 ≤ j ∧ j < i then zlow (f0 j) else f0 j) (c : ¬ f2 i < 65) (c2 : ¬ 90 < f2 i) (hf : fits .byte (.int (f0 i)) = true) : ∀ j, upd f2 i (vp_nar .byte (f2 i + 32).toInt8.toInt32) j = if 0 ≤ j ∧ j < i + 1 then zlow (f0 j) else f0 j := by
  have e : (f2 i + 32).toInt8.toInt32 = zlow (f2 i) := (if_pos ⟨Int32.not_lt.mp c, Int32.not_lt.mp c2⟩).symm
  rw [e]
  exact zlow_up h (Nat.zero_le _) hf
theorem w_30 : (.initialized "ZoneAnswersModel" : Cond) ∈ zw := zw_at 30 (by decide +kernel) (by decide +kernel)
theorem w_94 : (.fieldLink "ZoneAnswers$Zone" 29 "ZoneAnswers$Zone" "startData" "[B" : Cond) ∈ zw := zw_at 94 (by decide +kernel) (by decide +kernel)
theorem w_479 : (.static ⟨"java/util/Arrays", "copyOfRange", "([BII)[B"⟩ : Cond) ∈ zw := zw_at 479 (by decide +kernel) (by decide +kernel)
theorem w_480 : (.code ⟨"java/util/Arrays", "copyOfRange", "([BII)[B"⟩ prog_36_method_132_code 3 (some (.array .byte)) : Cond) ∈ zw := zw_at 480 (by decide +kernel) (by decide +kernel)
theorem w_722 : (.static ⟨"ZoneAnswers", "readNumber", "([BI)I"⟩ : Cond) ∈ zw := zw_at 722 (by decide +kernel) (by decide +kernel)
theorem w_723 : (.code ⟨"ZoneAnswers", "readNumber", "([BI)I"⟩ prog_1_method_22_code 2 (some .int) : Cond) ∈ zw := zw_at 723 (by decide +kernel) (by decide +kernel)
theorem w_837 : (.methodLink "ZoneAnswers$Tape" 41 ⟨"java/util/Arrays", "copyOfRange", "([BII)[B"⟩ : Cond) ∈ zw := zw_at 837 (by decide +kernel) (by decide +kernel)
theorem w_838 : (.methodLink "ZoneAnswers$Tape" 45 ⟨"ZoneAnswers$Tape", "lowerFrom", "([BI)V"⟩ : Cond) ∈ zw := zw_at 838 (by decide +kernel) (by decide +kernel)
theorem w_839 : (.static ⟨"ZoneAnswers$Tape", "lowerFrom", "([BI)V"⟩ : Cond) ∈ zw := zw_at 839 (by decide +kernel) (by decide +kernel)
theorem w_840 : (.code ⟨"ZoneAnswers$Tape", "lowerFrom", "([BI)V"⟩ prog_8_method_12_code 3 none : Cond) ∈ zw := zw_at 840 (by decide +kernel) (by decide +kernel)
theorem w_861 : (.constant "ZoneAnswers" 154 (65535 : Int32) : Cond) ∈ zw := zw_at 861 (by decide +kernel) (by decide +kernel)
theorem w_1281 : (.fieldLink "ZoneAnswersModel" 57 "ZoneAnswersModel" "thrown" "I" : Cond) ∈ zw := zw_at 1281 (by decide +kernel) (by decide +kernel)
theorem w_1283 : (.fieldLink "ZoneAnswersModel" 231 "ZoneAnswersModel" "tapes" "I" : Cond) ∈ zw := zw_at 1283 (by decide +kernel) (by decide +kernel)
theorem w_1354 : (.methodLink "ZoneAnswersModel" 235 ⟨"ZoneAnswersModel", "fail", "(I)I"⟩ : Cond) ∈ zw := zw_at 1354 (by decide +kernel) (by decide +kernel)
theorem w_1356 : (.instanceMethod ⟨"ZoneAnswersModel", "fail", "(I)I"⟩ : Cond) ∈ zw := zw_at 1356 (by decide +kernel) (by decide +kernel)
theorem w_1357 : (.code ⟨"ZoneAnswersModel", "fail", "(I)I"⟩ prog_12_method_3_code 2 (some .int) : Cond) ∈ zw := zw_at 1357 (by decide +kernel) (by decide +kernel)
theorem w_1372 : (.methodLink "ZoneAnswersModel$Names" 7 ⟨"ZoneAnswersModel$Names", "cut", "([BII)[B"⟩ : Cond) ∈ zw := zw_at 1372 (by decide +kernel) (by decide +kernel)
theorem w_1373 : (.static ⟨"ZoneAnswersModel$Names", "cut", "([BII)[B"⟩ : Cond) ∈ zw := zw_at 1373 (by decide +kernel) (by decide +kernel)
theorem w_1374 : (.code ⟨"ZoneAnswersModel$Names", "cut", "([BII)[B"⟩ prog_13_method_3_code 5 (some (.array .byte)) : Cond) ∈ zw := zw_at 1374 (by decide +kernel) (by decide +kernel)
theorem w_1386 : (.constant "ZoneAnswersModel" 242 (65535 : Int32) : Cond) ∈ zw := zw_at 1386 (by decide +kernel) (by decide +kernel)
theorem wp_26 : (.selects "ZoneAnswersModel" ⟨"ZoneAnswersModel", "fail", "(I)I"⟩ ⟨"ZoneAnswersModel", "fail", "(I)I"⟩ : Cond) ∈ zw := zw_pv 26 (y := ⟨"ZoneAnswersModel", "fail", "(I)I"⟩) rfl (by decide +kernel)
abbrev c_ZA_isPutType : ByteArray := prog_1_method_18_code
abbrev y_ZA_isPutType : MethodName := ⟨"ZoneAnswers", "isPutType", "(I)Z"⟩
theorem d_ZA_isPutType_0 : decode c_ZA_isPutType 0 = .ok (.iload_n 0, 1) := by decide +kernel
theorem d_ZA_isPutType_1 : decode c_ZA_isPutType 1 = .ok (.bipush 6, 2) := by decide +kernel
theorem d_ZA_isPutType_3 : decode c_ZA_isPutType 3 = .ok (.if_icmp .eq 35, 3) := by decide +kernel
theorem d_ZA_isPutType_6 : decode c_ZA_isPutType 6 = .ok (.iload_n 0, 1) := by decide +kernel
theorem d_ZA_isPutType_7 : decode c_ZA_isPutType 7 = .ok (.bipush 41, 2) := by decide +kernel
theorem d_ZA_isPutType_9 : decode c_ZA_isPutType 9 = .ok (.if_icmp .eq 29, 3) := by decide +kernel
theorem d_ZA_isPutType_12 : decode c_ZA_isPutType 12 = .ok (.iload_n 0, 1) := by decide +kernel
theorem d_ZA_isPutType_13 : decode c_ZA_isPutType 13 = .ok (.bipush 46, 2) := by decide +kernel
theorem d_ZA_isPutType_15 : decode c_ZA_isPutType 15 = .ok (.if_icmp .lt 9, 3) := by decide +kernel
theorem d_ZA_isPutType_18 : decode c_ZA_isPutType 18 = .ok (.iload_n 0, 1) := by decide +kernel
theorem d_ZA_isPutType_19 : decode c_ZA_isPutType 19 = .ok (.bipush 48, 2) := by decide +kernel
theorem d_ZA_isPutType_21 : decode c_ZA_isPutType 21 = .ok (.if_icmp .le 17, 3) := by decide +kernel
theorem d_ZA_isPutType_24 : decode c_ZA_isPutType 24 = .ok (.iload_n 0, 1) := by decide +kernel
theorem d_ZA_isPutType_25 : decode c_ZA_isPutType 25 = .ok (.sipush 249, 3) := by decide +kernel
theorem d_ZA_isPutType_28 : decode c_ZA_isPutType 28 = .ok (.if_icmp .lt 14, 3) := by decide +kernel
theorem d_ZA_isPutType_31 : decode c_ZA_isPutType 31 = .ok (.iload_n 0, 1) := by decide +kernel
theorem d_ZA_isPutType_32 : decode c_ZA_isPutType 32 = .ok (.sipush 255, 3) := by decide +kernel
theorem d_ZA_isPutType_35 : decode c_ZA_isPutType 35 = .ok (.if_icmp .gt 7, 3) := by decide +kernel
theorem d_ZA_isPutType_38 : decode c_ZA_isPutType 38 = .ok (.iconst 1, 1) := by decide +kernel
theorem d_ZA_isPutType_39 : decode c_ZA_isPutType 39 = .ok (.goto 4, 3) := by decide +kernel
theorem d_ZA_isPutType_42 : decode c_ZA_isPutType 42 = .ok (.iconst 0, 1) := by decide +kernel
theorem d_ZA_isPutType_43 : decode c_ZA_isPutType 43 = .ok (.istore_n 1, 1) := by decide +kernel
theorem d_ZA_isPutType_44 : decode c_ZA_isPutType 44 = .ok (.iload_n 0, 1) := by decide +kernel
theorem d_ZA_isPutType_45 : decode c_ZA_isPutType 45 = .ok (.iconst 1, 1) := by decide +kernel
theorem d_ZA_isPutType_46 : decode c_ZA_isPutType 46 = .ok (.if_icmp .lt 17, 3) := by decide +kernel
theorem d_ZA_isPutType_49 : decode c_ZA_isPutType 49 = .ok (.iload_n 0, 1) := by decide +kernel
theorem d_ZA_isPutType_50 : decode c_ZA_isPutType 50 = .ok (.ldc 154, 2) := by decide +kernel
theorem d_ZA_isPutType_52 : decode c_ZA_isPutType 52 = .ok (.if_icmp .gt 11, 3) := by decide +kernel
theorem d_ZA_isPutType_55 : decode c_ZA_isPutType 55 = .ok (.iload_n 1, 1) := by decide +kernel
theorem d_ZA_isPutType_56 : decode c_ZA_isPutType 56 = .ok (.ifCond .ne 7, 3) := by decide +kernel
theorem d_ZA_isPutType_59 : decode c_ZA_isPutType 59 = .ok (.iconst 1, 1) := by decide +kernel
theorem d_ZA_isPutType_60 : decode c_ZA_isPutType 60 = .ok (.goto 4, 3) := by decide +kernel
theorem d_ZA_isPutType_63 : decode c_ZA_isPutType 63 = .ok (.iconst 0, 1) := by decide +kernel
theorem d_ZA_isPutType_64 : decode c_ZA_isPutType 64 = .ok (.ireturn, 1) := by decide +kernel
abbrev c_Mo_allowed : ByteArray := prog_12_method_37_code
abbrev y_Mo_allowed : MethodName := ⟨"ZoneAnswersModel", "allowed", "(I)Z"⟩
theorem d_Mo_allowed_0 : decode c_Mo_allowed 0 = .ok (.iload_n 0, 1) := by decide +kernel
theorem d_Mo_allowed_1 : decode c_Mo_allowed 1 = .ok (.iconst 1, 1) := by decide +kernel
theorem d_Mo_allowed_2 : decode c_Mo_allowed 2 = .ok (.if_icmp .lt 51, 3) := by decide +kernel
theorem d_Mo_allowed_5 : decode c_Mo_allowed 5 = .ok (.iload_n 0, 1) := by decide +kernel
theorem d_Mo_allowed_6 : decode c_Mo_allowed 6 = .ok (.ldc 242, 2) := by decide +kernel
theorem d_Mo_allowed_8 : decode c_Mo_allowed 8 = .ok (.if_icmp .gt 45, 3) := by decide +kernel
theorem d_Mo_allowed_11 : decode c_Mo_allowed 11 = .ok (.iload_n 0, 1) := by decide +kernel
theorem d_Mo_allowed_12 : decode c_Mo_allowed 12 = .ok (.bipush 6, 2) := by decide +kernel
theorem d_Mo_allowed_14 : decode c_Mo_allowed 14 = .ok (.if_icmp .eq 39, 3) := by decide +kernel
theorem d_Mo_allowed_17 : decode c_Mo_allowed 17 = .ok (.iload_n 0, 1) := by decide +kernel
theorem d_Mo_allowed_18 : decode c_Mo_allowed 18 = .ok (.bipush 41, 2) := by decide +kernel
theorem d_Mo_allowed_20 : decode c_Mo_allowed 20 = .ok (.if_icmp .eq 33, 3) := by decide +kernel
theorem d_Mo_allowed_23 : decode c_Mo_allowed 23 = .ok (.iload_n 0, 1) := by decide +kernel
theorem d_Mo_allowed_24 : decode c_Mo_allowed 24 = .ok (.bipush 46, 2) := by decide +kernel
theorem d_Mo_allowed_26 : decode c_Mo_allowed 26 = .ok (.if_icmp .lt 9, 3) := by decide +kernel
theorem d_Mo_allowed_29 : decode c_Mo_allowed 29 = .ok (.iload_n 0, 1) := by decide +kernel
theorem d_Mo_allowed_30 : decode c_Mo_allowed 30 = .ok (.bipush 48, 2) := by decide +kernel
theorem d_Mo_allowed_32 : decode c_Mo_allowed 32 = .ok (.if_icmp .le 21, 3) := by decide +kernel
theorem d_Mo_allowed_35 : decode c_Mo_allowed 35 = .ok (.iload_n 0, 1) := by decide +kernel
theorem d_Mo_allowed_36 : decode c_Mo_allowed 36 = .ok (.sipush 249, 3) := by decide +kernel
theorem d_Mo_allowed_39 : decode c_Mo_allowed 39 = .ok (.if_icmp .lt 10, 3) := by decide +kernel
theorem d_Mo_allowed_42 : decode c_Mo_allowed 42 = .ok (.iload_n 0, 1) := by decide +kernel
theorem d_Mo_allowed_43 : decode c_Mo_allowed 43 = .ok (.sipush 255, 3) := by decide +kernel
theorem d_Mo_allowed_46 : decode c_Mo_allowed 46 = .ok (.if_icmp .le 7, 3) := by decide +kernel
theorem d_Mo_allowed_49 : decode c_Mo_allowed 49 = .ok (.iconst 1, 1) := by decide +kernel
theorem d_Mo_allowed_50 : decode c_Mo_allowed 50 = .ok (.goto 4, 3) := by decide +kernel
theorem d_Mo_allowed_53 : decode c_Mo_allowed 53 = .ok (.iconst 0, 1) := by decide +kernel
theorem d_Mo_allowed_54 : decode c_Mo_allowed 54 = .ok (.ireturn, 1) := by decide +kernel
abbrev c_ZA_readNumber : ByteArray := prog_1_method_22_code
abbrev y_ZA_readNumber : MethodName := ⟨"ZoneAnswers", "readNumber", "([BI)I"⟩
theorem d_ZA_readNumber_0 : decode c_ZA_readNumber 0 = .ok (.aload_n 0, 1) := by decide +kernel
theorem d_ZA_readNumber_1 : decode c_ZA_readNumber 1 = .ok (.iload_n 1, 1) := by decide +kernel
theorem d_ZA_readNumber_2 : decode c_ZA_readNumber 2 = .ok (.baload, 1) := by decide +kernel
theorem d_ZA_readNumber_3 : decode c_ZA_readNumber 3 = .ok (.sipush 255, 3) := by decide +kernel
theorem d_ZA_readNumber_6 : decode c_ZA_readNumber 6 = .ok (.iand, 1) := by decide +kernel
theorem d_ZA_readNumber_7 : decode c_ZA_readNumber 7 = .ok (.bipush 24, 2) := by decide +kernel
theorem d_ZA_readNumber_9 : decode c_ZA_readNumber 9 = .ok (.ishl, 1) := by decide +kernel
theorem d_ZA_readNumber_10 : decode c_ZA_readNumber 10 = .ok (.aload_n 0, 1) := by decide +kernel
theorem d_ZA_readNumber_11 : decode c_ZA_readNumber 11 = .ok (.iload_n 1, 1) := by decide +kernel
theorem d_ZA_readNumber_12 : decode c_ZA_readNumber 12 = .ok (.iconst 1, 1) := by decide +kernel
theorem d_ZA_readNumber_13 : decode c_ZA_readNumber 13 = .ok (.iadd, 1) := by decide +kernel
theorem d_ZA_readNumber_14 : decode c_ZA_readNumber 14 = .ok (.baload, 1) := by decide +kernel
theorem d_ZA_readNumber_15 : decode c_ZA_readNumber 15 = .ok (.sipush 255, 3) := by decide +kernel
theorem d_ZA_readNumber_18 : decode c_ZA_readNumber 18 = .ok (.iand, 1) := by decide +kernel
theorem d_ZA_readNumber_19 : decode c_ZA_readNumber 19 = .ok (.bipush 16, 2) := by decide +kernel
theorem d_ZA_readNumber_21 : decode c_ZA_readNumber 21 = .ok (.ishl, 1) := by decide +kernel
theorem d_ZA_readNumber_22 : decode c_ZA_readNumber 22 = .ok (.ior, 1) := by decide +kernel
theorem d_ZA_readNumber_23 : decode c_ZA_readNumber 23 = .ok (.aload_n 0, 1) := by decide +kernel
theorem d_ZA_readNumber_24 : decode c_ZA_readNumber 24 = .ok (.iload_n 1, 1) := by decide +kernel
theorem d_ZA_readNumber_25 : decode c_ZA_readNumber 25 = .ok (.iconst 2, 1) := by decide +kernel
theorem d_ZA_readNumber_26 : decode c_ZA_readNumber 26 = .ok (.iadd, 1) := by decide +kernel
theorem d_ZA_readNumber_27 : decode c_ZA_readNumber 27 = .ok (.baload, 1) := by decide +kernel
theorem d_ZA_readNumber_28 : decode c_ZA_readNumber 28 = .ok (.sipush 255, 3) := by decide +kernel
theorem d_ZA_readNumber_31 : decode c_ZA_readNumber 31 = .ok (.iand, 1) := by decide +kernel
theorem d_ZA_readNumber_32 : decode c_ZA_readNumber 32 = .ok (.bipush 8, 2) := by decide +kernel
theorem d_ZA_readNumber_34 : decode c_ZA_readNumber 34 = .ok (.ishl, 1) := by decide +kernel
theorem d_ZA_readNumber_35 : decode c_ZA_readNumber 35 = .ok (.ior, 1) := by decide +kernel
theorem d_ZA_readNumber_36 : decode c_ZA_readNumber 36 = .ok (.aload_n 0, 1) := by decide +kernel
theorem d_ZA_readNumber_37 : decode c_ZA_readNumber 37 = .ok (.iload_n 1, 1) := by decide +kernel
theorem d_ZA_readNumber_38 : decode c_ZA_readNumber 38 = .ok (.iconst 3, 1) := by decide +kernel
theorem d_ZA_readNumber_39 : decode c_ZA_readNumber 39 = .ok (.iadd, 1) := by decide +kernel
theorem d_ZA_readNumber_40 : decode c_ZA_readNumber 40 = .ok (.baload, 1) := by decide +kernel
theorem d_ZA_readNumber_41 : decode c_ZA_readNumber 41 = .ok (.sipush 255, 3) := by decide +kernel
theorem d_ZA_readNumber_44 : decode c_ZA_readNumber 44 = .ok (.iand, 1) := by decide +kernel
theorem d_ZA_readNumber_45 : decode c_ZA_readNumber 45 = .ok (.ior, 1) := by decide +kernel
theorem d_ZA_readNumber_46 : decode c_ZA_readNumber 46 = .ok (.ireturn, 1) := by decide +kernel
abbrev c_Zo_serialNumber : ByteArray := prog_10_method_6_code
abbrev y_Zo_serialNumber : MethodName := ⟨"ZoneAnswers$Zone", "serialNumber", "()I"⟩
theorem d_Zo_serialNumber_0 : decode c_Zo_serialNumber 0 = .ok (.aload_n 0, 1) := by decide +kernel
theorem d_Zo_serialNumber_1 : decode c_Zo_serialNumber 1 = .ok (.getfield 29, 3) := by decide +kernel
theorem d_Zo_serialNumber_4 : decode c_Zo_serialNumber 4 = .ok (.aload_n 0, 1) := by decide +kernel
theorem d_Zo_serialNumber_5 : decode c_Zo_serialNumber 5 = .ok (.getfield 29, 3) := by decide +kernel
theorem d_Zo_serialNumber_8 : decode c_Zo_serialNumber 8 = .ok (.arraylength, 1) := by decide +kernel
theorem d_Zo_serialNumber_9 : decode c_Zo_serialNumber 9 = .ok (.bipush 20, 2) := by decide +kernel
theorem d_Zo_serialNumber_11 : decode c_Zo_serialNumber 11 = .ok (.isub, 1) := by decide +kernel
theorem d_Zo_serialNumber_12 : decode c_Zo_serialNumber 12 = .ok (.invokestatic 55, 3) := by decide +kernel
theorem d_Zo_serialNumber_15 : decode c_Zo_serialNumber 15 = .ok (.ireturn, 1) := by decide +kernel
abbrev c_Ta_lowered : ByteArray := prog_8_method_9_code
abbrev y_Ta_lowered : MethodName := ⟨"ZoneAnswers$Tape", "lowered", "(II)[B"⟩
theorem d_Ta_lowered_0 : decode c_Ta_lowered 0 = .ok (.aload_n 0, 1) := by decide +kernel
theorem d_Ta_lowered_1 : decode c_Ta_lowered 1 = .ok (.getfield 11, 3) := by decide +kernel
theorem d_Ta_lowered_4 : decode c_Ta_lowered 4 = .ok (.iload_n 1, 1) := by decide +kernel
theorem d_Ta_lowered_5 : decode c_Ta_lowered 5 = .ok (.iload_n 2, 1) := by decide +kernel
theorem d_Ta_lowered_6 : decode c_Ta_lowered 6 = .ok (.invokestatic 41, 3) := by decide +kernel
theorem d_Ta_lowered_9 : decode c_Ta_lowered 9 = .ok (.astore_n 3, 1) := by decide +kernel
theorem d_Ta_lowered_10 : decode c_Ta_lowered 10 = .ok (.aload_n 3, 1) := by decide +kernel
theorem d_Ta_lowered_11 : decode c_Ta_lowered 11 = .ok (.iconst 0, 1) := by decide +kernel
theorem d_Ta_lowered_12 : decode c_Ta_lowered 12 = .ok (.invokestatic 45, 3) := by decide +kernel
theorem d_Ta_lowered_15 : decode c_Ta_lowered 15 = .ok (.aload_n 3, 1) := by decide +kernel
theorem d_Ta_lowered_16 : decode c_Ta_lowered 16 = .ok (.areturn, 1) := by decide +kernel
abbrev c_Ns_cut : ByteArray := prog_13_method_3_code
abbrev y_Ns_cut : MethodName := ⟨"ZoneAnswersModel$Names", "cut", "([BII)[B"⟩
theorem d_Ns_cut_0 : decode c_Ns_cut 0 = .ok (.iload_n 2, 1) := by decide +kernel
theorem d_Ns_cut_1 : decode c_Ns_cut 1 = .ok (.iload_n 1, 1) := by decide +kernel
theorem d_Ns_cut_2 : decode c_Ns_cut 2 = .ok (.isub, 1) := by decide +kernel
theorem d_Ns_cut_3 : decode c_Ns_cut 3 = .ok (.newarray .byte, 2) := by decide +kernel
theorem d_Ns_cut_5 : decode c_Ns_cut 5 = .ok (.astore_n 3, 1) := by decide +kernel
theorem d_Ns_cut_6 : decode c_Ns_cut 6 = .ok (.iconst 0, 1) := by decide +kernel
theorem d_Ns_cut_7 : decode c_Ns_cut 7 = .ok (.istore 4, 2) := by decide +kernel
theorem d_Ns_cut_9 : decode c_Ns_cut 9 = .ok (.iload 4, 2) := by decide +kernel
theorem d_Ns_cut_11 : decode c_Ns_cut 11 = .ok (.aload_n 3, 1) := by decide +kernel
theorem d_Ns_cut_12 : decode c_Ns_cut 12 = .ok (.arraylength, 1) := by decide +kernel
theorem d_Ns_cut_13 : decode c_Ns_cut 13 = .ok (.if_icmp .ge 19, 3) := by decide +kernel
theorem d_Ns_cut_16 : decode c_Ns_cut 16 = .ok (.aload_n 3, 1) := by decide +kernel
theorem d_Ns_cut_17 : decode c_Ns_cut 17 = .ok (.iload 4, 2) := by decide +kernel
theorem d_Ns_cut_19 : decode c_Ns_cut 19 = .ok (.aload_n 0, 1) := by decide +kernel
theorem d_Ns_cut_20 : decode c_Ns_cut 20 = .ok (.iload_n 1, 1) := by decide +kernel
theorem d_Ns_cut_21 : decode c_Ns_cut 21 = .ok (.iload 4, 2) := by decide +kernel
theorem d_Ns_cut_23 : decode c_Ns_cut 23 = .ok (.iadd, 1) := by decide +kernel
theorem d_Ns_cut_24 : decode c_Ns_cut 24 = .ok (.baload, 1) := by decide +kernel
theorem d_Ns_cut_25 : decode c_Ns_cut 25 = .ok (.bastore, 1) := by decide +kernel
theorem d_Ns_cut_26 : decode c_Ns_cut 26 = .ok (.iinc 4 1, 3) := by decide +kernel
theorem d_Ns_cut_29 : decode c_Ns_cut 29 = .ok (.goto (-20), 3) := by decide +kernel
theorem d_Ns_cut_32 : decode c_Ns_cut 32 = .ok (.aload_n 3, 1) := by decide +kernel
theorem d_Ns_cut_33 : decode c_Ns_cut 33 = .ok (.areturn, 1) := by decide +kernel
abbrev c_Ns_lower : ByteArray := prog_13_method_4_code
abbrev y_Ns_lower : MethodName := ⟨"ZoneAnswersModel$Names", "lower", "([BII)[B"⟩
theorem d_Ns_lower_0 : decode c_Ns_lower 0 = .ok (.aload_n 0, 1) := by decide +kernel
theorem d_Ns_lower_1 : decode c_Ns_lower 1 = .ok (.iload_n 1, 1) := by decide +kernel
theorem d_Ns_lower_2 : decode c_Ns_lower 2 = .ok (.iload_n 2, 1) := by decide +kernel
theorem d_Ns_lower_3 : decode c_Ns_lower 3 = .ok (.invokestatic 7, 3) := by decide +kernel
theorem d_Ns_lower_6 : decode c_Ns_lower 6 = .ok (.astore_n 3, 1) := by decide +kernel
theorem d_Ns_lower_7 : decode c_Ns_lower 7 = .ok (.iconst 0, 1) := by decide +kernel
theorem d_Ns_lower_8 : decode c_Ns_lower 8 = .ok (.istore 4, 2) := by decide +kernel
theorem d_Ns_lower_10 : decode c_Ns_lower 10 = .ok (.iload 4, 2) := by decide +kernel
theorem d_Ns_lower_12 : decode c_Ns_lower 12 = .ok (.aload_n 3, 1) := by decide +kernel
theorem d_Ns_lower_13 : decode c_Ns_lower 13 = .ok (.arraylength, 1) := by decide +kernel
theorem d_Ns_lower_14 : decode c_Ns_lower 14 = .ok (.if_icmp .ge 37, 3) := by decide +kernel
theorem d_Ns_lower_17 : decode c_Ns_lower 17 = .ok (.aload_n 3, 1) := by decide +kernel
theorem d_Ns_lower_18 : decode c_Ns_lower 18 = .ok (.iload 4, 2) := by decide +kernel
theorem d_Ns_lower_20 : decode c_Ns_lower 20 = .ok (.baload, 1) := by decide +kernel
theorem d_Ns_lower_21 : decode c_Ns_lower 21 = .ok (.bipush 65, 2) := by decide +kernel
theorem d_Ns_lower_23 : decode c_Ns_lower 23 = .ok (.if_icmp .lt 22, 3) := by decide +kernel
theorem d_Ns_lower_26 : decode c_Ns_lower 26 = .ok (.aload_n 3, 1) := by decide +kernel
theorem d_Ns_lower_27 : decode c_Ns_lower 27 = .ok (.iload 4, 2) := by decide +kernel
theorem d_Ns_lower_29 : decode c_Ns_lower 29 = .ok (.baload, 1) := by decide +kernel
theorem d_Ns_lower_30 : decode c_Ns_lower 30 = .ok (.bipush 90, 2) := by decide +kernel
theorem d_Ns_lower_32 : decode c_Ns_lower 32 = .ok (.if_icmp .gt 13, 3) := by decide +kernel
theorem d_Ns_lower_35 : decode c_Ns_lower 35 = .ok (.aload_n 3, 1) := by decide +kernel
theorem d_Ns_lower_36 : decode c_Ns_lower 36 = .ok (.iload 4, 2) := by decide +kernel
theorem d_Ns_lower_38 : decode c_Ns_lower 38 = .ok (.dup2, 1) := by decide +kernel
theorem d_Ns_lower_39 : decode c_Ns_lower 39 = .ok (.baload, 1) := by decide +kernel
theorem d_Ns_lower_40 : decode c_Ns_lower 40 = .ok (.bipush 32, 2) := by decide +kernel
theorem d_Ns_lower_42 : decode c_Ns_lower 42 = .ok (.iadd, 1) := by decide +kernel
theorem d_Ns_lower_43 : decode c_Ns_lower 43 = .ok (.i2b, 1) := by decide +kernel
theorem d_Ns_lower_44 : decode c_Ns_lower 44 = .ok (.bastore, 1) := by decide +kernel
theorem d_Ns_lower_45 : decode c_Ns_lower 45 = .ok (.iinc 4 1, 3) := by decide +kernel
theorem d_Ns_lower_48 : decode c_Ns_lower 48 = .ok (.goto (-38), 3) := by decide +kernel
theorem d_Ns_lower_51 : decode c_Ns_lower 51 = .ok (.aload_n 3, 1) := by decide +kernel
theorem d_Ns_lower_52 : decode c_Ns_lower 52 = .ok (.areturn, 1) := by decide +kernel
abbrev c_Mo_thrown : ByteArray := prog_12_method_2_code
abbrev y_Mo_thrown : MethodName := ⟨"ZoneAnswersModel", "thrown", "()I"⟩
theorem d_Mo_thrown_0 : decode c_Mo_thrown 0 = .ok (.aload_n 0, 1) := by decide +kernel
theorem d_Mo_thrown_1 : decode c_Mo_thrown 1 = .ok (.getfield 57, 3) := by decide +kernel
theorem d_Mo_thrown_4 : decode c_Mo_thrown 4 = .ok (.ireturn, 1) := by decide +kernel
abbrev c_Mo_fail : ByteArray := prog_12_method_3_code
abbrev y_Mo_fail : MethodName := ⟨"ZoneAnswersModel", "fail", "(I)I"⟩
theorem d_Mo_fail_0 : decode c_Mo_fail 0 = .ok (.aload_n 0, 1) := by decide +kernel
theorem d_Mo_fail_1 : decode c_Mo_fail 1 = .ok (.iload_n 1, 1) := by decide +kernel
theorem d_Mo_fail_2 : decode c_Mo_fail 2 = .ok (.putfield 57, 3) := by decide +kernel
theorem d_Mo_fail_5 : decode c_Mo_fail 5 = .ok (.iconst 0, 1) := by decide +kernel
theorem d_Mo_fail_6 : decode c_Mo_fail 6 = .ok (.ireturn, 1) := by decide +kernel
abbrev c_Mo_end : ByteArray := prog_12_method_35_code
abbrev y_Mo_end : MethodName := ⟨"ZoneAnswersModel", "end", "(I)I"⟩
theorem d_Mo_end_0 : decode c_Mo_end 0 = .ok (.aload_n 0, 1) := by decide +kernel
theorem d_Mo_end_1 : decode c_Mo_end 1 = .ok (.iconst 0, 1) := by decide +kernel
theorem d_Mo_end_2 : decode c_Mo_end 2 = .ok (.putfield 57, 3) := by decide +kernel
theorem d_Mo_end_5 : decode c_Mo_end 5 = .ok (.iload_n 1, 1) := by decide +kernel
theorem d_Mo_end_6 : decode c_Mo_end 6 = .ok (.ifCond .lt 11, 3) := by decide +kernel
theorem d_Mo_end_9 : decode c_Mo_end 9 = .ok (.iload_n 1, 1) := by decide +kernel
theorem d_Mo_end_10 : decode c_Mo_end 10 = .ok (.aload_n 0, 1) := by decide +kernel
theorem d_Mo_end_11 : decode c_Mo_end 11 = .ok (.getfield 231, 3) := by decide +kernel
theorem d_Mo_end_14 : decode c_Mo_end 14 = .ok (.if_icmp .le 9, 3) := by decide +kernel
theorem d_Mo_end_17 : decode c_Mo_end 17 = .ok (.aload_n 0, 1) := by decide +kernel
theorem d_Mo_end_18 : decode c_Mo_end 18 = .ok (.iconst 1, 1) := by decide +kernel
theorem d_Mo_end_19 : decode c_Mo_end 19 = .ok (.invokevirtual 235, 3) := by decide +kernel
theorem d_Mo_end_22 : decode c_Mo_end 22 = .ok (.ireturn, 1) := by decide +kernel
theorem d_Mo_end_23 : decode c_Mo_end 23 = .ok (.aload_n 0, 1) := by decide +kernel
theorem d_Mo_end_24 : decode c_Mo_end 24 = .ok (.iload_n 1, 1) := by decide +kernel
theorem d_Mo_end_25 : decode c_Mo_end 25 = .ok (.putfield 231, 3) := by decide +kernel
theorem d_Mo_end_28 : decode c_Mo_end 28 = .ok (.iload_n 1, 1) := by decide +kernel
theorem d_Mo_end_29 : decode c_Mo_end 29 = .ok (.ireturn, 1) := by decide +kernel
abbrev rm_ZA_isPutType : Room := { frames := 0, cells := 0, slots := 0, locals := 0 }
set_option maxHeartbeats 4000000 in
set_option maxRecDepth 100000 in
/-- isPutType(type) -/
theorem t_ZA_isPutType (l : Launch) (E : zc_E) (G : zg_G) (x : Int32) : zMi l E y_ZA_isPutType c_ZA_isPutType 2 (some .boolean) rm_ZA_isPutType [.int x] G (fun (r : Int32) (G2 : zg_G) => zb r (zput x) ∧ G2 = G) := by
  refine zMi.of (by decide) (Nat.le_of_ble_eq_true rfl) ?_
  intro p e s m args below meth c Q hZ hG hret ls hl
  obtain ⟨hx, hb, hr, hts, hown, hlocks, hml, hnm, hbase, hK, hN, hQ⟩ := hZ
  have hl : lv_has ls 2 [(0, .int x)] := hl
  have hS : zg_S (zc_b E) s.heap s.heap [] := va_S.rf
  refine lv_iload_n hx hb d_ZA_isPutType_0 rfl (lv_at hl 0 rfl) ?_
  refine lv_bipush (v := 6) hx hb d_ZA_isPutType_1 (by decide) ?_
  refine lv_icmp_eq (tgt := 38) hx hb d_ZA_isPutType_3 (by decide) (fun c3 => ?_) (fun c3 => ?_)
  · refine lv_iconst (v := 1) hx hb d_ZA_isPutType_38 (by decide) ?_
    refine lv_goto (tgt := 43) hx hb d_ZA_isPutType_39 (by decide) ?_
    refine lv_istore_n (lv' := [(1, .int 1), (0, .int x)]) hx hb d_ZA_isPutType_43 rfl hl (by decide) rfl (fun ls hl => ?_)
    refine lv_iload_n hx hb d_ZA_isPutType_44 rfl (lv_at hl 1 rfl) ?_
    refine lv_iconst (v := 1) hx hb d_ZA_isPutType_45 (by decide) ?_
    refine lv_icmp_lt (tgt := 63) hx hb d_ZA_isPutType_46 (by decide) (fun c46 => ?_) (fun c46 => ?_)
    · refine lv_iconst (v := 0) hx hb d_ZA_isPutType_63 (by decide) ?_
      exact hret _ _ _ _ _ _ _ _ _ hr (rfl) (⟨by first | exact absurd c56 (by decide) | exact absurd rfl c56 | (first | exact zb.t (by unfold zput; clear hret hts hl hK hN hQ hG hS; simp [*]; done) | exact zb.f (by unfold zput; clear hret hts hl hK hN hQ hG hS; simp [*]; done)), rfl⟩) hG hS (Nat.le_refl _) (Nat.le_refl _) d_ZA_isPutType_64
    · refine lv_iload_n hx hb d_ZA_isPutType_49 rfl (lv_at hl 1 rfl) ?_
      refine lv_ldc hx hb hown (hts _ w_861) d_ZA_isPutType_50 ?_
      refine lv_icmp_gt (tgt := 63) hx hb d_ZA_isPutType_52 (by decide) (fun c52 => ?_) (fun c52 => ?_)
      · refine lv_iconst (v := 0) hx hb d_ZA_isPutType_63 (by decide) ?_
        exact hret _ _ _ _ _ _ _ _ _ hr (rfl) (⟨by first | exact absurd c56 (by decide) | exact absurd rfl c56 | (first | exact zb.t (by unfold zput; clear hret hts hl hK hN hQ hG hS; simp [*]; done) | exact zb.f (by unfold zput; clear hret hts hl hK hN hQ hG hS; simp [*]; done)), rfl⟩) hG hS (Nat.le_refl _) (Nat.le_refl _) d_ZA_isPutType_64
      · refine lv_iload_n hx hb d_ZA_isPutType_55 rfl (lv_at hl 0 rfl) ?_
        refine lv_if_ne (tgt := 63) hx hb d_ZA_isPutType_56 (by decide) (fun c56 => ?_) (fun c56 => ?_)
        · have b56 : ¬ 1 = 0 := fun q => c56 ((nI_eq (a := 1) (b := 0) (by omega) (by omega)).mpr q)
          refine lv_iconst (v := 0) hx hb d_ZA_isPutType_63 (by decide) ?_
          exact hret _ _ _ _ _ _ _ _ _ hr (rfl) (⟨by first | exact absurd c56 (by decide) | exact absurd rfl c56 | (first | exact zb.t (by unfold zput; clear hret hts hl hK hN hQ hG hS; simp [*]; done) | exact zb.f (by unfold zput; clear hret hts hl hK hN hQ hG hS; simp [*]; done)), rfl⟩) hG hS (Nat.le_refl _) (Nat.le_refl _) d_ZA_isPutType_64
        · have b56 : 1 = 0 := (nI_eq (a := 1) (b := 0) (by omega) (by omega)).mp c56
          refine lv_iconst (v := 1) hx hb d_ZA_isPutType_59 (by decide) ?_
          refine lv_goto (tgt := 64) hx hb d_ZA_isPutType_60 (by decide) ?_
          exact hret _ _ _ _ _ _ _ _ _ hr (rfl) (⟨by first | exact absurd c56 (by decide) | exact absurd rfl c56 | (first | exact zb.t (by unfold zput; clear hret hts hl hK hN hQ hG hS; simp [*]; done) | exact zb.f (by unfold zput; clear hret hts hl hK hN hQ hG hS; simp [*]; done)), rfl⟩) hG hS (Nat.le_refl _) (Nat.le_refl _) d_ZA_isPutType_64
  · refine lv_iload_n hx hb d_ZA_isPutType_6 rfl (lv_at hl 0 rfl) ?_
    refine lv_bipush (v := 41) hx hb d_ZA_isPutType_7 (by decide) ?_
    refine lv_icmp_eq (tgt := 38) hx hb d_ZA_isPutType_9 (by decide) (fun c9 => ?_) (fun c9 => ?_)
    · refine lv_iconst (v := 1) hx hb d_ZA_isPutType_38 (by decide) ?_
      refine lv_goto (tgt := 43) hx hb d_ZA_isPutType_39 (by decide) ?_
      refine lv_istore_n (lv' := [(1, .int 1), (0, .int x)]) hx hb d_ZA_isPutType_43 rfl hl (by decide) rfl (fun ls hl => ?_)
      refine lv_iload_n hx hb d_ZA_isPutType_44 rfl (lv_at hl 1 rfl) ?_
      refine lv_iconst (v := 1) hx hb d_ZA_isPutType_45 (by decide) ?_
      refine lv_icmp_lt (tgt := 63) hx hb d_ZA_isPutType_46 (by decide) (fun c46 => ?_) (fun c46 => ?_)
      · refine lv_iconst (v := 0) hx hb d_ZA_isPutType_63 (by decide) ?_
        exact hret _ _ _ _ _ _ _ _ _ hr (rfl) (⟨by first | exact absurd c56 (by decide) | exact absurd rfl c56 | (first | exact zb.t (by unfold zput; clear hret hts hl hK hN hQ hG hS; simp [*]; done) | exact zb.f (by unfold zput; clear hret hts hl hK hN hQ hG hS; simp [*]; done)), rfl⟩) hG hS (Nat.le_refl _) (Nat.le_refl _) d_ZA_isPutType_64
      · refine lv_iload_n hx hb d_ZA_isPutType_49 rfl (lv_at hl 1 rfl) ?_
        refine lv_ldc hx hb hown (hts _ w_861) d_ZA_isPutType_50 ?_
        refine lv_icmp_gt (tgt := 63) hx hb d_ZA_isPutType_52 (by decide) (fun c52 => ?_) (fun c52 => ?_)
        · refine lv_iconst (v := 0) hx hb d_ZA_isPutType_63 (by decide) ?_
          exact hret _ _ _ _ _ _ _ _ _ hr (rfl) (⟨by first | exact absurd c56 (by decide) | exact absurd rfl c56 | (first | exact zb.t (by unfold zput; clear hret hts hl hK hN hQ hG hS; simp [*]; done) | exact zb.f (by unfold zput; clear hret hts hl hK hN hQ hG hS; simp [*]; done)), rfl⟩) hG hS (Nat.le_refl _) (Nat.le_refl _) d_ZA_isPutType_64
        · refine lv_iload_n hx hb d_ZA_isPutType_55 rfl (lv_at hl 0 rfl) ?_
          refine lv_if_ne (tgt := 63) hx hb d_ZA_isPutType_56 (by decide) (fun c56 => ?_) (fun c56 => ?_)
          · have b56 : ¬ 1 = 0 := fun q => c56 ((nI_eq (a := 1) (b := 0) (by omega) (by omega)).mpr q)
            refine lv_iconst (v := 0) hx hb d_ZA_isPutType_63 (by decide) ?_
            exact hret _ _ _ _ _ _ _ _ _ hr (rfl) (⟨by first | exact absurd c56 (by decide) | exact absurd rfl c56 | (first | exact zb.t (by unfold zput; clear hret hts hl hK hN hQ hG hS; simp [*]; done) | exact zb.f (by unfold zput; clear hret hts hl hK hN hQ hG hS; simp [*]; done)), rfl⟩) hG hS (Nat.le_refl _) (Nat.le_refl _) d_ZA_isPutType_64
          · have b56 : 1 = 0 := (nI_eq (a := 1) (b := 0) (by omega) (by omega)).mp c56
            refine lv_iconst (v := 1) hx hb d_ZA_isPutType_59 (by decide) ?_
            refine lv_goto (tgt := 64) hx hb d_ZA_isPutType_60 (by decide) ?_
            exact hret _ _ _ _ _ _ _ _ _ hr (rfl) (⟨by first | exact absurd c56 (by decide) | exact absurd rfl c56 | (first | exact zb.t (by unfold zput; clear hret hts hl hK hN hQ hG hS; simp [*]; done) | exact zb.f (by unfold zput; clear hret hts hl hK hN hQ hG hS; simp [*]; done)), rfl⟩) hG hS (Nat.le_refl _) (Nat.le_refl _) d_ZA_isPutType_64
    · refine lv_iload_n hx hb d_ZA_isPutType_12 rfl (lv_at hl 0 rfl) ?_
      refine lv_bipush (v := 46) hx hb d_ZA_isPutType_13 (by decide) ?_
      refine lv_icmp_lt (tgt := 24) hx hb d_ZA_isPutType_15 (by decide) (fun c15 => ?_) (fun c15 => ?_)
      · refine lv_iload_n hx hb d_ZA_isPutType_24 rfl (lv_at hl 0 rfl) ?_
        refine lv_sipush (v := 249) hx hb d_ZA_isPutType_25 (by decide) ?_
        refine lv_icmp_lt (tgt := 42) hx hb d_ZA_isPutType_28 (by decide) (fun c28 => ?_) (fun c28 => ?_)
        · refine lv_iconst (v := 0) hx hb d_ZA_isPutType_42 (by decide) ?_
          refine lv_istore_n (lv' := [(1, .int 0), (0, .int x)]) hx hb d_ZA_isPutType_43 rfl hl (by decide) rfl (fun ls hl => ?_)
          refine lv_iload_n hx hb d_ZA_isPutType_44 rfl (lv_at hl 1 rfl) ?_
          refine lv_iconst (v := 1) hx hb d_ZA_isPutType_45 (by decide) ?_
          refine lv_icmp_lt (tgt := 63) hx hb d_ZA_isPutType_46 (by decide) (fun c46 => ?_) (fun c46 => ?_)
          · refine lv_iconst (v := 0) hx hb d_ZA_isPutType_63 (by decide) ?_
            exact hret _ _ _ _ _ _ _ _ _ hr (rfl) (⟨by first | exact absurd c56 (by decide) | exact absurd rfl c56 | (first | exact zb.t (by unfold zput; clear hret hts hl hK hN hQ hG hS; simp [*]; done) | exact zb.f (by unfold zput; clear hret hts hl hK hN hQ hG hS; simp [*]; done)), rfl⟩) hG hS (Nat.le_refl _) (Nat.le_refl _) d_ZA_isPutType_64
          · refine lv_iload_n hx hb d_ZA_isPutType_49 rfl (lv_at hl 1 rfl) ?_
            refine lv_ldc hx hb hown (hts _ w_861) d_ZA_isPutType_50 ?_
            refine lv_icmp_gt (tgt := 63) hx hb d_ZA_isPutType_52 (by decide) (fun c52 => ?_) (fun c52 => ?_)
            · refine lv_iconst (v := 0) hx hb d_ZA_isPutType_63 (by decide) ?_
              exact hret _ _ _ _ _ _ _ _ _ hr (rfl) (⟨by first | exact absurd c56 (by decide) | exact absurd rfl c56 | (first | exact zb.t (by unfold zput; clear hret hts hl hK hN hQ hG hS; simp [*]; done) | exact zb.f (by unfold zput; clear hret hts hl hK hN hQ hG hS; simp [*]; done)), rfl⟩) hG hS (Nat.le_refl _) (Nat.le_refl _) d_ZA_isPutType_64
            · refine lv_iload_n hx hb d_ZA_isPutType_55 rfl (lv_at hl 0 rfl) ?_
              refine lv_if_ne (tgt := 63) hx hb d_ZA_isPutType_56 (by decide) (fun c56 => ?_) (fun c56 => ?_)
              · have b56 : ¬ 0 = 0 := fun q => c56 ((nI_eq (a := 0) (b := 0) (by omega) (by omega)).mpr q)
                refine lv_iconst (v := 0) hx hb d_ZA_isPutType_63 (by decide) ?_
                exact hret _ _ _ _ _ _ _ _ _ hr (rfl) (⟨by first | exact absurd c56 (by decide) | exact absurd rfl c56 | (first | exact zb.t (by unfold zput; clear hret hts hl hK hN hQ hG hS; simp [*]; done) | exact zb.f (by unfold zput; clear hret hts hl hK hN hQ hG hS; simp [*]; done)), rfl⟩) hG hS (Nat.le_refl _) (Nat.le_refl _) d_ZA_isPutType_64
              · have b56 : 0 = 0 := (nI_eq (a := 0) (b := 0) (by omega) (by omega)).mp c56
                refine lv_iconst (v := 1) hx hb d_ZA_isPutType_59 (by decide) ?_
                refine lv_goto (tgt := 64) hx hb d_ZA_isPutType_60 (by decide) ?_
                exact hret _ _ _ _ _ _ _ _ _ hr (rfl) (⟨by first | exact absurd c56 (by decide) | exact absurd rfl c56 | (first | exact zb.t (by unfold zput; clear hret hts hl hK hN hQ hG hS; simp [*]; done) | exact zb.f (by unfold zput; clear hret hts hl hK hN hQ hG hS; simp [*]; done)), rfl⟩) hG hS (Nat.le_refl _) (Nat.le_refl _) d_ZA_isPutType_64
        · refine lv_iload_n hx hb d_ZA_isPutType_31 rfl (lv_at hl 0 rfl) ?_
          refine lv_sipush (v := 255) hx hb d_ZA_isPutType_32 (by decide) ?_
          refine lv_icmp_gt (tgt := 42) hx hb d_ZA_isPutType_35 (by decide) (fun c35 => ?_) (fun c35 => ?_)
          · refine lv_iconst (v := 0) hx hb d_ZA_isPutType_42 (by decide) ?_
            refine lv_istore_n (lv' := [(1, .int 0), (0, .int x)]) hx hb d_ZA_isPutType_43 rfl hl (by decide) rfl (fun ls hl => ?_)
            refine lv_iload_n hx hb d_ZA_isPutType_44 rfl (lv_at hl 1 rfl) ?_
            refine lv_iconst (v := 1) hx hb d_ZA_isPutType_45 (by decide) ?_
            refine lv_icmp_lt (tgt := 63) hx hb d_ZA_isPutType_46 (by decide) (fun c46 => ?_) (fun c46 => ?_)
            · refine lv_iconst (v := 0) hx hb d_ZA_isPutType_63 (by decide) ?_
              exact hret _ _ _ _ _ _ _ _ _ hr (rfl) (⟨by first | exact absurd c56 (by decide) | exact absurd rfl c56 | (first | exact zb.t (by unfold zput; clear hret hts hl hK hN hQ hG hS; simp [*]; done) | exact zb.f (by unfold zput; clear hret hts hl hK hN hQ hG hS; simp [*]; done)), rfl⟩) hG hS (Nat.le_refl _) (Nat.le_refl _) d_ZA_isPutType_64
            · refine lv_iload_n hx hb d_ZA_isPutType_49 rfl (lv_at hl 1 rfl) ?_
              refine lv_ldc hx hb hown (hts _ w_861) d_ZA_isPutType_50 ?_
              refine lv_icmp_gt (tgt := 63) hx hb d_ZA_isPutType_52 (by decide) (fun c52 => ?_) (fun c52 => ?_)
              · refine lv_iconst (v := 0) hx hb d_ZA_isPutType_63 (by decide) ?_
                exact hret _ _ _ _ _ _ _ _ _ hr (rfl) (⟨by first | exact absurd c56 (by decide) | exact absurd rfl c56 | (first | exact zb.t (by unfold zput; clear hret hts hl hK hN hQ hG hS; simp [*]; done) | exact zb.f (by unfold zput; clear hret hts hl hK hN hQ hG hS; simp [*]; done)), rfl⟩) hG hS (Nat.le_refl _) (Nat.le_refl _) d_ZA_isPutType_64
              · refine lv_iload_n hx hb d_ZA_isPutType_55 rfl (lv_at hl 0 rfl) ?_
                refine lv_if_ne (tgt := 63) hx hb d_ZA_isPutType_56 (by decide) (fun c56 => ?_) (fun c56 => ?_)
                · have b56 : ¬ 0 = 0 := fun q => c56 ((nI_eq (a := 0) (b := 0) (by omega) (by omega)).mpr q)
                  refine lv_iconst (v := 0) hx hb d_ZA_isPutType_63 (by decide) ?_
                  exact hret _ _ _ _ _ _ _ _ _ hr (rfl) (⟨by first | exact absurd c56 (by decide) | exact absurd rfl c56 | (first | exact zb.t (by unfold zput; clear hret hts hl hK hN hQ hG hS; simp [*]; done) | exact zb.f (by unfold zput; clear hret hts hl hK hN hQ hG hS; simp [*]; done)), rfl⟩) hG hS (Nat.le_refl _) (Nat.le_refl _) d_ZA_isPutType_64
                · have b56 : 0 = 0 := (nI_eq (a := 0) (b := 0) (by omega) (by omega)).mp c56
                  refine lv_iconst (v := 1) hx hb d_ZA_isPutType_59 (by decide) ?_
                  refine lv_goto (tgt := 64) hx hb d_ZA_isPutType_60 (by decide) ?_
                  exact hret _ _ _ _ _ _ _ _ _ hr (rfl) (⟨by first | exact absurd c56 (by decide) | exact absurd rfl c56 | (first | exact zb.t (by unfold zput; clear hret hts hl hK hN hQ hG hS; simp [*]; done) | exact zb.f (by unfold zput; clear hret hts hl hK hN hQ hG hS; simp [*]; done)), rfl⟩) hG hS (Nat.le_refl _) (Nat.le_refl _) d_ZA_isPutType_64
          · refine lv_iconst (v := 1) hx hb d_ZA_isPutType_38 (by decide) ?_
            refine lv_goto (tgt := 43) hx hb d_ZA_isPutType_39 (by decide) ?_
            refine lv_istore_n (lv' := [(1, .int 1), (0, .int x)]) hx hb d_ZA_isPutType_43 rfl hl (by decide) rfl (fun ls hl => ?_)
            refine lv_iload_n hx hb d_ZA_isPutType_44 rfl (lv_at hl 1 rfl) ?_
            refine lv_iconst (v := 1) hx hb d_ZA_isPutType_45 (by decide) ?_
            refine lv_icmp_lt (tgt := 63) hx hb d_ZA_isPutType_46 (by decide) (fun c46 => ?_) (fun c46 => ?_)
            · refine lv_iconst (v := 0) hx hb d_ZA_isPutType_63 (by decide) ?_
              exact hret _ _ _ _ _ _ _ _ _ hr (rfl) (⟨by first | exact absurd c56 (by decide) | exact absurd rfl c56 | (first | exact zb.t (by unfold zput; clear hret hts hl hK hN hQ hG hS; simp [*]; done) | exact zb.f (by unfold zput; clear hret hts hl hK hN hQ hG hS; simp [*]; done)), rfl⟩) hG hS (Nat.le_refl _) (Nat.le_refl _) d_ZA_isPutType_64
            · refine lv_iload_n hx hb d_ZA_isPutType_49 rfl (lv_at hl 1 rfl) ?_
              refine lv_ldc hx hb hown (hts _ w_861) d_ZA_isPutType_50 ?_
              refine lv_icmp_gt (tgt := 63) hx hb d_ZA_isPutType_52 (by decide) (fun c52 => ?_) (fun c52 => ?_)
              · refine lv_iconst (v := 0) hx hb d_ZA_isPutType_63 (by decide) ?_
                exact hret _ _ _ _ _ _ _ _ _ hr (rfl) (⟨by first | exact absurd c56 (by decide) | exact absurd rfl c56 | (first | exact zb.t (by unfold zput; clear hret hts hl hK hN hQ hG hS; simp [*]; done) | exact zb.f (by unfold zput; clear hret hts hl hK hN hQ hG hS; simp [*]; done)), rfl⟩) hG hS (Nat.le_refl _) (Nat.le_refl _) d_ZA_isPutType_64
              · refine lv_iload_n hx hb d_ZA_isPutType_55 rfl (lv_at hl 0 rfl) ?_
                refine lv_if_ne (tgt := 63) hx hb d_ZA_isPutType_56 (by decide) (fun c56 => ?_) (fun c56 => ?_)
                · have b56 : ¬ 1 = 0 := fun q => c56 ((nI_eq (a := 1) (b := 0) (by omega) (by omega)).mpr q)
                  refine lv_iconst (v := 0) hx hb d_ZA_isPutType_63 (by decide) ?_
                  exact hret _ _ _ _ _ _ _ _ _ hr (rfl) (⟨by first | exact absurd c56 (by decide) | exact absurd rfl c56 | (first | exact zb.t (by unfold zput; clear hret hts hl hK hN hQ hG hS; simp [*]; done) | exact zb.f (by unfold zput; clear hret hts hl hK hN hQ hG hS; simp [*]; done)), rfl⟩) hG hS (Nat.le_refl _) (Nat.le_refl _) d_ZA_isPutType_64
                · have b56 : 1 = 0 := (nI_eq (a := 1) (b := 0) (by omega) (by omega)).mp c56
                  refine lv_iconst (v := 1) hx hb d_ZA_isPutType_59 (by decide) ?_
                  refine lv_goto (tgt := 64) hx hb d_ZA_isPutType_60 (by decide) ?_
                  exact hret _ _ _ _ _ _ _ _ _ hr (rfl) (⟨by first | exact absurd c56 (by decide) | exact absurd rfl c56 | (first | exact zb.t (by unfold zput; clear hret hts hl hK hN hQ hG hS; simp [*]; done) | exact zb.f (by unfold zput; clear hret hts hl hK hN hQ hG hS; simp [*]; done)), rfl⟩) hG hS (Nat.le_refl _) (Nat.le_refl _) d_ZA_isPutType_64
      · refine lv_iload_n hx hb d_ZA_isPutType_18 rfl (lv_at hl 0 rfl) ?_
        refine lv_bipush (v := 48) hx hb d_ZA_isPutType_19 (by decide) ?_
        refine lv_icmp_le (tgt := 38) hx hb d_ZA_isPutType_21 (by decide) (fun c21 => ?_) (fun c21 => ?_)
        · refine lv_iconst (v := 1) hx hb d_ZA_isPutType_38 (by decide) ?_
          refine lv_goto (tgt := 43) hx hb d_ZA_isPutType_39 (by decide) ?_
          refine lv_istore_n (lv' := [(1, .int 1), (0, .int x)]) hx hb d_ZA_isPutType_43 rfl hl (by decide) rfl (fun ls hl => ?_)
          refine lv_iload_n hx hb d_ZA_isPutType_44 rfl (lv_at hl 1 rfl) ?_
          refine lv_iconst (v := 1) hx hb d_ZA_isPutType_45 (by decide) ?_
          refine lv_icmp_lt (tgt := 63) hx hb d_ZA_isPutType_46 (by decide) (fun c46 => ?_) (fun c46 => ?_)
          · refine lv_iconst (v := 0) hx hb d_ZA_isPutType_63 (by decide) ?_
            exact hret _ _ _ _ _ _ _ _ _ hr (rfl) (⟨by first | exact absurd c56 (by decide) | exact absurd rfl c56 | (first | exact zb.t (by unfold zput; clear hret hts hl hK hN hQ hG hS; simp [*]; done) | exact zb.f (by unfold zput; clear hret hts hl hK hN hQ hG hS; simp [*]; done)), rfl⟩) hG hS (Nat.le_refl _) (Nat.le_refl _) d_ZA_isPutType_64
          · refine lv_iload_n hx hb d_ZA_isPutType_49 rfl (lv_at hl 1 rfl) ?_
            refine lv_ldc hx hb hown (hts _ w_861) d_ZA_isPutType_50 ?_
            refine lv_icmp_gt (tgt := 63) hx hb d_ZA_isPutType_52 (by decide) (fun c52 => ?_) (fun c52 => ?_)
            · refine lv_iconst (v := 0) hx hb d_ZA_isPutType_63 (by decide) ?_
              exact hret _ _ _ _ _ _ _ _ _ hr (rfl) (⟨by first | exact absurd c56 (by decide) | exact absurd rfl c56 | (first | exact zb.t (by unfold zput; clear hret hts hl hK hN hQ hG hS; simp [*]; done) | exact zb.f (by unfold zput; clear hret hts hl hK hN hQ hG hS; simp [*]; done)), rfl⟩) hG hS (Nat.le_refl _) (Nat.le_refl _) d_ZA_isPutType_64
            · refine lv_iload_n hx hb d_ZA_isPutType_55 rfl (lv_at hl 0 rfl) ?_
              refine lv_if_ne (tgt := 63) hx hb d_ZA_isPutType_56 (by decide) (fun c56 => ?_) (fun c56 => ?_)
              · have b56 : ¬ 1 = 0 := fun q => c56 ((nI_eq (a := 1) (b := 0) (by omega) (by omega)).mpr q)
                refine lv_iconst (v := 0) hx hb d_ZA_isPutType_63 (by decide) ?_
                exact hret _ _ _ _ _ _ _ _ _ hr (rfl) (⟨by first | exact absurd c56 (by decide) | exact absurd rfl c56 | (first | exact zb.t (by unfold zput; clear hret hts hl hK hN hQ hG hS; simp [*]; done) | exact zb.f (by unfold zput; clear hret hts hl hK hN hQ hG hS; simp [*]; done)), rfl⟩) hG hS (Nat.le_refl _) (Nat.le_refl _) d_ZA_isPutType_64
              · have b56 : 1 = 0 := (nI_eq (a := 1) (b := 0) (by omega) (by omega)).mp c56
                refine lv_iconst (v := 1) hx hb d_ZA_isPutType_59 (by decide) ?_
                refine lv_goto (tgt := 64) hx hb d_ZA_isPutType_60 (by decide) ?_
                exact hret _ _ _ _ _ _ _ _ _ hr (rfl) (⟨by first | exact absurd c56 (by decide) | exact absurd rfl c56 | (first | exact zb.t (by unfold zput; clear hret hts hl hK hN hQ hG hS; simp [*]; done) | exact zb.f (by unfold zput; clear hret hts hl hK hN hQ hG hS; simp [*]; done)), rfl⟩) hG hS (Nat.le_refl _) (Nat.le_refl _) d_ZA_isPutType_64
        · refine lv_iload_n hx hb d_ZA_isPutType_24 rfl (lv_at hl 0 rfl) ?_
          refine lv_sipush (v := 249) hx hb d_ZA_isPutType_25 (by decide) ?_
          refine lv_icmp_lt (tgt := 42) hx hb d_ZA_isPutType_28 (by decide) (fun c28 => ?_) (fun c28 => ?_)
          · refine lv_iconst (v := 0) hx hb d_ZA_isPutType_42 (by decide) ?_
            refine lv_istore_n (lv' := [(1, .int 0), (0, .int x)]) hx hb d_ZA_isPutType_43 rfl hl (by decide) rfl (fun ls hl => ?_)
            refine lv_iload_n hx hb d_ZA_isPutType_44 rfl (lv_at hl 1 rfl) ?_
            refine lv_iconst (v := 1) hx hb d_ZA_isPutType_45 (by decide) ?_
            refine lv_icmp_lt (tgt := 63) hx hb d_ZA_isPutType_46 (by decide) (fun c46 => ?_) (fun c46 => ?_)
            · refine lv_iconst (v := 0) hx hb d_ZA_isPutType_63 (by decide) ?_
              exact hret _ _ _ _ _ _ _ _ _ hr (rfl) (⟨by first | exact absurd c56 (by decide) | exact absurd rfl c56 | (first | exact zb.t (by unfold zput; clear hret hts hl hK hN hQ hG hS; simp [*]; done) | exact zb.f (by unfold zput; clear hret hts hl hK hN hQ hG hS; simp [*]; done)), rfl⟩) hG hS (Nat.le_refl _) (Nat.le_refl _) d_ZA_isPutType_64
            · refine lv_iload_n hx hb d_ZA_isPutType_49 rfl (lv_at hl 1 rfl) ?_
              refine lv_ldc hx hb hown (hts _ w_861) d_ZA_isPutType_50 ?_
              refine lv_icmp_gt (tgt := 63) hx hb d_ZA_isPutType_52 (by decide) (fun c52 => ?_) (fun c52 => ?_)
              · refine lv_iconst (v := 0) hx hb d_ZA_isPutType_63 (by decide) ?_
                exact hret _ _ _ _ _ _ _ _ _ hr (rfl) (⟨by first | exact absurd c56 (by decide) | exact absurd rfl c56 | (first | exact zb.t (by unfold zput; clear hret hts hl hK hN hQ hG hS; simp [*]; done) | exact zb.f (by unfold zput; clear hret hts hl hK hN hQ hG hS; simp [*]; done)), rfl⟩) hG hS (Nat.le_refl _) (Nat.le_refl _) d_ZA_isPutType_64
              · refine lv_iload_n hx hb d_ZA_isPutType_55 rfl (lv_at hl 0 rfl) ?_
                refine lv_if_ne (tgt := 63) hx hb d_ZA_isPutType_56 (by decide) (fun c56 => ?_) (fun c56 => ?_)
                · have b56 : ¬ 0 = 0 := fun q => c56 ((nI_eq (a := 0) (b := 0) (by omega) (by omega)).mpr q)
                  refine lv_iconst (v := 0) hx hb d_ZA_isPutType_63 (by decide) ?_
                  exact hret _ _ _ _ _ _ _ _ _ hr (rfl) (⟨by first | exact absurd c56 (by decide) | exact absurd rfl c56 | (first | exact zb.t (by unfold zput; clear hret hts hl hK hN hQ hG hS; simp [*]; done) | exact zb.f (by unfold zput; clear hret hts hl hK hN hQ hG hS; simp [*]; done)), rfl⟩) hG hS (Nat.le_refl _) (Nat.le_refl _) d_ZA_isPutType_64
                · have b56 : 0 = 0 := (nI_eq (a := 0) (b := 0) (by omega) (by omega)).mp c56
                  refine lv_iconst (v := 1) hx hb d_ZA_isPutType_59 (by decide) ?_
                  refine lv_goto (tgt := 64) hx hb d_ZA_isPutType_60 (by decide) ?_
                  exact hret _ _ _ _ _ _ _ _ _ hr (rfl) (⟨by first | exact absurd c56 (by decide) | exact absurd rfl c56 | (first | exact zb.t (by unfold zput; clear hret hts hl hK hN hQ hG hS; simp [*]; done) | exact zb.f (by unfold zput; clear hret hts hl hK hN hQ hG hS; simp [*]; done)), rfl⟩) hG hS (Nat.le_refl _) (Nat.le_refl _) d_ZA_isPutType_64
          · refine lv_iload_n hx hb d_ZA_isPutType_31 rfl (lv_at hl 0 rfl) ?_
            refine lv_sipush (v := 255) hx hb d_ZA_isPutType_32 (by decide) ?_
            refine lv_icmp_gt (tgt := 42) hx hb d_ZA_isPutType_35 (by decide) (fun c35 => ?_) (fun c35 => ?_)
            · refine lv_iconst (v := 0) hx hb d_ZA_isPutType_42 (by decide) ?_
              refine lv_istore_n (lv' := [(1, .int 0), (0, .int x)]) hx hb d_ZA_isPutType_43 rfl hl (by decide) rfl (fun ls hl => ?_)
              refine lv_iload_n hx hb d_ZA_isPutType_44 rfl (lv_at hl 1 rfl) ?_
              refine lv_iconst (v := 1) hx hb d_ZA_isPutType_45 (by decide) ?_
              refine lv_icmp_lt (tgt := 63) hx hb d_ZA_isPutType_46 (by decide) (fun c46 => ?_) (fun c46 => ?_)
              · refine lv_iconst (v := 0) hx hb d_ZA_isPutType_63 (by decide) ?_
                exact hret _ _ _ _ _ _ _ _ _ hr (rfl) (⟨by first | exact absurd c56 (by decide) | exact absurd rfl c56 | (first | exact zb.t (by unfold zput; clear hret hts hl hK hN hQ hG hS; simp [*]; done) | exact zb.f (by unfold zput; clear hret hts hl hK hN hQ hG hS; simp [*]; done)), rfl⟩) hG hS (Nat.le_refl _) (Nat.le_refl _) d_ZA_isPutType_64
              · refine lv_iload_n hx hb d_ZA_isPutType_49 rfl (lv_at hl 1 rfl) ?_
                refine lv_ldc hx hb hown (hts _ w_861) d_ZA_isPutType_50 ?_
                refine lv_icmp_gt (tgt := 63) hx hb d_ZA_isPutType_52 (by decide) (fun c52 => ?_) (fun c52 => ?_)
                · refine lv_iconst (v := 0) hx hb d_ZA_isPutType_63 (by decide) ?_
                  exact hret _ _ _ _ _ _ _ _ _ hr (rfl) (⟨by first | exact absurd c56 (by decide) | exact absurd rfl c56 | (first | exact zb.t (by unfold zput; clear hret hts hl hK hN hQ hG hS; simp [*]; done) | exact zb.f (by unfold zput; clear hret hts hl hK hN hQ hG hS; simp [*]; done)), rfl⟩) hG hS (Nat.le_refl _) (Nat.le_refl _) d_ZA_isPutType_64
                · refine lv_iload_n hx hb d_ZA_isPutType_55 rfl (lv_at hl 0 rfl) ?_
                  refine lv_if_ne (tgt := 63) hx hb d_ZA_isPutType_56 (by decide) (fun c56 => ?_) (fun c56 => ?_)
                  · have b56 : ¬ 0 = 0 := fun q => c56 ((nI_eq (a := 0) (b := 0) (by omega) (by omega)).mpr q)
                    refine lv_iconst (v := 0) hx hb d_ZA_isPutType_63 (by decide) ?_
                    exact hret _ _ _ _ _ _ _ _ _ hr (rfl) (⟨by first | exact absurd c56 (by decide) | exact absurd rfl c56 | (first | exact zb.t (by unfold zput; clear hret hts hl hK hN hQ hG hS; simp [*]; done) | exact zb.f (by unfold zput; clear hret hts hl hK hN hQ hG hS; simp [*]; done)), rfl⟩) hG hS (Nat.le_refl _) (Nat.le_refl _) d_ZA_isPutType_64
                  · have b56 : 0 = 0 := (nI_eq (a := 0) (b := 0) (by omega) (by omega)).mp c56
                    refine lv_iconst (v := 1) hx hb d_ZA_isPutType_59 (by decide) ?_
                    refine lv_goto (tgt := 64) hx hb d_ZA_isPutType_60 (by decide) ?_
                    exact hret _ _ _ _ _ _ _ _ _ hr (rfl) (⟨by first | exact absurd c56 (by decide) | exact absurd rfl c56 | (first | exact zb.t (by unfold zput; clear hret hts hl hK hN hQ hG hS; simp [*]; done) | exact zb.f (by unfold zput; clear hret hts hl hK hN hQ hG hS; simp [*]; done)), rfl⟩) hG hS (Nat.le_refl _) (Nat.le_refl _) d_ZA_isPutType_64
            · refine lv_iconst (v := 1) hx hb d_ZA_isPutType_38 (by decide) ?_
              refine lv_goto (tgt := 43) hx hb d_ZA_isPutType_39 (by decide) ?_
              refine lv_istore_n (lv' := [(1, .int 1), (0, .int x)]) hx hb d_ZA_isPutType_43 rfl hl (by decide) rfl (fun ls hl => ?_)
              refine lv_iload_n hx hb d_ZA_isPutType_44 rfl (lv_at hl 1 rfl) ?_
              refine lv_iconst (v := 1) hx hb d_ZA_isPutType_45 (by decide) ?_
              refine lv_icmp_lt (tgt := 63) hx hb d_ZA_isPutType_46 (by decide) (fun c46 => ?_) (fun c46 => ?_)
              · refine lv_iconst (v := 0) hx hb d_ZA_isPutType_63 (by decide) ?_
                exact hret _ _ _ _ _ _ _ _ _ hr (rfl) (⟨by first | exact absurd c56 (by decide) | exact absurd rfl c56 | (first | exact zb.t (by unfold zput; clear hret hts hl hK hN hQ hG hS; simp [*]; done) | exact zb.f (by unfold zput; clear hret hts hl hK hN hQ hG hS; simp [*]; done)), rfl⟩) hG hS (Nat.le_refl _) (Nat.le_refl _) d_ZA_isPutType_64
              · refine lv_iload_n hx hb d_ZA_isPutType_49 rfl (lv_at hl 1 rfl) ?_
                refine lv_ldc hx hb hown (hts _ w_861) d_ZA_isPutType_50 ?_
                refine lv_icmp_gt (tgt := 63) hx hb d_ZA_isPutType_52 (by decide) (fun c52 => ?_) (fun c52 => ?_)
                · refine lv_iconst (v := 0) hx hb d_ZA_isPutType_63 (by decide) ?_
                  exact hret _ _ _ _ _ _ _ _ _ hr (rfl) (⟨by first | exact absurd c56 (by decide) | exact absurd rfl c56 | (first | exact zb.t (by unfold zput; clear hret hts hl hK hN hQ hG hS; simp [*]; done) | exact zb.f (by unfold zput; clear hret hts hl hK hN hQ hG hS; simp [*]; done)), rfl⟩) hG hS (Nat.le_refl _) (Nat.le_refl _) d_ZA_isPutType_64
                · refine lv_iload_n hx hb d_ZA_isPutType_55 rfl (lv_at hl 0 rfl) ?_
                  refine lv_if_ne (tgt := 63) hx hb d_ZA_isPutType_56 (by decide) (fun c56 => ?_) (fun c56 => ?_)
                  · have b56 : ¬ 1 = 0 := fun q => c56 ((nI_eq (a := 1) (b := 0) (by omega) (by omega)).mpr q)
                    refine lv_iconst (v := 0) hx hb d_ZA_isPutType_63 (by decide) ?_
                    exact hret _ _ _ _ _ _ _ _ _ hr (rfl) (⟨by first | exact absurd c56 (by decide) | exact absurd rfl c56 | (first | exact zb.t (by unfold zput; clear hret hts hl hK hN hQ hG hS; simp [*]; done) | exact zb.f (by unfold zput; clear hret hts hl hK hN hQ hG hS; simp [*]; done)), rfl⟩) hG hS (Nat.le_refl _) (Nat.le_refl _) d_ZA_isPutType_64
                  · have b56 : 1 = 0 := (nI_eq (a := 1) (b := 0) (by omega) (by omega)).mp c56
                    refine lv_iconst (v := 1) hx hb d_ZA_isPutType_59 (by decide) ?_
                    refine lv_goto (tgt := 64) hx hb d_ZA_isPutType_60 (by decide) ?_
                    exact hret _ _ _ _ _ _ _ _ _ hr (rfl) (⟨by first | exact absurd c56 (by decide) | exact absurd rfl c56 | (first | exact zb.t (by unfold zput; clear hret hts hl hK hN hQ hG hS; simp [*]; done) | exact zb.f (by unfold zput; clear hret hts hl hK hN hQ hG hS; simp [*]; done)), rfl⟩) hG hS (Nat.le_refl _) (Nat.le_refl _) d_ZA_isPutType_64
abbrev rm_Mo_allowed : Room := { frames := 0, cells := 0, slots := 0, locals := 0 }
set_option maxHeartbeats 4000000 in
set_option maxRecDepth 100000 in
/-- allowed(type), of the reference -/
theorem t_Mo_allowed (l : Launch) (E : zc_E) (G : zg_G) (x : Int32) : zMi l E y_Mo_allowed c_Mo_allowed 1 (some .boolean) rm_Mo_allowed [.int x] G (fun (r : Int32) (G2 : zg_G) => zb r (zput x) ∧ G2 = G) := by
  refine zMi.of (by decide) (Nat.le_of_ble_eq_true rfl) ?_
  intro p e s m args below meth c Q hZ hG hret ls hl
  obtain ⟨hx, hb, hr, hts, hown, hlocks, hml, hnm, hbase, hK, hN, hQ⟩ := hZ
  have hl : lv_has ls 1 [(0, .int x)] := hl
  have hS : zg_S (zc_b E) s.heap s.heap [] := va_S.rf
  refine lv_iload_n hx hb d_Mo_allowed_0 rfl (lv_at hl 0 rfl) ?_
  refine lv_iconst (v := 1) hx hb d_Mo_allowed_1 (by decide) ?_
  refine lv_icmp_lt (tgt := 53) hx hb d_Mo_allowed_2 (by decide) (fun c2 => ?_) (fun c2 => ?_)
  · refine lv_iconst (v := 0) hx hb d_Mo_allowed_53 (by decide) ?_
    exact hret _ _ _ _ _ _ _ _ _ hr (rfl) (⟨by first | exact zb.t (by unfold zput; clear hret hts hl hK hN hQ hG hS; simp [*]; done) | exact zb.f (by unfold zput; clear hret hts hl hK hN hQ hG hS; simp [*]; done), rfl⟩) hG hS (Nat.le_refl _) (Nat.le_refl _) d_Mo_allowed_54
  · refine lv_iload_n hx hb d_Mo_allowed_5 rfl (lv_at hl 0 rfl) ?_
    refine lv_ldc hx hb hown (hts _ w_1386) d_Mo_allowed_6 ?_
    refine lv_icmp_gt (tgt := 53) hx hb d_Mo_allowed_8 (by decide) (fun c8 => ?_) (fun c8 => ?_)
    · refine lv_iconst (v := 0) hx hb d_Mo_allowed_53 (by decide) ?_
      exact hret _ _ _ _ _ _ _ _ _ hr (rfl) (⟨by first | exact zb.t (by unfold zput; clear hret hts hl hK hN hQ hG hS; simp [*]; done) | exact zb.f (by unfold zput; clear hret hts hl hK hN hQ hG hS; simp [*]; done), rfl⟩) hG hS (Nat.le_refl _) (Nat.le_refl _) d_Mo_allowed_54
    · refine lv_iload_n hx hb d_Mo_allowed_11 rfl (lv_at hl 0 rfl) ?_
      refine lv_bipush (v := 6) hx hb d_Mo_allowed_12 (by decide) ?_
      refine lv_icmp_eq (tgt := 53) hx hb d_Mo_allowed_14 (by decide) (fun c14 => ?_) (fun c14 => ?_)
      · refine lv_iconst (v := 0) hx hb d_Mo_allowed_53 (by decide) ?_
        exact hret _ _ _ _ _ _ _ _ _ hr (rfl) (⟨by first | exact zb.t (by unfold zput; clear hret hts hl hK hN hQ hG hS; simp [*]; done) | exact zb.f (by unfold zput; clear hret hts hl hK hN hQ hG hS; simp [*]; done), rfl⟩) hG hS (Nat.le_refl _) (Nat.le_refl _) d_Mo_allowed_54
      · refine lv_iload_n hx hb d_Mo_allowed_17 rfl (lv_at hl 0 rfl) ?_
        refine lv_bipush (v := 41) hx hb d_Mo_allowed_18 (by decide) ?_
        refine lv_icmp_eq (tgt := 53) hx hb d_Mo_allowed_20 (by decide) (fun c20 => ?_) (fun c20 => ?_)
        · refine lv_iconst (v := 0) hx hb d_Mo_allowed_53 (by decide) ?_
          exact hret _ _ _ _ _ _ _ _ _ hr (rfl) (⟨by first | exact zb.t (by unfold zput; clear hret hts hl hK hN hQ hG hS; simp [*]; done) | exact zb.f (by unfold zput; clear hret hts hl hK hN hQ hG hS; simp [*]; done), rfl⟩) hG hS (Nat.le_refl _) (Nat.le_refl _) d_Mo_allowed_54
        · refine lv_iload_n hx hb d_Mo_allowed_23 rfl (lv_at hl 0 rfl) ?_
          refine lv_bipush (v := 46) hx hb d_Mo_allowed_24 (by decide) ?_
          refine lv_icmp_lt (tgt := 35) hx hb d_Mo_allowed_26 (by decide) (fun c26 => ?_) (fun c26 => ?_)
          · refine lv_iload_n hx hb d_Mo_allowed_35 rfl (lv_at hl 0 rfl) ?_
            refine lv_sipush (v := 249) hx hb d_Mo_allowed_36 (by decide) ?_
            refine lv_icmp_lt (tgt := 49) hx hb d_Mo_allowed_39 (by decide) (fun c39 => ?_) (fun c39 => ?_)
            · refine lv_iconst (v := 1) hx hb d_Mo_allowed_49 (by decide) ?_
              refine lv_goto (tgt := 54) hx hb d_Mo_allowed_50 (by decide) ?_
              exact hret _ _ _ _ _ _ _ _ _ hr (rfl) (⟨by first | exact zb.t (by unfold zput; clear hret hts hl hK hN hQ hG hS; simp [*]; done) | exact zb.f (by unfold zput; clear hret hts hl hK hN hQ hG hS; simp [*]; done), rfl⟩) hG hS (Nat.le_refl _) (Nat.le_refl _) d_Mo_allowed_54
            · refine lv_iload_n hx hb d_Mo_allowed_42 rfl (lv_at hl 0 rfl) ?_
              refine lv_sipush (v := 255) hx hb d_Mo_allowed_43 (by decide) ?_
              refine lv_icmp_le (tgt := 53) hx hb d_Mo_allowed_46 (by decide) (fun c46 => ?_) (fun c46 => ?_)
              · refine lv_iconst (v := 0) hx hb d_Mo_allowed_53 (by decide) ?_
                exact hret _ _ _ _ _ _ _ _ _ hr (rfl) (⟨by first | exact zb.t (by unfold zput; clear hret hts hl hK hN hQ hG hS; simp [*]; done) | exact zb.f (by unfold zput; clear hret hts hl hK hN hQ hG hS; simp [*]; done), rfl⟩) hG hS (Nat.le_refl _) (Nat.le_refl _) d_Mo_allowed_54
              · refine lv_iconst (v := 1) hx hb d_Mo_allowed_49 (by decide) ?_
                refine lv_goto (tgt := 54) hx hb d_Mo_allowed_50 (by decide) ?_
                exact hret _ _ _ _ _ _ _ _ _ hr (rfl) (⟨by first | exact zb.t (by unfold zput; clear hret hts hl hK hN hQ hG hS; simp [*]; done) | exact zb.f (by unfold zput; clear hret hts hl hK hN hQ hG hS; simp [*]; done), rfl⟩) hG hS (Nat.le_refl _) (Nat.le_refl _) d_Mo_allowed_54
          · refine lv_iload_n hx hb d_Mo_allowed_29 rfl (lv_at hl 0 rfl) ?_
            refine lv_bipush (v := 48) hx hb d_Mo_allowed_30 (by decide) ?_
            refine lv_icmp_le (tgt := 53) hx hb d_Mo_allowed_32 (by decide) (fun c32 => ?_) (fun c32 => ?_)
            · refine lv_iconst (v := 0) hx hb d_Mo_allowed_53 (by decide) ?_
              exact hret _ _ _ _ _ _ _ _ _ hr (rfl) (⟨by first | exact zb.t (by unfold zput; clear hret hts hl hK hN hQ hG hS; simp [*]; done) | exact zb.f (by unfold zput; clear hret hts hl hK hN hQ hG hS; simp [*]; done), rfl⟩) hG hS (Nat.le_refl _) (Nat.le_refl _) d_Mo_allowed_54
            · refine lv_iload_n hx hb d_Mo_allowed_35 rfl (lv_at hl 0 rfl) ?_
              refine lv_sipush (v := 249) hx hb d_Mo_allowed_36 (by decide) ?_
              refine lv_icmp_lt (tgt := 49) hx hb d_Mo_allowed_39 (by decide) (fun c39 => ?_) (fun c39 => ?_)
              · refine lv_iconst (v := 1) hx hb d_Mo_allowed_49 (by decide) ?_
                refine lv_goto (tgt := 54) hx hb d_Mo_allowed_50 (by decide) ?_
                exact hret _ _ _ _ _ _ _ _ _ hr (rfl) (⟨by first | exact zb.t (by unfold zput; clear hret hts hl hK hN hQ hG hS; simp [*]; done) | exact zb.f (by unfold zput; clear hret hts hl hK hN hQ hG hS; simp [*]; done), rfl⟩) hG hS (Nat.le_refl _) (Nat.le_refl _) d_Mo_allowed_54
              · refine lv_iload_n hx hb d_Mo_allowed_42 rfl (lv_at hl 0 rfl) ?_
                refine lv_sipush (v := 255) hx hb d_Mo_allowed_43 (by decide) ?_
                refine lv_icmp_le (tgt := 53) hx hb d_Mo_allowed_46 (by decide) (fun c46 => ?_) (fun c46 => ?_)
                · refine lv_iconst (v := 0) hx hb d_Mo_allowed_53 (by decide) ?_
                  exact hret _ _ _ _ _ _ _ _ _ hr (rfl) (⟨by first | exact zb.t (by unfold zput; clear hret hts hl hK hN hQ hG hS; simp [*]; done) | exact zb.f (by unfold zput; clear hret hts hl hK hN hQ hG hS; simp [*]; done), rfl⟩) hG hS (Nat.le_refl _) (Nat.le_refl _) d_Mo_allowed_54
                · refine lv_iconst (v := 1) hx hb d_Mo_allowed_49 (by decide) ?_
                  refine lv_goto (tgt := 54) hx hb d_Mo_allowed_50 (by decide) ?_
                  exact hret _ _ _ _ _ _ _ _ _ hr (rfl) (⟨by first | exact zb.t (by unfold zput; clear hret hts hl hK hN hQ hG hS; simp [*]; done) | exact zb.f (by unfold zput; clear hret hts hl hK hN hQ hG hS; simp [*]; done), rfl⟩) hG hS (Nat.le_refl _) (Nat.le_refl _) d_Mo_allowed_54
abbrev rm_ZA_readNumber : Room := { frames := 0, cells := 0, slots := 0, locals := 0 }
set_option maxHeartbeats 4000000 in
set_option maxRecDepth 100000 in
/-- readNumber(row, at) -/
theorem t_ZA_readNumber (l : Launch) (E : zc_E) (G : zg_G) (b0 n0 : Nat) (f0 : Nat → Int32) (h0 : G b0 = some (.inl (E.2.1 0, n0, .inl f0))) (hft : sb_Fit f0) (hn0 : n0 < 2 ^ 24) (at0 : Nat) (hat : at0 + 4 ≤ n0) : zMi l E y_ZA_readNumber c_ZA_readNumber 2 (some .int) rm_ZA_readNumber [.ref b0, .int (nI at0)] G (fun (r : Int32) (G2 : zg_G) => r = zr4 f0 at0 ∧ G2 = G) := by
  refine zMi.of (by decide) (Nat.le_of_ble_eq_true rfl) ?_
  intro p e s m args below meth c Q hZ hG hret ls hl
  obtain ⟨hx, hb, hr, hts, hown, hlocks, hml, hnm, hbase, hK, hN, hQ⟩ := hZ
  have hl : lv_has ls 2 [(0, .ref b0), (1, .int (nI at0))] := hl
  have hS : zg_S (zc_b E) s.heap s.heap [] := va_S.rf
  refine lv_aload_n hx hb d_ZA_readNumber_0 rfl (lv_at hl 0 rfl) ?_
  refine lv_iload_n hx hb d_ZA_readNumber_1 rfl (lv_at hl 1 rfl) ?_
  refine zg_bald hx hb hK hG 0 h0 rfl (vp_in_nI (by omega) (by omega)) d_ZA_readNumber_2 ?_
  refine zi_as (y := f0 at0) (by rw [zi_n _ (by omega)]) ?_
  refine lv_sipush (v := 255) hx hb d_ZA_readNumber_3 (by decide) ?_
  refine lv_iand hx hb d_ZA_readNumber_6 ?_
  refine lv_bipush (v := 24) hx hb d_ZA_readNumber_7 (by decide) ?_
  refine lv_ishl hx hb d_ZA_readNumber_9 ?_
  refine lv_aload_n hx hb d_ZA_readNumber_10 rfl (lv_at hl 0 rfl) ?_
  refine lv_iload_n hx hb d_ZA_readNumber_11 rfl (lv_at hl 1 rfl) ?_
  refine lv_iconst (v := 1) hx hb d_ZA_readNumber_12 (by decide) ?_
  refine lv_iadd hx hb d_ZA_readNumber_13 ?_
  refine zi_as (y := nI (at0 + 1)) (nI_add at0 1) ?_
  refine zg_bald hx hb hK hG 0 h0 rfl (vp_in_nI (by omega) (by omega)) d_ZA_readNumber_14 ?_
  refine zi_as (y := f0 (at0 + 1)) (by rw [zi_n _ (by omega)]) ?_
  refine lv_sipush (v := 255) hx hb d_ZA_readNumber_15 (by decide) ?_
  refine lv_iand hx hb d_ZA_readNumber_18 ?_
  refine lv_bipush (v := 16) hx hb d_ZA_readNumber_19 (by decide) ?_
  refine lv_ishl hx hb d_ZA_readNumber_21 ?_
  refine lv_ior hx hb d_ZA_readNumber_22 ?_
  refine lv_aload_n hx hb d_ZA_readNumber_23 rfl (lv_at hl 0 rfl) ?_
  refine lv_iload_n hx hb d_ZA_readNumber_24 rfl (lv_at hl 1 rfl) ?_
  refine lv_iconst (v := 2) hx hb d_ZA_readNumber_25 (by decide) ?_
  refine lv_iadd hx hb d_ZA_readNumber_26 ?_
  refine zi_as (y := nI (at0 + 2)) (nI_add at0 2) ?_
  refine zg_bald hx hb hK hG 0 h0 rfl (vp_in_nI (by omega) (by omega)) d_ZA_readNumber_27 ?_
  refine zi_as (y := f0 (at0 + 2)) (by rw [zi_n _ (by omega)]) ?_
  refine lv_sipush (v := 255) hx hb d_ZA_readNumber_28 (by decide) ?_
  refine lv_iand hx hb d_ZA_readNumber_31 ?_
  refine lv_bipush (v := 8) hx hb d_ZA_readNumber_32 (by decide) ?_
  refine lv_ishl hx hb d_ZA_readNumber_34 ?_
  refine lv_ior hx hb d_ZA_readNumber_35 ?_
  refine lv_aload_n hx hb d_ZA_readNumber_36 rfl (lv_at hl 0 rfl) ?_
  refine lv_iload_n hx hb d_ZA_readNumber_37 rfl (lv_at hl 1 rfl) ?_
  refine lv_iconst (v := 3) hx hb d_ZA_readNumber_38 (by decide) ?_
  refine lv_iadd hx hb d_ZA_readNumber_39 ?_
  refine zi_as (y := nI (at0 + 3)) (nI_add at0 3) ?_
  refine zg_bald hx hb hK hG 0 h0 rfl (vp_in_nI (by omega) (by omega)) d_ZA_readNumber_40 ?_
  refine zi_as (y := f0 (at0 + 3)) (by rw [zi_n _ (by omega)]) ?_
  refine lv_sipush (v := 255) hx hb d_ZA_readNumber_41 (by decide) ?_
  refine lv_iand hx hb d_ZA_readNumber_44 ?_
  refine lv_ior hx hb d_ZA_readNumber_45 ?_
  exact hret _ _ _ _ _ _ _ _ _ hr (rfl) (⟨rfl, rfl⟩) hG hS (Nat.le_refl _) (Nat.le_refl _) d_ZA_readNumber_46
abbrev rm_Zo_serialNumber : Room := { frames := 1, cells := 0, slots := 0, locals := 40 }
set_option maxHeartbeats 4000000 in
set_option maxRecDepth 100000 in
/-- Zone.serialNumber() -/
theorem t_Zo_serialNumber (l : Launch) (E : zc_E) (G : zg_G) (a la tn st : Nat) (rc : Int32) (b0 n0 : Nat) (f0 : Nat → Int32) (h0 : G b0 = some (.inl (E.2.1 0, n0, .inl f0))) (hft : sb_Fit f0) (hn0 : n0 < 2 ^ 24) (ha : G a = some (.inr (9, [.ref la, .ref tn, .ref st, .ref b0, .int rc]))) (h20 : 20 ≤ n0) : zMi l E y_Zo_serialNumber c_Zo_serialNumber 1 (some .int) rm_Zo_serialNumber [.ref a] G (fun (r : Int32) (G2 : zg_G) => r = zr4 f0 (n0 - 20) ∧ G2 = G) := by
  refine zMi.of (by decide) (Nat.le_of_ble_eq_true rfl) ?_
  intro p e s m args below meth c Q hZ hG hret ls hl
  obtain ⟨hx, hb, hr, hts, hown, hlocks, hml, hnm, hbase, hK, hN, hQ⟩ := hZ
  have hl : lv_has ls 1 [(0, .ref a)] := hl
  have hS : zg_S (zc_b E) s.heap s.heap [] := va_S.rf
  refine lv_aload_n hx hb d_Zo_serialNumber_0 rfl (lv_at hl 0 rfl) ?_
  refine zg_get (ci := 9) (C := "ZoneAnswers$Zone") (T := T_Zo) (N := 5) hx hb hts zi_Zo hown hK hG ha rfl 3 (by decide) (hts _ w_94) (fun _ h9 => h9) rfl d_Zo_serialNumber_1 ?_
  refine lv_aload_n hx hb d_Zo_serialNumber_4 rfl (lv_at hl 0 rfl) ?_
  refine zg_get (ci := 9) (C := "ZoneAnswers$Zone") (T := T_Zo) (N := 5) hx hb hts zi_Zo hown hK hG ha rfl 3 (by decide) (hts _ w_94) (fun _ h9 => h9) rfl d_Zo_serialNumber_5 ?_
  refine zg_alen hx hb hK hG 0 h0 rfl (v := nI n0) rfl d_Zo_serialNumber_8 ?_
  refine lv_bipush (v := 20) hx hb d_Zo_serialNumber_9 (by decide) ?_
  refine lv_isub hx hb d_Zo_serialNumber_11 ?_
  refine zi_as (y := nI (n0 - 20)) (zi_sub (a := n0) (b := 20) (by omega)) ?_
  refine zk_i (va_runSN (As := [.ref b0, .int (nI (n0 - 20))]) (rest := []) ⟨hx, hb, hml, hown, hts⟩ (t_ZA_readNumber l E G b0 n0 f0 h0 hft hn0 (n0 - 20) (by omega)) ⟨va_cnB 2 hts (zw_good w_723) rfl rfl rfl (zN.at hN (w := .methodLinkNest "ZoneAnswers$Zone" 55 ⟨"ZoneAnswers", "readNumber", "([BI)I"⟩ "ZoneAnswers") (by decide +kernel)) (hts _ w_1) (by decide +kernel) ⟨Nat.le_of_ble_eq_true rfl, Nat.le_of_ble_eq_true rfl⟩, hts _ w_722, trivial⟩ (zc_pre hbase hK hN hQ hG hS) rfl rfl hl.1 rfl (lv_room (Nat.le_of_ble_eq_true rfl)) d_Zo_serialNumber_12 ⟨(by decide), (by decide)⟩) hS (fun r12 G12 H locs hp12 hG hS => ?_)
  have hG : zP E G H := hp12.2 ▸ hG
  refine zi_as (y := zr4 f0 (n0 - 20)) hp12.1 ?_
  exact hret _ _ _ _ _ _ _ _ _ hr (rfl) (⟨rfl, rfl⟩) hG hS (Nat.le_refl _) (Nat.le_refl _) d_Zo_serialNumber_15
abbrev rm_Ta_lowered (x y : Nat) : Room := { frames := 3, cells := 1, slots := y - x, locals := 100 }
set_option maxHeartbeats 4000000 in
set_option maxRecDepth 100000 in
/-- Tape.lowered(x, y) -/
theorem t_Ta_lowered (l : Launch) (E : zc_E) (G : zg_G) (a b : Nat) (tp : List Int32) (hT : zTp E G a b tp) (x y : Nat) (hxy : x ≤ y) (hyn : y ≤ tp.length) : zMq l E y_Ta_lowered c_Ta_lowered 4 (some (.array .byte)) (rm_Ta_lowered x y) [.ref a, .int (nI x), .int (nI y)] G (fun (r : Option Nat) (G2 : zg_G) => ∃ q f2, r = some q ∧ G q = none ∧ zx z0 G G2 ∧ G2 q = some (.inl (E.2.1 0, y - x, .inl f2)) ∧ sb_Fit f2 ∧ ∀ j, j < y - x → f2 j = zlow (tp.getD (x + j) 0)) := by
  refine zMq.of (by decide) (Nat.le_of_ble_eq_true rfl) ?_
  intro p e s m args below meth c Q hZ hG hret ls hl
  obtain ⟨hx, hb, hr, hts, hown, hlocks, hml, hnm, hbase, hK, hN, hQ⟩ := hZ
  have hl : lv_has ls 4 [(0, .ref a), (1, .int (nI x)), (2, .int (nI y))] := hl
  have hS : zg_S (zc_b E) s.heap s.heap [] := va_S.rf
  obtain ⟨ha, n, f, hb0, hn1, hn2, hn3, hf, hft⟩ := id hT
  have hx0 : zx z0 G G := zx.rf
  refine lv_aload_n hx hb d_Ta_lowered_0 rfl (lv_at hl 0 rfl) ?_
  refine zg_get (ci := 7) (C := "ZoneAnswers$Tape") (T := T_Ta) (N := 2) hx hb hts zi_Ta hown hK hG ha rfl 0 (by decide) (hts _ w_51) (fun _ h9 => h9) rfl d_Ta_lowered_1 ?_
  refine lv_iload_n hx hb d_Ta_lowered_4 rfl (lv_at hl 1 rfl) ?_
  refine lv_iload_n hx hb d_Ta_lowered_5 rfl (lv_at hl 2 rfl) ?_
  have hGo6 := hG
  refine zk_q (va_runS (As := [.ref b, .int (nI x), .int (nI y)]) (rest := []) ⟨hx, hb, hml, hown, hts⟩ (t_Ar_copyOfRange l E G b n f hb0 hft (by omega) x y hxy (by omega)) (zcS 3 hts w_837 w_479 w_22 w_480 (by decide +kernel) ⟨Nat.le_of_ble_eq_true rfl, Nat.le_of_ble_eq_true rfl⟩) (zc_pre hbase hK hN hQ hG hS) rfl rfl hl.1 rfl (lv_room (Nat.le_of_ble_eq_true rfl)) d_Ta_lowered_6 ⟨(by dsimp only; omega), (by dsimp only; omega)⟩) hS (fun r6 G6 H locs hp6 hG hS => ?_)
  obtain ⟨q6, f6, er6, nq6, hx6, hq6, hft6, hlo6⟩ := hp6
  refine zr_some (a := q6) er6 ?_
  have k1 : G6 a = some (.inr (7, [.ref b, .int (nI tp.length)])) := hx6.o ha
  have ne_q6_a : a ≠ q6 := zg_fr nq6 ha
  have k2 : G6 b = some (.inl (E.2.1 0, n, .inl f)) := hx6.o hb0
  have ne_q6_b : b ≠ q6 := zg_fr nq6 hb0
  have hx3 : zx z0 G G6 := hx0.tr (hx6.w (fun _ z => z.elim))
  refine lv_astore_n (lv' := [(3, .ref q6), (0, .ref a), (1, .int (nI x)), (2, .int (nI y))]) hx hb d_Ta_lowered_9 rfl hl (by decide) rfl (fun ls hl => ?_)
  refine lv_aload_n hx hb d_Ta_lowered_10 rfl (lv_at hl 0 rfl) ?_
  refine lv_iconst (v := 0) hx hb d_Ta_lowered_11 (by decide) ?_
  refine zi_as (y := nI 0) (nI_0.symm) ?_
  have hGo12 := hG
  refine zk_v (va_runS (As := [.ref q6, .int (nI 0)]) (rest := []) ⟨hx, hb, hml, hown, hts⟩ (t_Ta_lowerFrom l E G6 q6 (y - x) f6 hq6 hft6 (by omega) 0 (Nat.zero_le _)) (zcS 2 hts w_838 w_839 w_2 w_840 (by decide +kernel) ⟨Nat.le_of_ble_eq_true rfl, Nat.le_of_ble_eq_true rfl⟩) (zc_pre hbase hK hN hQ hG hS) rfl rfl hl.1 rfl (lv_room (Nat.le_of_ble_eq_true rfl)) d_Ta_lowered_12 ⟨(by dsimp only; omega), (by dsimp only; omega)⟩) hS (fun G12 H locs hp12 hG hS => ?_)
  obtain ⟨f12, e12, hft12, hq12⟩ := hp12
  have hx4 : zx z0 G G12 := by rw [e12]; exact hx3.upn nq6
  have k5 : G12 a = some (.inr (7, [.ref b, .int (nI tp.length)])) := by rw [e12, zg_up_ne (ne_q6_a)]; exact k1
  have k6 : G12 b = some (.inl (E.2.1 0, n, .inl f)) := by rw [e12, zg_up_ne (ne_q6_b)]; exact k2
  have k7 : G12 q6 = some (.inl (E.2.1 0, y - x, .inl f12)) := by rw [e12]; exact zg_up_self _ _ _
  refine lv_aload_n hx hb d_Ta_lowered_15 rfl (lv_at hl 0 rfl) ?_
  exact hret (some q6) _ _ _ _ _ _ _ _ hr (Or.inr ⟨_, rfl⟩) (⟨q6, f12, rfl, nq6, hx4, k7, hft12, fun j hj => by rw [hq12 j, if_pos ⟨Nat.zero_le _, hj⟩, hlo6 j hj, hf _ (by omega)]⟩) hG hS (by dsimp only; omega) (by dsimp only; omega) d_Ta_lowered_16
abbrev rm_Ns_cut (x y : Nat) : Room := { frames := 0, cells := 1, slots := y - x, locals := 0 }
set_option maxHeartbeats 4000000 in
set_option maxRecDepth 100000 in
/-- Names.cut(n, x, y) -/
theorem t_Ns_cut (l : Launch) (E : zc_E) (G : zg_G) (b0 n0 : Nat) (f0 : Nat → Int32) (h0 : G b0 = some (.inl (E.2.1 0, n0, .inl f0))) (hft : sb_Fit f0) (hn0 : n0 < 2 ^ 24) (x y : Nat) (hxy : x ≤ y) (hyn : y ≤ n0) : zMq l E y_Ns_cut c_Ns_cut 5 (some (.array .byte)) (rm_Ns_cut x y) [.ref b0, .int (nI x), .int (nI y)] G (fun (r : Option Nat) (G2 : zg_G) => ∃ q f2, r = some q ∧ G q = none ∧ zx z0 G G2 ∧ G2 q = some (.inl (E.2.1 0, y - x, .inl f2)) ∧ sb_Fit f2 ∧ ∀ j, j < y - x → f2 j = f0 (x + j)) := by
  refine zMq.of (by decide) (Nat.le_of_ble_eq_true rfl) ?_
  intro p e s m args below meth c Q hZ hG hret ls hl
  obtain ⟨hx, hb, hr, hts, hown, hlocks, hml, hnm, hbase, hK, hN, hQ⟩ := hZ
  have hl : lv_has ls 5 [(0, .ref b0), (1, .int (nI x)), (2, .int (nI y))] := hl
  have hS : zg_S (zc_b E) s.heap s.heap [] := va_S.rf
  have hx0 : zx z0 G G := zx.rf
  refine lv_iload_n hx hb d_Ns_cut_0 rfl (lv_at hl 2 rfl) ?_
  refine lv_iload_n hx hb d_Ns_cut_1 rfl (lv_at hl 1 rfl) ?_
  refine lv_isub hx hb d_Ns_cut_2 ?_
  refine zi_as (y := nI (y - x)) (zi_sub (a := y) (b := x) (by omega)) ?_
  refine zg_newp (atype := .byte) (ty := .byte) (N' := y - x) (a0 := (y - x, .inl (fun _ => 0))) hx hb (hts _ w_58) rfl hK hG hS hbase (fun _ => rfl) (nI_pos (by omega)) (zi_n _ (by omega)) (by show _ * _ ≤ _; simp only [componentBytes]; omega) (by dsimp only; omega) (by dsimp only; omega) d_Ns_cut_3 0 rfl (fun _ h => h) (fun q3 H n3 hG hS => ?_)
  obtain ⟨G1, eG1⟩ : ∃ z : zg_G, z = zg_up G q3 (.inl (E.2.1 0, y - x, .inl (fun _ => 0))) := ⟨_, rfl⟩
  have hG : zP E G1 H := by rw [eG1]; exact hG
  have hx2 : zx z0 G G1 := hx0.tr (by rw [eG1]; exact zx.nw n3)
  have ne3_b0 : b0 ≠ q3 := zg_fr n3 h0
  have k3 : G1 b0 = some (.inl (E.2.1 0, n0, .inl f0)) := by rw [eG1, zg_up_ne (zg_fr n3 h0)]; exact h0
  have k4 : G1 q3 = some (.inl (E.2.1 0, y - x, .inl (fun _ => 0))) := by rw [eG1]; exact zg_up_self _ _ _
  refine lv_astore_n (lv' := [(3, .ref q3), (0, .ref b0), (1, .int (nI x)), (2, .int (nI y))]) hx hb d_Ns_cut_5 rfl hl (by decide) rfl (fun ls hl => ?_)
  refine lv_iconst (v := 0) hx hb d_Ns_cut_6 (by decide) ?_
  refine lv_istore (lv' := [(4, .int 0), (3, .ref q3), (0, .ref b0), (1, .int (nI x)), (2, .int (nI y))]) hx hb d_Ns_cut_7 hl (by decide) rfl (fun ls hl => ?_)
  have loop9 : ∀ (N : Nat) (Gx : zg_G) (i : Nat) (f2 : Nat → Int32) (H : Heap) (locs : List Loc), (y - x - i) < N → (i ≤ y - x) → (sb_Fit f2) → (∀ j, j < i → f2 j = f0 (x + j)) → (Gx b0 = some (.inl (E.2.1 0, n0, .inl f0))) → (Gx q3 = some (.inl (E.2.1 0, y - x, .inl f2))) → (zx z0 G Gx) → zP E Gx H → zg_S (zc_b E) s.heap H locs → ∀ (ls : Array Slot), lv_has ls 5 [(0, .ref b0), (1, .int (nI x)), (2, .int (nI y)), (3, .ref q3), (4, .int (nI i))] → W p l e (rm_Ns_cut x y) s m args below meth c H locs (0 + 1) (0 + (y - x)) Q (F0 m 9 ls []) := by
    intro N
    induction N with
    | zero =>
      intro Gx i f2 H locs hlt
      exact absurd hlt (Nat.not_lt_zero _)
    | succ N ih =>
      intro Gx i f2 H locs hlt hi hft2 hq kk_b0 kk_q3 hxl hG hS ls hl
      refine lv_iload hx hb d_Ns_cut_9 (lv_at hl 4 rfl) ?_
      refine lv_aload_n hx hb d_Ns_cut_11 rfl (lv_at hl 3 rfl) ?_
      refine zg_alen hx hb hK hG 0 kk_q3 rfl (v := nI (y - x)) rfl d_Ns_cut_12 ?_
      refine lv_icmp_ge (tgt := 32) hx hb d_Ns_cut_13 (by decide) (fun c13 => ?_) (fun c13 => ?_)
      · have b13 : (y - x) ≤ i := (nI_leI (a := (y - x)) (b := i) (by omega) (by omega)).mp c13
        refine lv_aload_n hx hb d_Ns_cut_32 rfl (lv_at hl 3 rfl) ?_
        exact hret (some q3) _ _ _ _ _ _ _ _ hr (Or.inr ⟨_, rfl⟩) (⟨q3, f2, rfl, n3, hxl, kk_q3, hft2, fun j hj => hq j (by omega)⟩) hG hS (by dsimp only; omega) (by dsimp only; omega) d_Ns_cut_33
      · have b13 : ¬ (y - x) ≤ i := fun q => c13 ((nI_leI (a := (y - x)) (b := i) (by omega) (by omega)).mpr q)
        refine lv_aload_n hx hb d_Ns_cut_16 rfl (lv_at hl 3 rfl) ?_
        refine lv_iload hx hb d_Ns_cut_17 (lv_at hl 4 rfl) ?_
        refine lv_aload_n hx hb d_Ns_cut_19 rfl (lv_at hl 0 rfl) ?_
        refine lv_iload_n hx hb d_Ns_cut_20 rfl (lv_at hl 1 rfl) ?_
        refine lv_iload hx hb d_Ns_cut_21 (lv_at hl 4 rfl) ?_
        refine lv_iadd hx hb d_Ns_cut_23 ?_
        refine zi_as (y := nI (x + i)) (nI_add x i) ?_
        refine zg_bald hx hb hK hG 0 kk_b0 rfl (vp_in_nI (by omega) (by omega)) d_Ns_cut_24 ?_
        refine zi_as (y := f0 (x + i)) (by rw [zi_n _ (by omega)]) ?_
        refine zg_bast hx hb hK hG hS 0 kk_q3 rfl (vp_in_nI (by omega) (by omega)) d_Ns_cut_25 (fun H locs hG hS => ?_)
        rw [zi_n i (by omega)] at hG
        obtain ⟨G5, eG5⟩ : ∃ z : zg_G, z = zg_up Gx q3 (.inl (E.2.1 0, y - x, .inl (upd f2 i (vp_nar .byte (f0 (x + i)))))) := ⟨_, rfl⟩
        have hG : zP E G5 H := by rw [eG5]; exact hG
        have hx6 : zx z0 G G5 := by rw [eG5]; exact hxl.upn n3
        have k7 : G5 b0 = some (.inl (E.2.1 0, n0, .inl f0)) := by rw [eG5, zg_up_ne (ne3_b0)]; exact kk_b0
        have k8 : G5 q3 = some (.inl (E.2.1 0, y - x, .inl (upd f2 i (vp_nar .byte (f0 (x + i)))))) := by rw [eG5]; exact zg_up_self _ _ _
        refine lv_iinc (v := nI (i + 1)) (lv' := [(4, .int (nI (i + 1))), (0, .ref b0), (1, .int (nI x)), (2, .int (nI y)), (3, .ref q3)]) hx hb d_Ns_cut_26 hl (k := 4) rfl (nI_add i 1) (by decide) rfl (fun ls hl => ?_)
        refine lv_goto (tgt := 9) hx hb d_Ns_cut_29 (by decide) ?_
        exact ih G5 (i + 1) (upd f2 i (vp_nar .byte (f0 (x + i)))) _ _ (by omega) (by omega) (zf_fitu hft2) (zcp_up hq (hft _)) (k7) (k8) (hx6) hG hS ls (lv_sub hl [1, 2, 3, 4, 0] rfl)
  exact loop9 _ G1 0 (fun _ => 0) _ _ (Nat.lt_succ_self _) (Nat.zero_le _) (zf_fit0) (fun j h => absurd h (Nat.not_lt_zero j)) (k3) (k4) (hx2) hG hS ls (lv_sub hl [2, 3, 4, 1, 0] rfl)
abbrev rm_Ns_lower (x y : Nat) : Room := { frames := 1, cells := 1, slots := y - x, locals := 40 }
set_option maxHeartbeats 4000000 in
set_option maxRecDepth 100000 in
/-- Names.lower(n, x, y) -/
theorem t_Ns_lower (l : Launch) (E : zc_E) (G : zg_G) (b0 n0 : Nat) (f0 : Nat → Int32) (h0 : G b0 = some (.inl (E.2.1 0, n0, .inl f0))) (hft : sb_Fit f0) (hn0 : n0 < 2 ^ 24) (x y : Nat) (hxy : x ≤ y) (hyn : y ≤ n0) : zMq l E y_Ns_lower c_Ns_lower 5 (some (.array .byte)) (rm_Ns_lower x y) [.ref b0, .int (nI x), .int (nI y)] G (fun (r : Option Nat) (G2 : zg_G) => ∃ q f2, r = some q ∧ G q = none ∧ zx z0 G G2 ∧ G2 q = some (.inl (E.2.1 0, y - x, .inl f2)) ∧ sb_Fit f2 ∧ ∀ j, j < y - x → f2 j = zlow (f0 (x + j))) := by
  refine zMq.of (by decide) (Nat.le_of_ble_eq_true rfl) ?_
  intro p e s m args below meth c Q hZ hG hret ls hl
  obtain ⟨hx, hb, hr, hts, hown, hlocks, hml, hnm, hbase, hK, hN, hQ⟩ := hZ
  have hl : lv_has ls 5 [(0, .ref b0), (1, .int (nI x)), (2, .int (nI y))] := hl
  have hS : zg_S (zc_b E) s.heap s.heap [] := va_S.rf
  have hx0 : zx z0 G G := zx.rf
  refine lv_aload_n hx hb d_Ns_lower_0 rfl (lv_at hl 0 rfl) ?_
  refine lv_iload_n hx hb d_Ns_lower_1 rfl (lv_at hl 1 rfl) ?_
  refine lv_iload_n hx hb d_Ns_lower_2 rfl (lv_at hl 2 rfl) ?_
  have hGo3 := hG
  refine zk_q (va_runS (As := [.ref b0, .int (nI x), .int (nI y)]) (rest := []) ⟨hx, hb, hml, hown, hts⟩ (t_Ns_cut l E G b0 n0 f0 h0 hft hn0 x y hxy hyn) (zcS 3 hts w_1372 w_1373 w_33 w_1374 (by decide +kernel) ⟨Nat.le_of_ble_eq_true rfl, Nat.le_of_ble_eq_true rfl⟩) (zc_pre hbase hK hN hQ hG hS) rfl rfl hl.1 rfl (lv_room (Nat.le_of_ble_eq_true rfl)) d_Ns_lower_3 ⟨(by dsimp only; omega), (by dsimp only; omega)⟩) hS (fun r3 G3 H locs hp3 hG hS => ?_)
  obtain ⟨q3, f3, er3, nq3, hx3, hq3, hft3, hlo3⟩ := hp3
  refine zr_some (a := q3) er3 ?_
  have k1 : G3 b0 = some (.inl (E.2.1 0, n0, .inl f0)) := hx3.o h0
  have ne_q3_b0 : b0 ≠ q3 := zg_fr nq3 h0
  have hx2 : zx z0 G G3 := hx0.tr (hx3.w (fun _ z => z.elim))
  refine lv_astore_n (lv' := [(3, .ref q3), (0, .ref b0), (1, .int (nI x)), (2, .int (nI y))]) hx hb d_Ns_lower_6 rfl hl (by decide) rfl (fun ls hl => ?_)
  refine lv_iconst (v := 0) hx hb d_Ns_lower_7 (by decide) ?_
  refine lv_istore (lv' := [(4, .int 0), (3, .ref q3), (0, .ref b0), (1, .int (nI x)), (2, .int (nI y))]) hx hb d_Ns_lower_8 hl (by decide) rfl (fun ls hl => ?_)
  have loop10 : ∀ (N : Nat) (Gx : zg_G) (i : Nat) (f2 : Nat → Int32) (H : Heap) (locs : List Loc), (y - x - i) < N → (i ≤ y - x) → (sb_Fit f2) → (∀ j, f2 j = if 0 ≤ j ∧ j < i then zlow (f3 j) else f3 j) → (Gx q3 = some (.inl (E.2.1 0, y - x, .inl f2))) → (zx z0 G Gx) → zP E Gx H → zg_S (zc_b E) s.heap H locs → ∀ (ls : Array Slot), lv_has ls 5 [(0, .ref b0), (1, .int (nI x)), (2, .int (nI y)), (3, .ref q3), (4, .int (nI i))] → W p l e (rm_Ns_lower x y) s m args below meth c H locs (0 + (rm_Ns_cut x y).cells) (0 + (rm_Ns_cut x y).slots) Q (F0 m 10 ls []) := by
    intro N
    induction N with
    | zero =>
      intro Gx i f2 H locs hlt
      exact absurd hlt (Nat.not_lt_zero _)
    | succ N ih =>
      intro Gx i f2 H locs hlt hi hft2 hq kk_q3 hxl hG hS ls hl
      refine lv_iload hx hb d_Ns_lower_10 (lv_at hl 4 rfl) ?_
      refine lv_aload_n hx hb d_Ns_lower_12 rfl (lv_at hl 3 rfl) ?_
      refine zg_alen hx hb hK hG 0 kk_q3 rfl (v := nI (y - x)) rfl d_Ns_lower_13 ?_
      refine lv_icmp_ge (tgt := 51) hx hb d_Ns_lower_14 (by decide) (fun c14 => ?_) (fun c14 => ?_)
      · have b14 : (y - x) ≤ i := (nI_leI (a := (y - x)) (b := i) (by omega) (by omega)).mp c14
        refine lv_aload_n hx hb d_Ns_lower_51 rfl (lv_at hl 3 rfl) ?_
        exact hret (some q3) _ _ _ _ _ _ _ _ hr (Or.inr ⟨_, rfl⟩) (⟨q3, f2, rfl, nq3, hxl, kk_q3, hft2, fun j hj => by rw [hq j, if_pos (by omega), hlo3 j hj]⟩) hG hS (by dsimp only; omega) (by dsimp only; omega) d_Ns_lower_52
      · have b14 : ¬ (y - x) ≤ i := fun q => c14 ((nI_leI (a := (y - x)) (b := i) (by omega) (by omega)).mpr q)
        refine lv_aload_n hx hb d_Ns_lower_17 rfl (lv_at hl 3 rfl) ?_
        refine lv_iload hx hb d_Ns_lower_18 (lv_at hl 4 rfl) ?_
        refine zg_bald hx hb hK hG 0 kk_q3 rfl (vp_in_nI (by omega) (by omega)) d_Ns_lower_20 ?_
        refine zi_as (y := f2 i) (by rw [zi_n _ (by omega)]) ?_
        refine lv_bipush (v := 65) hx hb d_Ns_lower_21 (by decide) ?_
        refine lv_icmp_lt (tgt := 45) hx hb d_Ns_lower_23 (by decide) (fun c23 => ?_) (fun c23 => ?_)
        · refine lv_iinc (v := nI (i + 1)) (lv' := [(4, .int (nI (i + 1))), (0, .ref b0), (1, .int (nI x)), (2, .int (nI y)), (3, .ref q3)]) hx hb d_Ns_lower_45 hl (k := 4) rfl (nI_add i 1) (by decide) rfl (fun ls hl => ?_)
          refine lv_goto (tgt := 10) hx hb d_Ns_lower_48 (by decide) ?_
          exact ih Gx (i + 1) f2 _ _ (by omega) (by omega) (by first | exact hft2 | exact zf_fitu hft2) (by first | exact zlow_keep hq (Or.inl c23) | exact zlow_keep hq (Or.inr c32) | exact zlow_hit hq c23 c32 (hft3 i)) (kk_q3) (hxl) hG hS ls (lv_sub hl [1, 2, 3, 4, 0] rfl)
        · refine lv_aload_n hx hb d_Ns_lower_26 rfl (lv_at hl 3 rfl) ?_
          refine lv_iload hx hb d_Ns_lower_27 (lv_at hl 4 rfl) ?_
          refine zg_bald hx hb hK hG 0 kk_q3 rfl (vp_in_nI (by omega) (by omega)) d_Ns_lower_29 ?_
          refine zi_as (y := f2 i) (by rw [zi_n _ (by omega)]) ?_
          refine lv_bipush (v := 90) hx hb d_Ns_lower_30 (by decide) ?_
          refine lv_icmp_gt (tgt := 45) hx hb d_Ns_lower_32 (by decide) (fun c32 => ?_) (fun c32 => ?_)
          · refine lv_iinc (v := nI (i + 1)) (lv' := [(4, .int (nI (i + 1))), (0, .ref b0), (1, .int (nI x)), (2, .int (nI y)), (3, .ref q3)]) hx hb d_Ns_lower_45 hl (k := 4) rfl (nI_add i 1) (by decide) rfl (fun ls hl => ?_)
            refine lv_goto (tgt := 10) hx hb d_Ns_lower_48 (by decide) ?_
            exact ih Gx (i + 1) f2 _ _ (by omega) (by omega) (by first | exact hft2 | exact zf_fitu hft2) (by first | exact zlow_keep hq (Or.inl c23) | exact zlow_keep hq (Or.inr c32) | exact zlow_hit hq c23 c32 (hft3 i)) (kk_q3) (hxl) hG hS ls (lv_sub hl [1, 2, 3, 4, 0] rfl)
          · refine lv_aload_n hx hb d_Ns_lower_35 rfl (lv_at hl 3 rfl) ?_
            refine lv_iload hx hb d_Ns_lower_36 (lv_at hl 4 rfl) ?_
            refine lv_dup2_11 hx hb d_Ns_lower_38 rfl rfl ?_
            refine zg_bald hx hb hK hG 0 kk_q3 rfl (vp_in_nI (by omega) (by omega)) d_Ns_lower_39 ?_
            refine zi_as (y := f2 i) (by rw [zi_n _ (by omega)]) ?_
            refine lv_bipush (v := 32) hx hb d_Ns_lower_40 (by decide) ?_
            refine lv_iadd hx hb d_Ns_lower_42 ?_
            refine lv_i2b hx hb d_Ns_lower_43 rfl ?_
            refine zg_bast hx hb hK hG hS 0 kk_q3 rfl (vp_in_nI (by omega) (by omega)) d_Ns_lower_44 (fun H locs hG hS => ?_)
            rw [zi_n i (by omega)] at hG
            obtain ⟨G3, eG3⟩ : ∃ z : zg_G, z = zg_up Gx q3 (.inl (E.2.1 0, y - x, .inl (upd f2 i (vp_nar .byte (((f2 i) + 32).toInt8.toInt32))))) := ⟨_, rfl⟩
            have hG : zP E G3 H := by rw [eG3]; exact hG
            have hx4 : zx z0 G G3 := by rw [eG3]; exact hxl.upn nq3
            have k5 : G3 q3 = some (.inl (E.2.1 0, y - x, .inl (upd f2 i (vp_nar .byte (((f2 i) + 32).toInt8.toInt32))))) := by rw [eG3]; exact zg_up_self _ _ _
            refine lv_iinc (v := nI (i + 1)) (lv' := [(4, .int (nI (i + 1))), (0, .ref b0), (1, .int (nI x)), (2, .int (nI y)), (3, .ref q3)]) hx hb d_Ns_lower_45 hl (k := 4) rfl (nI_add i 1) (by decide) rfl (fun ls hl => ?_)
            refine lv_goto (tgt := 10) hx hb d_Ns_lower_48 (by decide) ?_
            exact ih G3 (i + 1) (upd f2 i (vp_nar .byte (((f2 i) + 32).toInt8.toInt32))) _ _ (by omega) (by omega) (by first | exact hft2 | exact zf_fitu hft2) (by first | exact zlow_keep hq (Or.inl c23) | exact zlow_keep hq (Or.inr c32) | exact zlow_hit hq c23 c32 (hft3 i)) (k5) (hx4) hG hS ls (lv_sub hl [1, 2, 3, 4, 0] rfl)
  exact loop10 _ G3 0 f3 _ _ (Nat.lt_succ_self _) (Nat.zero_le _) (hft3) (fun j => by rw [if_neg (by omega)]) (hq3) (hx2) hG hS ls (lv_sub hl [2, 3, 4, 1, 0] rfl)
abbrev rm_Mo_thrown : Room := { frames := 0, cells := 0, slots := 0, locals := 0 }
set_option maxHeartbeats 4000000 in
set_option maxRecDepth 100000 in
/-- thrown(), of the reference -/
theorem t_Mo_thrown (l : Launch) (E : zc_E) (G : zg_G) (a m1 m3 m4 m6 m7 m8 m9 m10 m11 m12 m15 m18 : Nat) (th tn m5 m13 m14 m16 m17 : Int32) (m19 m20 : Value) (ha : G a = some (.inr (11, [.int th, .ref m1, .int tn, .ref m3, .ref m4, .int m5, .ref m6, .ref m7, .ref m8, .ref m9, .ref m10, .ref m11, .ref m12, .int m13, .int m14, .ref m15, .int m16, .int m17, .ref m18, m19, m20]))) : zMi l E y_Mo_thrown c_Mo_thrown 1 (some .int) rm_Mo_thrown [.ref a] G (fun (r : Int32) (G2 : zg_G) => r = th ∧ G2 = G) := by
  refine zMi.of (by decide) (Nat.le_of_ble_eq_true rfl) ?_
  intro p e s m args below meth c Q hZ hG hret ls hl
  obtain ⟨hx, hb, hr, hts, hown, hlocks, hml, hnm, hbase, hK, hN, hQ⟩ := hZ
  have hl : lv_has ls 1 [(0, .ref a)] := hl
  have hS : zg_S (zc_b E) s.heap s.heap [] := va_S.rf
  refine lv_aload_n hx hb d_Mo_thrown_0 rfl (lv_at hl 0 rfl) ?_
  refine zg_get (ci := 11) (C := "ZoneAnswersModel") (T := T_Mo) (N := 21) hx hb hts zi_Mo hown hK hG ha rfl 0 (by decide) (hts _ w_1281) (fun _ h9 => h9) rfl d_Mo_thrown_1 ?_
  exact hret _ _ _ _ _ _ _ _ _ hr (rfl) (⟨rfl, rfl⟩) hG hS (Nat.le_refl _) (Nat.le_refl _) d_Mo_thrown_4
abbrev rm_Mo_fail : Room := { frames := 0, cells := 0, slots := 0, locals := 0 }
set_option maxHeartbeats 4000000 in
set_option maxRecDepth 100000 in
/-- fail(k), of the reference -/
theorem t_Mo_fail (l : Launch) (E : zc_E) (G : zg_G) (a m1 m3 m4 m6 m7 m8 m9 m10 m11 m12 m15 m18 : Nat) (th tn m5 m13 m14 m16 m17 : Int32) (m19 m20 : Value) (ha : G a = some (.inr (11, [.int th, .ref m1, .int tn, .ref m3, .ref m4, .int m5, .ref m6, .ref m7, .ref m8, .ref m9, .ref m10, .ref m11, .ref m12, .int m13, .int m14, .ref m15, .int m16, .int m17, .ref m18, m19, m20]))) (k : Int32) : zMi l E y_Mo_fail c_Mo_fail 2 (some .int) rm_Mo_fail [.ref a, .int k] G (fun (r : Int32) (G2 : zg_G) => r = 0 ∧ G2 = zg_up G a (.inr (11, [.int k, .ref m1, .int tn, .ref m3, .ref m4, .int m5, .ref m6, .ref m7, .ref m8, .ref m9, .ref m10, .ref m11, .ref m12, .int m13, .int m14, .ref m15, .int m16, .int m17, .ref m18, m19, m20]))) := by
  refine zMi.of (by decide) (Nat.le_of_ble_eq_true rfl) ?_
  intro p e s m args below meth c Q hZ hG hret ls hl
  obtain ⟨hx, hb, hr, hts, hown, hlocks, hml, hnm, hbase, hK, hN, hQ⟩ := hZ
  have hl : lv_has ls 2 [(0, .ref a), (1, .int k)] := hl
  have hS : zg_S (zc_b E) s.heap s.heap [] := va_S.rf
  refine lv_aload_n hx hb d_Mo_fail_0 rfl (lv_at hl 0 rfl) ?_
  refine lv_iload_n hx hb d_Mo_fail_1 rfl (lv_at hl 1 rfl) ?_
  refine zg_put (ci := 11) (v := .int k) (ty := .int) (C := "ZoneAnswersModel") (T := T_Mo) (N := 21) hx hb hts zi_Mo t_Mo t_Mo_ok n_Mo hown hK hG hS ha rfl 0 (by decide) (hts _ w_1281) (fun _ h9 => h9) rfl (by decide +kernel) rfl rfl (Nat.le_of_ble_eq_true rfl) d_Mo_fail_2 (fun H locs hG hS => ?_)
  obtain ⟨G1, eG1⟩ : ∃ z : zg_G, z = zg_up G a (.inr (11, [.int k, .ref m1, .int tn, .ref m3, .ref m4, .int m5, .ref m6, .ref m7, .ref m8, .ref m9, .ref m10, .ref m11, .ref m12, .int m13, .int m14, .ref m15, .int m16, .int m17, .ref m18, m19, m20])) := ⟨_, rfl⟩
  have hG : zP E G1 H := by rw [eG1]; exact hG
  have k2 : G1 a = some (.inr (11, [.int k, .ref m1, .int tn, .ref m3, .ref m4, .int m5, .ref m6, .ref m7, .ref m8, .ref m9, .ref m10, .ref m11, .ref m12, .int m13, .int m14, .ref m15, .int m16, .int m17, .ref m18, m19, m20])) := by rw [eG1]; exact zg_up_self _ _ _
  refine lv_iconst (v := 0) hx hb d_Mo_fail_5 (by decide) ?_
  exact hret _ _ _ _ _ _ _ _ _ hr (rfl) (⟨rfl, eG1⟩) hG hS (Nat.le_refl _) (Nat.le_refl _) d_Mo_fail_6
abbrev rm_Mo_end : Room := { frames := 1, cells := 0, slots := 0, locals := 24 }
set_option maxHeartbeats 4000000 in
set_option maxRecDepth 100000 in
/-- end(k), of the reference -/
theorem t_Mo_end (l : Launch) (E : zc_E) (G : zg_G) (a m1 m3 m4 m6 m7 m8 m9 m10 m11 m12 m15 m18 : Nat) (th tn m5 m13 m14 m16 m17 : Int32) (m19 m20 : Value) (ha : G a = some (.inr (11, [.int th, .ref m1, .int tn, .ref m3, .ref m4, .int m5, .ref m6, .ref m7, .ref m8, .ref m9, .ref m10, .ref m11, .ref m12, .int m13, .int m14, .ref m15, .int m16, .int m17, .ref m18, m19, m20]))) (k : Int32) : zMi l E y_Mo_end c_Mo_end 2 (some .int) rm_Mo_end [.ref a, .int k] G (fun (r : Int32) (G2 : zg_G) => ((k < 0 ∨ tn < k) ∧ r = 0 ∧ G2 = zg_up G a (.inr (11, [.int 1, .ref m1, .int tn, .ref m3, .ref m4, .int m5, .ref m6, .ref m7, .ref m8, .ref m9, .ref m10, .ref m11, .ref m12, .int m13, .int m14, .ref m15, .int m16, .int m17, .ref m18, m19, m20]))) ∨ (¬ k < 0 ∧ ¬ tn < k ∧ r = k ∧ G2 = zg_up G a (.inr (11, [.int 0, .ref m1, .int k, .ref m3, .ref m4, .int m5, .ref m6, .ref m7, .ref m8, .ref m9, .ref m10, .ref m11, .ref m12, .int m13, .int m14, .ref m15, .int m16, .int m17, .ref m18, m19, m20])))) := by
  refine zMi.of (by decide) (Nat.le_of_ble_eq_true rfl) ?_
  intro p e s m args below meth c Q hZ hG hret ls hl
  obtain ⟨hx, hb, hr, hts, hown, hlocks, hml, hnm, hbase, hK, hN, hQ⟩ := hZ
  have hl : lv_has ls 2 [(0, .ref a), (1, .int k)] := hl
  have hS : zg_S (zc_b E) s.heap s.heap [] := va_S.rf
  refine lv_aload_n hx hb d_Mo_end_0 rfl (lv_at hl 0 rfl) ?_
  refine lv_iconst (v := 0) hx hb d_Mo_end_1 (by decide) ?_
  refine zg_put (ci := 11) (v := .int 0) (ty := .int) (C := "ZoneAnswersModel") (T := T_Mo) (N := 21) hx hb hts zi_Mo t_Mo t_Mo_ok n_Mo hown hK hG hS ha rfl 0 (by decide) (hts _ w_1281) (fun _ h9 => h9) rfl (by decide +kernel) rfl rfl (Nat.le_of_ble_eq_true rfl) d_Mo_end_2 (fun H locs hG hS => ?_)
  obtain ⟨G1, eG1⟩ : ∃ z : zg_G, z = zg_up G a (.inr (11, [.int 0, .ref m1, .int tn, .ref m3, .ref m4, .int m5, .ref m6, .ref m7, .ref m8, .ref m9, .ref m10, .ref m11, .ref m12, .int m13, .int m14, .ref m15, .int m16, .int m17, .ref m18, m19, m20])) := ⟨_, rfl⟩
  have hG : zP E G1 H := by rw [eG1]; exact hG
  have k2 : G1 a = some (.inr (11, [.int 0, .ref m1, .int tn, .ref m3, .ref m4, .int m5, .ref m6, .ref m7, .ref m8, .ref m9, .ref m10, .ref m11, .ref m12, .int m13, .int m14, .ref m15, .int m16, .int m17, .ref m18, m19, m20])) := by rw [eG1]; exact zg_up_self _ _ _
  refine lv_iload_n hx hb d_Mo_end_5 rfl (lv_at hl 1 rfl) ?_
  refine lv_if_lt (tgt := 17) hx hb d_Mo_end_6 (by decide) (fun c6 => ?_) (fun c6 => ?_)
  · refine lv_aload_n hx hb d_Mo_end_17 rfl (lv_at hl 0 rfl) ?_
    refine lv_iconst (v := 1) hx hb d_Mo_end_18 (by decide) ?_
    have hGo19 := hG
    refine zk_i (va_runV (As := [.int 1]) (rest := []) ⟨hx, hb, hml, hown, hts⟩ (t_Mo_fail l E G1 a m1 m3 m4 m6 m7 m8 m9 m10 m11 m12 m15 m18 0 tn m5 m13 m14 m16 m17 m19 m20 k2 1) (zcV 1 hts w_1354 w_1356 wp_26 w_30 w_1357 (by decide +kernel) ⟨Nat.le_of_ble_eq_true rfl, Nat.le_of_ble_eq_true rfl⟩) (zc_preV hbase hK hN hQ hG hS k2 rfl) rfl rfl hl.1 rfl (lv_room (Nat.le_of_ble_eq_true rfl)) d_Mo_end_19 ⟨(by decide), (by decide)⟩) hS (fun r19 G19 H locs hp19 hG hS => ?_)
    refine zi_as (y := 0) hp19.1 ?_
    have k3 : G19 a = some (.inr (11, [.int 1, .ref m1, .int tn, .ref m3, .ref m4, .int m5, .ref m6, .ref m7, .ref m8, .ref m9, .ref m10, .ref m11, .ref m12, .int m13, .int m14, .ref m15, .int m16, .int m17, .ref m18, m19, m20])) := by rw [hp19.2]; exact zg_up_self _ _ _
    exact hret _ _ _ _ _ _ _ _ _ hr (rfl) (Or.inl ⟨by first | exact Or.inl c6 | exact Or.inr (Int32.not_le.mp c14), rfl, by rw [hp19.2]; subst_vars; rw [zg_up_up]⟩) hG hS (Nat.le_refl _) (Nat.le_refl _) d_Mo_end_22
  · refine lv_iload_n hx hb d_Mo_end_9 rfl (lv_at hl 1 rfl) ?_
    refine lv_aload_n hx hb d_Mo_end_10 rfl (lv_at hl 0 rfl) ?_
    refine zg_get (ci := 11) (C := "ZoneAnswersModel") (T := T_Mo) (N := 21) hx hb hts zi_Mo hown hK hG k2 rfl 2 (by decide) (hts _ w_1283) (fun _ h9 => h9) rfl d_Mo_end_11 ?_
    refine lv_icmp_le (tgt := 23) hx hb d_Mo_end_14 (by decide) (fun c14 => ?_) (fun c14 => ?_)
    · refine lv_aload_n hx hb d_Mo_end_23 rfl (lv_at hl 0 rfl) ?_
      refine lv_iload_n hx hb d_Mo_end_24 rfl (lv_at hl 1 rfl) ?_
      refine zg_put (ci := 11) (v := .int k) (ty := .int) (C := "ZoneAnswersModel") (T := T_Mo) (N := 21) hx hb hts zi_Mo t_Mo t_Mo_ok n_Mo hown hK hG hS k2 rfl 2 (by decide) (hts _ w_1283) (fun _ h9 => h9) rfl (by decide +kernel) rfl rfl (Nat.le_of_ble_eq_true rfl) d_Mo_end_25 (fun H locs hG hS => ?_)
      obtain ⟨G4, eG4⟩ : ∃ z : zg_G, z = zg_up G1 a (.inr (11, [.int 0, .ref m1, .int k, .ref m3, .ref m4, .int m5, .ref m6, .ref m7, .ref m8, .ref m9, .ref m10, .ref m11, .ref m12, .int m13, .int m14, .ref m15, .int m16, .int m17, .ref m18, m19, m20])) := ⟨_, rfl⟩
      have hG : zP E G4 H := by rw [eG4]; exact hG
      have k5 : G4 a = some (.inr (11, [.int 0, .ref m1, .int k, .ref m3, .ref m4, .int m5, .ref m6, .ref m7, .ref m8, .ref m9, .ref m10, .ref m11, .ref m12, .int m13, .int m14, .ref m15, .int m16, .int m17, .ref m18, m19, m20])) := by rw [eG4]; exact zg_up_self _ _ _
      refine lv_iload_n hx hb d_Mo_end_28 rfl (lv_at hl 1 rfl) ?_
      exact hret _ _ _ _ _ _ _ _ _ hr (rfl) (Or.inr ⟨c6, Int32.not_lt.mpr c14, rfl, by subst_vars; rw [zg_up_up]⟩) hG hS (Nat.le_refl _) (Nat.le_refl _) d_Mo_end_29
    · refine lv_aload_n hx hb d_Mo_end_17 rfl (lv_at hl 0 rfl) ?_
      refine lv_iconst (v := 1) hx hb d_Mo_end_18 (by decide) ?_
      have hGo19 := hG
      refine zk_i (va_runV (As := [.int 1]) (rest := []) ⟨hx, hb, hml, hown, hts⟩ (t_Mo_fail l E G1 a m1 m3 m4 m6 m7 m8 m9 m10 m11 m12 m15 m18 0 tn m5 m13 m14 m16 m17 m19 m20 k2 1) (zcV 1 hts w_1354 w_1356 wp_26 w_30 w_1357 (by decide +kernel) ⟨Nat.le_of_ble_eq_true rfl, Nat.le_of_ble_eq_true rfl⟩) (zc_preV hbase hK hN hQ hG hS k2 rfl) rfl rfl hl.1 rfl (lv_room (Nat.le_of_ble_eq_true rfl)) d_Mo_end_19 ⟨(by decide), (by decide)⟩) hS (fun r19 G19 H locs hp19 hG hS => ?_)
      refine zi_as (y := 0) hp19.1 ?_
      have k6 : G19 a = some (.inr (11, [.int 1, .ref m1, .int tn, .ref m3, .ref m4, .int m5, .ref m6, .ref m7, .ref m8, .ref m9, .ref m10, .ref m11, .ref m12, .int m13, .int m14, .ref m15, .int m16, .int m17, .ref m18, m19, m20])) := by rw [hp19.2]; exact zg_up_self _ _ _
      exact hret _ _ _ _ _ _ _ _ _ hr (rfl) (Or.inl ⟨by first | exact Or.inl c6 | exact Or.inr (Int32.not_le.mp c14), rfl, by rw [hp19.2]; subst_vars; rw [zg_up_up]⟩) hG hS (Nat.le_refl _) (Nat.le_refl _) d_Mo_end_22
