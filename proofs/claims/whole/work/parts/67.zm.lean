theorem zE_root {F : Nat → Int32} {N x : Nat} {r : Int32} (h : zE F N x r) (hN : 1 ≤ N) (h0 : F 0 = 0) : r = nI (x + 1) := by
  have hz : zNm F N [] := ⟨⟨fun l hl => absurd hl List.not_mem_nil, by decide⟩, hN, np_f_nil.mpr h0⟩
  rcases h with ⟨ls, q, q2⟩ | ⟨q, -⟩
  · rw [q2, zNm_un q hz]; rfl
  · exact absurd ⟨[], hz⟩ q
theorem zw8 (w : Int32) : w = 0 ∨ w = 1 ∨ w = 2 ∨ w = 3 ∨ w = 4 ∨ w = 5 ∨ w = 6 ∨ w = 7 ∨ (w < 0 ∨ 7 < w) := by
  by_cases h : w < 0
  · exact Or.inr (Or.inr (Or.inr (Or.inr (Or.inr (Or.inr (Or.inr (Or.inr (Or.inl h))))))))
  · obtain ⟨j, hj, rfl⟩ := nI_of h
    rcases Nat.lt_or_ge 7 j with q | q
    · exact Or.inr (Or.inr (Or.inr (Or.inr (Or.inr (Or.inr (Or.inr (Or.inr (Or.inr ((nI_ltI (a := 7) (b := j) (by omega) hj).mpr q)))))))))
    · rcases (show j = 0 ∨ j = 1 ∨ j = 2 ∨ j = 3 ∨ j = 4 ∨ j = 5 ∨ j = 6 ∨ j = 7 by omega) with rfl | rfl | rfl | rfl | rfl | rfl | rfl | rfl <;> decide
theorem zsec3 {y : Int32} (h1 : ¬ y < 1) (h2 : y ≤ 3) : y = 1 ∨ y = 2 ∨ y = 3 := by
  have h : ¬ y < 0 := fun q => h1 (Int32.lt_of_lt_of_le q (by decide))
  obtain ⟨j, hj, rfl⟩ := nI_of h
  have h3 : ¬ j < 1 := fun q => h1 ((nI_ltI (a := j) (b := 1) hj (by omega)).mpr q)
  have h4 : j ≤ 3 := (nI_leI (a := j) (b := 3) hj (by omega)).mp h2
  rcases (show j = 1 ∨ j = 2 ∨ j = 3 by omega) with rfl | rfl | rfl <;> decide
theorem zsec4 {y : Int32} (h : y < 1 ∨ ¬ y ≤ 3) : ¬ y = 1 ∧ ¬ y = 2 ∧ ¬ y = 3 := by
  refine ⟨fun q => ?_, fun q => ?_, fun q => ?_⟩ <;> (subst q; revert h; decide)
/-- the number of four bytes, as the reference has it -/
def zl4 (f : Nat → Int32) (k : Nat) : Int64 := (((0 <<< ((8 : Int32).toInt64 &&& 63) ||| (f (k + 0) &&& 255).toInt64) <<< ((8 : Int32).toInt64 &&& 63) ||| (f (k + 1) &&& 255).toInt64) <<< ((8 : Int32).toInt64 &&& 63) ||| (f (k + 2) &&& 255).toInt64) <<< ((8 : Int32).toInt64 &&& 63) ||| (f (k + 3) &&& 255).toInt64
theorem w_1294 : (.fieldLink "ZoneAnswersModel" 140 "ZoneAnswersModel" "answers" "I" : Cond) ∈ zw := zw_at 1294 (by decide +kernel) (by decide +kernel)
theorem w_1366 : (.methodLink "ZoneAnswersModel" 120 ⟨"ZoneAnswersModel$Names", "end", "([BII)I"⟩ : Cond) ∈ zw := zw_at 1366 (by decide +kernel) (by decide +kernel)
theorem w_1367 : (.static ⟨"ZoneAnswersModel$Names", "end", "([BII)I"⟩ : Cond) ∈ zw := zw_at 1367 (by decide +kernel) (by decide +kernel)
theorem w_1368 : (.code ⟨"ZoneAnswersModel$Names", "end", "([BII)I"⟩ prog_13_method_2_code 4 (some .int) : Cond) ∈ zw := zw_at 1368 (by decide +kernel) (by decide +kernel)
theorem w_1379 : (.methodLink "ZoneAnswersModel" 257 ⟨"ZoneAnswersModel", "record", "(I)Z"⟩ : Cond) ∈ zw := zw_at 1379 (by decide +kernel) (by decide +kernel)
theorem w_1381 : (.instanceMethod ⟨"ZoneAnswersModel", "record", "(I)Z"⟩ : Cond) ∈ zw := zw_at 1381 (by decide +kernel) (by decide +kernel)
theorem w_1382 : (.code ⟨"ZoneAnswersModel", "record", "(I)Z"⟩ prog_12_method_39_code 3 (some .boolean) : Cond) ∈ zw := zw_at 1382 (by decide +kernel) (by decide +kernel)
theorem w_1391 : (.methodLink "ZoneAnswersModel" 188 ⟨"ZoneAnswersModel$Names", "cut", "([BII)[B"⟩ : Cond) ∈ zw := zw_at 1391 (by decide +kernel) (by decide +kernel)
theorem w_1412 : (.methodLink "ZoneAnswersModel" 74 ⟨"ZoneAnswersModel$Names", "ends", "([BI[BI)Z"⟩ : Cond) ∈ zw := zw_at 1412 (by decide +kernel) (by decide +kernel)
theorem w_1433 : (.methodLink "ZoneAnswersModel" 270 ⟨"ZoneAnswersModel", "whole", "()[B"⟩ : Cond) ∈ zw := zw_at 1433 (by decide +kernel) (by decide +kernel)
theorem w_1435 : (.instanceMethod ⟨"ZoneAnswersModel", "whole", "()[B"⟩ : Cond) ∈ zw := zw_at 1435 (by decide +kernel) (by decide +kernel)
theorem w_1436 : (.code ⟨"ZoneAnswersModel", "whole", "()[B"⟩ prog_12_method_45_code 1 (some (.array .byte)) : Cond) ∈ zw := zw_at 1436 (by decide +kernel) (by decide +kernel)
theorem w_1441 : (.methodLink "ZoneAnswersModel" 126 ⟨"ZoneAnswersModel", "numbers", "()I"⟩ : Cond) ∈ zw := zw_at 1441 (by decide +kernel) (by decide +kernel)
theorem w_1443 : (.instanceMethod ⟨"ZoneAnswersModel", "numbers", "()I"⟩ : Cond) ∈ zw := zw_at 1443 (by decide +kernel) (by decide +kernel)
theorem w_1444 : (.code ⟨"ZoneAnswersModel", "numbers", "()I"⟩ prog_12_method_15_code 2 (some .int) : Cond) ∈ zw := zw_at 1444 (by decide +kernel) (by decide +kernel)
theorem w_1445 : (.methodLink "ZoneAnswersModel" 130 ⟨"ZoneAnswersModel", "four", "([BI)J"⟩ : Cond) ∈ zw := zw_at 1445 (by decide +kernel) (by decide +kernel)
theorem w_1446 : (.static ⟨"ZoneAnswersModel", "four", "([BI)J"⟩ : Cond) ∈ zw := zw_at 1446 (by decide +kernel) (by decide +kernel)
theorem w_1447 : (.code ⟨"ZoneAnswersModel", "four", "([BI)J"⟩ prog_12_method_14_code 5 (some .long) : Cond) ∈ zw := zw_at 1447 (by decide +kernel) (by decide +kernel)
theorem w_1456 : (.methodLink "ZoneAnswersModel" 106 ⟨"ZoneAnswersModel", "cutOver", "([B)I"⟩ : Cond) ∈ zw := zw_at 1456 (by decide +kernel) (by decide +kernel)
theorem w_1458 : (.instanceMethod ⟨"ZoneAnswersModel", "cutOver", "([B)I"⟩ : Cond) ∈ zw := zw_at 1458 (by decide +kernel) (by decide +kernel)
theorem w_1459 : (.code ⟨"ZoneAnswersModel", "cutOver", "([B)I"⟩ prog_12_method_9_code 4 (some .int) : Cond) ∈ zw := zw_at 1459 (by decide +kernel) (by decide +kernel)
theorem w_1460 : (.methodLink "ZoneAnswersModel" 94 ⟨"ZoneAnswersModel$Names", "labels", "([B)I"⟩ : Cond) ∈ zw := zw_at 1460 (by decide +kernel) (by decide +kernel)
theorem w_1467 : (.methodLink "ZoneAnswersModel" 102 ⟨"ZoneAnswersModel", "cut", "([BI)Z"⟩ : Cond) ∈ zw := zw_at 1467 (by decide +kernel) (by decide +kernel)
theorem w_1469 : (.instanceMethod ⟨"ZoneAnswersModel", "cut", "([BI)Z"⟩ : Cond) ∈ zw := zw_at 1469 (by decide +kernel) (by decide +kernel)
theorem w_1470 : (.code ⟨"ZoneAnswersModel", "cut", "([BI)Z"⟩ prog_12_method_8_code 3 (some .boolean) : Cond) ∈ zw := zw_at 1470 (by decide +kernel) (by decide +kernel)
theorem w_1512 : (.methodLink "ZoneAnswersModel" 113 ⟨"ZoneAnswersModel", "away", "([B)Z"⟩ : Cond) ∈ zw := zw_at 1512 (by decide +kernel) (by decide +kernel)
theorem w_1514 : (.instanceMethod ⟨"ZoneAnswersModel", "away", "([B)Z"⟩ : Cond) ∈ zw := zw_at 1514 (by decide +kernel) (by decide +kernel)
theorem w_1515 : (.code ⟨"ZoneAnswersModel", "away", "([B)Z"⟩ prog_12_method_10_code 2 (some .boolean) : Cond) ∈ zw := zw_at 1515 (by decide +kernel) (by decide +kernel)
theorem w_1584 : (.methodLink "ZoneAnswersModel" 283 ⟨"ZoneAnswersModel", "place", "(II)I"⟩ : Cond) ∈ zw := zw_at 1584 (by decide +kernel) (by decide +kernel)
theorem w_1586 : (.instanceMethod ⟨"ZoneAnswersModel", "place", "(II)I"⟩ : Cond) ∈ zw := zw_at 1586 (by decide +kernel) (by decide +kernel)
theorem w_1587 : (.code ⟨"ZoneAnswersModel", "place", "(II)I"⟩ prog_12_method_51_code 5 (some .int) : Cond) ∈ zw := zw_at 1587 (by decide +kernel) (by decide +kernel)
theorem w_1600 : (.methodLink "ZoneAnswersModel" 286 ⟨"ZoneAnswersModel", "fresh", "(I)I"⟩ : Cond) ∈ zw := zw_at 1600 (by decide +kernel) (by decide +kernel)
theorem w_1602 : (.instanceMethod ⟨"ZoneAnswersModel", "fresh", "(I)I"⟩ : Cond) ∈ zw := zw_at 1602 (by decide +kernel) (by decide +kernel)
theorem w_1603 : (.code ⟨"ZoneAnswersModel", "fresh", "(I)I"⟩ prog_12_method_56_code 7 (some .int) : Cond) ∈ zw := zw_at 1603 (by decide +kernel) (by decide +kernel)
theorem wp_27 : (.selects "ZoneAnswersModel" ⟨"ZoneAnswersModel", "record", "(I)Z"⟩ ⟨"ZoneAnswersModel", "record", "(I)Z"⟩ : Cond) ∈ zw := zw_pv 27 (y := ⟨"ZoneAnswersModel", "record", "(I)Z"⟩) rfl (by decide +kernel)
theorem wp_34 : (.selects "ZoneAnswersModel" ⟨"ZoneAnswersModel", "whole", "()[B"⟩ ⟨"ZoneAnswersModel", "whole", "()[B"⟩ : Cond) ∈ zw := zw_pv 34 (y := ⟨"ZoneAnswersModel", "whole", "()[B"⟩) rfl (by decide +kernel)
theorem wp_35 : (.selects "ZoneAnswersModel" ⟨"ZoneAnswersModel", "numbers", "()I"⟩ ⟨"ZoneAnswersModel", "numbers", "()I"⟩ : Cond) ∈ zw := zw_pv 35 (y := ⟨"ZoneAnswersModel", "numbers", "()I"⟩) rfl (by decide +kernel)
theorem wp_37 : (.selects "ZoneAnswersModel" ⟨"ZoneAnswersModel", "cutOver", "([B)I"⟩ ⟨"ZoneAnswersModel", "cutOver", "([B)I"⟩ : Cond) ∈ zw := zw_pv 37 (y := ⟨"ZoneAnswersModel", "cutOver", "([B)I"⟩) rfl (by decide +kernel)
theorem wp_38 : (.selects "ZoneAnswersModel" ⟨"ZoneAnswersModel", "cut", "([BI)Z"⟩ ⟨"ZoneAnswersModel", "cut", "([BI)Z"⟩ : Cond) ∈ zw := zw_pv 38 (y := ⟨"ZoneAnswersModel", "cut", "([BI)Z"⟩) rfl (by decide +kernel)
theorem wp_46 : (.selects "ZoneAnswersModel" ⟨"ZoneAnswersModel", "away", "([B)Z"⟩ ⟨"ZoneAnswersModel", "away", "([B)Z"⟩ : Cond) ∈ zw := zw_pv 46 (y := ⟨"ZoneAnswersModel", "away", "([B)Z"⟩) rfl (by decide +kernel)
theorem wp_60 : (.selects "ZoneAnswersModel" ⟨"ZoneAnswersModel", "place", "(II)I"⟩ ⟨"ZoneAnswersModel", "place", "(II)I"⟩ : Cond) ∈ zw := zw_pv 60 (y := ⟨"ZoneAnswersModel", "place", "(II)I"⟩) rfl (by decide +kernel)
theorem wp_61 : (.selects "ZoneAnswersModel" ⟨"ZoneAnswersModel", "fresh", "(I)I"⟩ ⟨"ZoneAnswersModel", "fresh", "(I)I"⟩ : Cond) ∈ zw := zw_pv 61 (y := ⟨"ZoneAnswersModel", "fresh", "(I)I"⟩) rfl (by decide +kernel)
abbrev c_Mo_origin : ByteArray := prog_12_method_36_code
abbrev y_Mo_origin : MethodName := ⟨"ZoneAnswersModel", "origin", "(IIIII)V"⟩
theorem d_Mo_origin_0 : decode c_Mo_origin 0 = .ok (.aload_n 0, 1) := by decide +kernel
theorem d_Mo_origin_1 : decode c_Mo_origin 1 = .ok (.getfield 8, 3) := by decide +kernel
theorem d_Mo_origin_4 : decode c_Mo_origin 4 = .ok (.iconst 0, 1) := by decide +kernel
theorem d_Mo_origin_5 : decode c_Mo_origin 5 = .ok (.aload_n 0, 1) := by decide +kernel
theorem d_Mo_origin_6 : decode c_Mo_origin 6 = .ok (.getfield 231, 3) := by decide +kernel
theorem d_Mo_origin_9 : decode c_Mo_origin 9 = .ok (.invokestatic 120, 3) := by decide +kernel
theorem d_Mo_origin_12 : decode c_Mo_origin 12 = .ok (.istore 6, 2) := by decide +kernel
theorem d_Mo_origin_14 : decode c_Mo_origin 14 = .ok (.iload 6, 2) := by decide +kernel
theorem d_Mo_origin_16 : decode c_Mo_origin 16 = .ok (.ifCond .ge 7, 3) := by decide +kernel
theorem d_Mo_origin_19 : decode c_Mo_origin 19 = .ok (.iconst (-1), 1) := by decide +kernel
theorem d_Mo_origin_20 : decode c_Mo_origin 20 = .ok (.goto 16, 3) := by decide +kernel
theorem d_Mo_origin_23 : decode c_Mo_origin 23 = .ok (.aload_n 0, 1) := by decide +kernel
theorem d_Mo_origin_24 : decode c_Mo_origin 24 = .ok (.getfield 8, 3) := by decide +kernel
theorem d_Mo_origin_27 : decode c_Mo_origin 27 = .ok (.iload 6, 2) := by decide +kernel
theorem d_Mo_origin_29 : decode c_Mo_origin 29 = .ok (.aload_n 0, 1) := by decide +kernel
theorem d_Mo_origin_30 : decode c_Mo_origin 30 = .ok (.getfield 231, 3) := by decide +kernel
theorem d_Mo_origin_33 : decode c_Mo_origin 33 = .ok (.invokestatic 120, 3) := by decide +kernel
theorem d_Mo_origin_36 : decode c_Mo_origin 36 = .ok (.istore 7, 2) := by decide +kernel
theorem d_Mo_origin_38 : decode c_Mo_origin 38 = .ok (.iload 7, 2) := by decide +kernel
theorem d_Mo_origin_40 : decode c_Mo_origin 40 = .ok (.ifCond .ge 7, 3) := by decide +kernel
theorem d_Mo_origin_43 : decode c_Mo_origin 43 = .ok (.iconst (-1), 1) := by decide +kernel
theorem d_Mo_origin_44 : decode c_Mo_origin 44 = .ok (.goto 16, 3) := by decide +kernel
theorem d_Mo_origin_47 : decode c_Mo_origin 47 = .ok (.aload_n 0, 1) := by decide +kernel
theorem d_Mo_origin_48 : decode c_Mo_origin 48 = .ok (.getfield 8, 3) := by decide +kernel
theorem d_Mo_origin_51 : decode c_Mo_origin 51 = .ok (.iload 7, 2) := by decide +kernel
theorem d_Mo_origin_53 : decode c_Mo_origin 53 = .ok (.aload_n 0, 1) := by decide +kernel
theorem d_Mo_origin_54 : decode c_Mo_origin 54 = .ok (.getfield 231, 3) := by decide +kernel
theorem d_Mo_origin_57 : decode c_Mo_origin 57 = .ok (.invokestatic 120, 3) := by decide +kernel
theorem d_Mo_origin_60 : decode c_Mo_origin 60 = .ok (.istore 8, 2) := by decide +kernel
theorem d_Mo_origin_62 : decode c_Mo_origin 62 = .ok (.aload_n 0, 1) := by decide +kernel
theorem d_Mo_origin_63 : decode c_Mo_origin 63 = .ok (.iload 8, 2) := by decide +kernel
theorem d_Mo_origin_65 : decode c_Mo_origin 65 = .ok (.aload_n 0, 1) := by decide +kernel
theorem d_Mo_origin_66 : decode c_Mo_origin 66 = .ok (.getfield 231, 3) := by decide +kernel
theorem d_Mo_origin_69 : decode c_Mo_origin 69 = .ok (.if_icmp .ne 7, 3) := by decide +kernel
theorem d_Mo_origin_72 : decode c_Mo_origin 72 = .ok (.iload_n 1, 1) := by decide +kernel
theorem d_Mo_origin_73 : decode c_Mo_origin 73 = .ok (.ifCond .ge 7, 3) := by decide +kernel
theorem d_Mo_origin_76 : decode c_Mo_origin 76 = .ok (.iconst 1, 1) := by decide +kernel
theorem d_Mo_origin_77 : decode c_Mo_origin 77 = .ok (.goto 4, 3) := by decide +kernel
theorem d_Mo_origin_80 : decode c_Mo_origin 80 = .ok (.iconst 0, 1) := by decide +kernel
theorem d_Mo_origin_81 : decode c_Mo_origin 81 = .ok (.putfield 57, 3) := by decide +kernel
theorem d_Mo_origin_84 : decode c_Mo_origin 84 = .ok (.aload_n 0, 1) := by decide +kernel
theorem d_Mo_origin_85 : decode c_Mo_origin 85 = .ok (.getfield 57, 3) := by decide +kernel
theorem d_Mo_origin_88 : decode c_Mo_origin 88 = .ok (.ifCond .le 4, 3) := by decide +kernel
theorem d_Mo_origin_91 : decode c_Mo_origin 91 = .ok (.return_, 1) := by decide +kernel
theorem d_Mo_origin_92 : decode c_Mo_origin 92 = .ok (.aload_n 0, 1) := by decide +kernel
theorem d_Mo_origin_93 : decode c_Mo_origin 93 = .ok (.getfield 8, 3) := by decide +kernel
theorem d_Mo_origin_96 : decode c_Mo_origin 96 = .ok (.iload 6, 2) := by decide +kernel
theorem d_Mo_origin_98 : decode c_Mo_origin 98 = .ok (.iload 8, 2) := by decide +kernel
theorem d_Mo_origin_100 : decode c_Mo_origin 100 = .ok (.invokestatic 239, 3) := by decide +kernel
theorem d_Mo_origin_103 : decode c_Mo_origin 103 = .ok (.astore 9, 2) := by decide +kernel
theorem d_Mo_origin_105 : decode c_Mo_origin 105 = .ok (.aload 9, 2) := by decide +kernel
theorem d_Mo_origin_107 : decode c_Mo_origin 107 = .ok (.arraylength, 1) := by decide +kernel
theorem d_Mo_origin_108 : decode c_Mo_origin 108 = .ok (.bipush 20, 2) := by decide +kernel
theorem d_Mo_origin_110 : decode c_Mo_origin 110 = .ok (.iadd, 1) := by decide +kernel
theorem d_Mo_origin_111 : decode c_Mo_origin 111 = .ok (.newarray .byte, 2) := by decide +kernel
theorem d_Mo_origin_113 : decode c_Mo_origin 113 = .ok (.astore 10, 2) := by decide +kernel
theorem d_Mo_origin_115 : decode c_Mo_origin 115 = .ok (.iconst 0, 1) := by decide +kernel
theorem d_Mo_origin_116 : decode c_Mo_origin 116 = .ok (.istore 11, 2) := by decide +kernel
theorem d_Mo_origin_118 : decode c_Mo_origin 118 = .ok (.iload 11, 2) := by decide +kernel
theorem d_Mo_origin_120 : decode c_Mo_origin 120 = .ok (.aload 9, 2) := by decide +kernel
theorem d_Mo_origin_122 : decode c_Mo_origin 122 = .ok (.arraylength, 1) := by decide +kernel
theorem d_Mo_origin_123 : decode c_Mo_origin 123 = .ok (.if_icmp .ge 19, 3) := by decide +kernel
theorem d_Mo_origin_126 : decode c_Mo_origin 126 = .ok (.aload 10, 2) := by decide +kernel
theorem d_Mo_origin_128 : decode c_Mo_origin 128 = .ok (.iload 11, 2) := by decide +kernel
theorem d_Mo_origin_130 : decode c_Mo_origin 130 = .ok (.aload 9, 2) := by decide +kernel
theorem d_Mo_origin_132 : decode c_Mo_origin 132 = .ok (.iload 11, 2) := by decide +kernel
theorem d_Mo_origin_134 : decode c_Mo_origin 134 = .ok (.baload, 1) := by decide +kernel
theorem d_Mo_origin_135 : decode c_Mo_origin 135 = .ok (.bastore, 1) := by decide +kernel
theorem d_Mo_origin_136 : decode c_Mo_origin 136 = .ok (.iinc 11 1, 3) := by decide +kernel
theorem d_Mo_origin_139 : decode c_Mo_origin 139 = .ok (.goto (-21), 3) := by decide +kernel
theorem d_Mo_origin_142 : decode c_Mo_origin 142 = .ok (.iconst 0, 1) := by decide +kernel
theorem d_Mo_origin_143 : decode c_Mo_origin 143 = .ok (.istore 11, 2) := by decide +kernel
theorem d_Mo_origin_145 : decode c_Mo_origin 145 = .ok (.iload 11, 2) := by decide +kernel
theorem d_Mo_origin_147 : decode c_Mo_origin 147 = .ok (.iconst 5, 1) := by decide +kernel
theorem d_Mo_origin_148 : decode c_Mo_origin 148 = .ok (.if_icmp .ge 94, 3) := by decide +kernel
theorem d_Mo_origin_151 : decode c_Mo_origin 151 = .ok (.iload 11, 2) := by decide +kernel
theorem d_Mo_origin_153 : decode c_Mo_origin 153 = .ok (.ifCond .ne 7, 3) := by decide +kernel
theorem d_Mo_origin_156 : decode c_Mo_origin 156 = .ok (.iconst 1, 1) := by decide +kernel
theorem d_Mo_origin_157 : decode c_Mo_origin 157 = .ok (.goto 36, 3) := by decide +kernel
theorem d_Mo_origin_160 : decode c_Mo_origin 160 = .ok (.iload 11, 2) := by decide +kernel
theorem d_Mo_origin_162 : decode c_Mo_origin 162 = .ok (.iconst 1, 1) := by decide +kernel
theorem d_Mo_origin_163 : decode c_Mo_origin 163 = .ok (.if_icmp .ne 7, 3) := by decide +kernel
theorem d_Mo_origin_166 : decode c_Mo_origin 166 = .ok (.iload_n 2, 1) := by decide +kernel
theorem d_Mo_origin_167 : decode c_Mo_origin 167 = .ok (.goto 26, 3) := by decide +kernel
theorem d_Mo_origin_170 : decode c_Mo_origin 170 = .ok (.iload 11, 2) := by decide +kernel
theorem d_Mo_origin_172 : decode c_Mo_origin 172 = .ok (.iconst 2, 1) := by decide +kernel
theorem d_Mo_origin_173 : decode c_Mo_origin 173 = .ok (.if_icmp .ne 7, 3) := by decide +kernel
theorem d_Mo_origin_176 : decode c_Mo_origin 176 = .ok (.iload_n 3, 1) := by decide +kernel
theorem d_Mo_origin_177 : decode c_Mo_origin 177 = .ok (.goto 16, 3) := by decide +kernel
theorem d_Mo_origin_180 : decode c_Mo_origin 180 = .ok (.iload 11, 2) := by decide +kernel
theorem d_Mo_origin_182 : decode c_Mo_origin 182 = .ok (.iconst 3, 1) := by decide +kernel
theorem d_Mo_origin_183 : decode c_Mo_origin 183 = .ok (.if_icmp .ne 8, 3) := by decide +kernel
theorem d_Mo_origin_186 : decode c_Mo_origin 186 = .ok (.iload 4, 2) := by decide +kernel
theorem d_Mo_origin_188 : decode c_Mo_origin 188 = .ok (.goto 5, 3) := by decide +kernel
theorem d_Mo_origin_191 : decode c_Mo_origin 191 = .ok (.iload 5, 2) := by decide +kernel
theorem d_Mo_origin_193 : decode c_Mo_origin 193 = .ok (.istore 12, 2) := by decide +kernel
theorem d_Mo_origin_195 : decode c_Mo_origin 195 = .ok (.iconst 0, 1) := by decide +kernel
theorem d_Mo_origin_196 : decode c_Mo_origin 196 = .ok (.istore 13, 2) := by decide +kernel
theorem d_Mo_origin_198 : decode c_Mo_origin 198 = .ok (.iload 13, 2) := by decide +kernel
theorem d_Mo_origin_200 : decode c_Mo_origin 200 = .ok (.iconst 4, 1) := by decide +kernel
theorem d_Mo_origin_201 : decode c_Mo_origin 201 = .ok (.if_icmp .ge 35, 3) := by decide +kernel
theorem d_Mo_origin_204 : decode c_Mo_origin 204 = .ok (.aload 10, 2) := by decide +kernel
theorem d_Mo_origin_206 : decode c_Mo_origin 206 = .ok (.aload 9, 2) := by decide +kernel
theorem d_Mo_origin_208 : decode c_Mo_origin 208 = .ok (.arraylength, 1) := by decide +kernel
theorem d_Mo_origin_209 : decode c_Mo_origin 209 = .ok (.iconst 4, 1) := by decide +kernel
theorem d_Mo_origin_210 : decode c_Mo_origin 210 = .ok (.iload 11, 2) := by decide +kernel
theorem d_Mo_origin_212 : decode c_Mo_origin 212 = .ok (.imul, 1) := by decide +kernel
theorem d_Mo_origin_213 : decode c_Mo_origin 213 = .ok (.iadd, 1) := by decide +kernel
theorem d_Mo_origin_214 : decode c_Mo_origin 214 = .ok (.iload 13, 2) := by decide +kernel
theorem d_Mo_origin_216 : decode c_Mo_origin 216 = .ok (.iadd, 1) := by decide +kernel
theorem d_Mo_origin_217 : decode c_Mo_origin 217 = .ok (.iload 12, 2) := by decide +kernel
theorem d_Mo_origin_219 : decode c_Mo_origin 219 = .ok (.bipush 24, 2) := by decide +kernel
theorem d_Mo_origin_221 : decode c_Mo_origin 221 = .ok (.bipush 8, 2) := by decide +kernel
theorem d_Mo_origin_223 : decode c_Mo_origin 223 = .ok (.iload 13, 2) := by decide +kernel
theorem d_Mo_origin_225 : decode c_Mo_origin 225 = .ok (.imul, 1) := by decide +kernel
theorem d_Mo_origin_226 : decode c_Mo_origin 226 = .ok (.isub, 1) := by decide +kernel
theorem d_Mo_origin_227 : decode c_Mo_origin 227 = .ok (.ishr, 1) := by decide +kernel
theorem d_Mo_origin_228 : decode c_Mo_origin 228 = .ok (.i2b, 1) := by decide +kernel
theorem d_Mo_origin_229 : decode c_Mo_origin 229 = .ok (.bastore, 1) := by decide +kernel
theorem d_Mo_origin_230 : decode c_Mo_origin 230 = .ok (.iinc 13 1, 3) := by decide +kernel
theorem d_Mo_origin_233 : decode c_Mo_origin 233 = .ok (.goto (-35), 3) := by decide +kernel
theorem d_Mo_origin_236 : decode c_Mo_origin 236 = .ok (.iinc 11 1, 3) := by decide +kernel
theorem d_Mo_origin_239 : decode c_Mo_origin 239 = .ok (.goto (-94), 3) := by decide +kernel
theorem d_Mo_origin_242 : decode c_Mo_origin 242 = .ok (.aload_n 0, 1) := by decide +kernel
theorem d_Mo_origin_243 : decode c_Mo_origin 243 = .ok (.aload_n 0, 1) := by decide +kernel
theorem d_Mo_origin_244 : decode c_Mo_origin 244 = .ok (.getfield 8, 3) := by decide +kernel
theorem d_Mo_origin_247 : decode c_Mo_origin 247 = .ok (.iconst 0, 1) := by decide +kernel
theorem d_Mo_origin_248 : decode c_Mo_origin 248 = .ok (.iload 6, 2) := by decide +kernel
theorem d_Mo_origin_250 : decode c_Mo_origin 250 = .ok (.invokestatic 239, 3) := by decide +kernel
theorem d_Mo_origin_253 : decode c_Mo_origin 253 = .ok (.aload 10, 2) := by decide +kernel
theorem d_Mo_origin_255 : decode c_Mo_origin 255 = .ok (.iload_n 1, 1) := by decide +kernel
theorem d_Mo_origin_256 : decode c_Mo_origin 256 = .ok (.invokevirtual 53, 3) := by decide +kernel
theorem d_Mo_origin_259 : decode c_Mo_origin 259 = .ok (.aload_n 0, 1) := by decide +kernel
theorem d_Mo_origin_260 : decode c_Mo_origin 260 = .ok (.iconst 0, 1) := by decide +kernel
theorem d_Mo_origin_261 : decode c_Mo_origin 261 = .ok (.putfield 231, 3) := by decide +kernel
theorem d_Mo_origin_264 : decode c_Mo_origin 264 = .ok (.return_, 1) := by decide +kernel
abbrev c_Mo_record : ByteArray := prog_12_method_39_code
abbrev y_Mo_record : MethodName := ⟨"ZoneAnswersModel", "record", "(I)Z"⟩
theorem d_Mo_record_0 : decode c_Mo_record 0 = .ok (.aload_n 0, 1) := by decide +kernel
theorem d_Mo_record_1 : decode c_Mo_record 1 = .ok (.getfield 8, 3) := by decide +kernel
theorem d_Mo_record_4 : decode c_Mo_record 4 = .ok (.iconst 0, 1) := by decide +kernel
theorem d_Mo_record_5 : decode c_Mo_record 5 = .ok (.aload_n 0, 1) := by decide +kernel
theorem d_Mo_record_6 : decode c_Mo_record 6 = .ok (.getfield 231, 3) := by decide +kernel
theorem d_Mo_record_9 : decode c_Mo_record 9 = .ok (.invokestatic 120, 3) := by decide +kernel
theorem d_Mo_record_12 : decode c_Mo_record 12 = .ok (.istore_n 2, 1) := by decide +kernel
theorem d_Mo_record_13 : decode c_Mo_record 13 = .ok (.iload_n 2, 1) := by decide +kernel
theorem d_Mo_record_14 : decode c_Mo_record 14 = .ok (.ifCond .lt 10, 3) := by decide +kernel
theorem d_Mo_record_17 : decode c_Mo_record 17 = .ok (.iload_n 1, 1) := by decide +kernel
theorem d_Mo_record_18 : decode c_Mo_record 18 = .ok (.invokestatic 243, 3) := by decide +kernel
theorem d_Mo_record_21 : decode c_Mo_record 21 = .ok (.ifCond .ne 5, 3) := by decide +kernel
theorem d_Mo_record_24 : decode c_Mo_record 24 = .ok (.iconst 0, 1) := by decide +kernel
theorem d_Mo_record_25 : decode c_Mo_record 25 = .ok (.ireturn, 1) := by decide +kernel
theorem d_Mo_record_26 : decode c_Mo_record 26 = .ok (.aload_n 0, 1) := by decide +kernel
theorem d_Mo_record_27 : decode c_Mo_record 27 = .ok (.aload_n 0, 1) := by decide +kernel
theorem d_Mo_record_28 : decode c_Mo_record 28 = .ok (.getfield 8, 3) := by decide +kernel
theorem d_Mo_record_31 : decode c_Mo_record 31 = .ok (.iconst 0, 1) := by decide +kernel
theorem d_Mo_record_32 : decode c_Mo_record 32 = .ok (.iload_n 2, 1) := by decide +kernel
theorem d_Mo_record_33 : decode c_Mo_record 33 = .ok (.invokestatic 239, 3) := by decide +kernel
theorem d_Mo_record_36 : decode c_Mo_record 36 = .ok (.putfield 247, 3) := by decide +kernel
theorem d_Mo_record_39 : decode c_Mo_record 39 = .ok (.aload_n 0, 1) := by decide +kernel
theorem d_Mo_record_40 : decode c_Mo_record 40 = .ok (.aload_n 0, 1) := by decide +kernel
theorem d_Mo_record_41 : decode c_Mo_record 41 = .ok (.iload_n 1, 1) := by decide +kernel
theorem d_Mo_record_42 : decode c_Mo_record 42 = .ok (.iload_n 2, 1) := by decide +kernel
theorem d_Mo_record_43 : decode c_Mo_record 43 = .ok (.invokevirtual 250, 3) := by decide +kernel
theorem d_Mo_record_46 : decode c_Mo_record 46 = .ok (.putfield 254, 3) := by decide +kernel
theorem d_Mo_record_49 : decode c_Mo_record 49 = .ok (.aload_n 0, 1) := by decide +kernel
theorem d_Mo_record_50 : decode c_Mo_record 50 = .ok (.getfield 254, 3) := by decide +kernel
theorem d_Mo_record_53 : decode c_Mo_record 53 = .ok (.ifnull 21, 3) := by decide +kernel
theorem d_Mo_record_56 : decode c_Mo_record 56 = .ok (.aload_n 0, 1) := by decide +kernel
theorem d_Mo_record_57 : decode c_Mo_record 57 = .ok (.getfield 247, 3) := by decide +kernel
theorem d_Mo_record_60 : decode c_Mo_record 60 = .ok (.aload_n 0, 1) := by decide +kernel
theorem d_Mo_record_61 : decode c_Mo_record 61 = .ok (.getfield 14, 3) := by decide +kernel
theorem d_Mo_record_64 : decode c_Mo_record 64 = .ok (.invokestatic 84, 3) := by decide +kernel
theorem d_Mo_record_67 : decode c_Mo_record 67 = .ok (.ifCond .eq 7, 3) := by decide +kernel
theorem d_Mo_record_70 : decode c_Mo_record 70 = .ok (.iconst 1, 1) := by decide +kernel
theorem d_Mo_record_71 : decode c_Mo_record 71 = .ok (.goto 4, 3) := by decide +kernel
theorem d_Mo_record_74 : decode c_Mo_record 74 = .ok (.iconst 0, 1) := by decide +kernel
theorem d_Mo_record_75 : decode c_Mo_record 75 = .ok (.ireturn, 1) := by decide +kernel
abbrev c_Mo_whole : ByteArray := prog_12_method_45_code
abbrev y_Mo_whole : MethodName := ⟨"ZoneAnswersModel", "whole", "()[B"⟩
theorem d_Mo_whole_0 : decode c_Mo_whole 0 = .ok (.aload_n 0, 1) := by decide +kernel
theorem d_Mo_whole_1 : decode c_Mo_whole 1 = .ok (.getfield 8, 3) := by decide +kernel
theorem d_Mo_whole_4 : decode c_Mo_whole 4 = .ok (.iconst 0, 1) := by decide +kernel
theorem d_Mo_whole_5 : decode c_Mo_whole 5 = .ok (.aload_n 0, 1) := by decide +kernel
theorem d_Mo_whole_6 : decode c_Mo_whole 6 = .ok (.getfield 231, 3) := by decide +kernel
theorem d_Mo_whole_9 : decode c_Mo_whole 9 = .ok (.invokestatic 120, 3) := by decide +kernel
theorem d_Mo_whole_12 : decode c_Mo_whole 12 = .ok (.aload_n 0, 1) := by decide +kernel
theorem d_Mo_whole_13 : decode c_Mo_whole 13 = .ok (.getfield 231, 3) := by decide +kernel
theorem d_Mo_whole_16 : decode c_Mo_whole 16 = .ok (.if_icmp .ne 18, 3) := by decide +kernel
theorem d_Mo_whole_19 : decode c_Mo_whole 19 = .ok (.aload_n 0, 1) := by decide +kernel
theorem d_Mo_whole_20 : decode c_Mo_whole 20 = .ok (.getfield 8, 3) := by decide +kernel
theorem d_Mo_whole_23 : decode c_Mo_whole 23 = .ok (.iconst 0, 1) := by decide +kernel
theorem d_Mo_whole_24 : decode c_Mo_whole 24 = .ok (.aload_n 0, 1) := by decide +kernel
theorem d_Mo_whole_25 : decode c_Mo_whole 25 = .ok (.getfield 231, 3) := by decide +kernel
theorem d_Mo_whole_28 : decode c_Mo_whole 28 = .ok (.invokestatic 239, 3) := by decide +kernel
theorem d_Mo_whole_31 : decode c_Mo_whole 31 = .ok (.goto 4, 3) := by decide +kernel
theorem d_Mo_whole_34 : decode c_Mo_whole 34 = .ok (.aconst_null, 1) := by decide +kernel
theorem d_Mo_whole_35 : decode c_Mo_whole 35 = .ok (.areturn, 1) := by decide +kernel
abbrev c_Mo_put : ByteArray := prog_12_method_42_code
abbrev y_Mo_put : MethodName := ⟨"ZoneAnswersModel", "put", "(II)I"⟩
theorem d_Mo_put_0 : decode c_Mo_put 0 = .ok (.aload_n 0, 1) := by decide +kernel
theorem d_Mo_put_1 : decode c_Mo_put 1 = .ok (.iconst 0, 1) := by decide +kernel
theorem d_Mo_put_2 : decode c_Mo_put 2 = .ok (.putfield 57, 3) := by decide +kernel
theorem d_Mo_put_5 : decode c_Mo_put 5 = .ok (.iload_n 2, 1) := by decide +kernel
theorem d_Mo_put_6 : decode c_Mo_put 6 = .ok (.ifCond .lt 11, 3) := by decide +kernel
theorem d_Mo_put_9 : decode c_Mo_put 9 = .ok (.aload_n 0, 1) := by decide +kernel
theorem d_Mo_put_10 : decode c_Mo_put 10 = .ok (.iload_n 1, 1) := by decide +kernel
theorem d_Mo_put_11 : decode c_Mo_put 11 = .ok (.invokevirtual 257, 3) := by decide +kernel
theorem d_Mo_put_14 : decode c_Mo_put 14 = .ok (.ifCond .ne 9, 3) := by decide +kernel
theorem d_Mo_put_17 : decode c_Mo_put 17 = .ok (.aload_n 0, 1) := by decide +kernel
theorem d_Mo_put_18 : decode c_Mo_put 18 = .ok (.iconst 1, 1) := by decide +kernel
theorem d_Mo_put_19 : decode c_Mo_put 19 = .ok (.invokevirtual 235, 3) := by decide +kernel
theorem d_Mo_put_22 : decode c_Mo_put 22 = .ok (.ireturn, 1) := by decide +kernel
theorem d_Mo_put_23 : decode c_Mo_put 23 = .ok (.aload_n 0, 1) := by decide +kernel
theorem d_Mo_put_24 : decode c_Mo_put 24 = .ok (.aload_n 0, 1) := by decide +kernel
theorem d_Mo_put_25 : decode c_Mo_put 25 = .ok (.getfield 247, 3) := by decide +kernel
theorem d_Mo_put_28 : decode c_Mo_put 28 = .ok (.iload_n 1, 1) := by decide +kernel
theorem d_Mo_put_29 : decode c_Mo_put 29 = .ok (.aload_n 0, 1) := by decide +kernel
theorem d_Mo_put_30 : decode c_Mo_put 30 = .ok (.getfield 254, 3) := by decide +kernel
theorem d_Mo_put_33 : decode c_Mo_put 33 = .ok (.invokevirtual 260, 3) := by decide +kernel
theorem d_Mo_put_36 : decode c_Mo_put 36 = .ok (.ifCond .ge 103, 3) := by decide +kernel
theorem d_Mo_put_39 : decode c_Mo_put 39 = .ok (.aload_n 0, 1) := by decide +kernel
theorem d_Mo_put_40 : decode c_Mo_put 40 = .ok (.getfield 61, 3) := by decide +kernel
theorem d_Mo_put_43 : decode c_Mo_put 43 = .ok (.sipush 2000, 3) := by decide +kernel
theorem d_Mo_put_46 : decode c_Mo_put 46 = .ok (.if_icmp .ne 9, 3) := by decide +kernel
theorem d_Mo_put_49 : decode c_Mo_put 49 = .ok (.aload_n 0, 1) := by decide +kernel
theorem d_Mo_put_50 : decode c_Mo_put 50 = .ok (.iconst 2, 1) := by decide +kernel
theorem d_Mo_put_51 : decode c_Mo_put 51 = .ok (.invokevirtual 235, 3) := by decide +kernel
theorem d_Mo_put_54 : decode c_Mo_put 54 = .ok (.ireturn, 1) := by decide +kernel
theorem d_Mo_put_55 : decode c_Mo_put 55 = .ok (.aload_n 0, 1) := by decide +kernel
theorem d_Mo_put_56 : decode c_Mo_put 56 = .ok (.aload_n 0, 1) := by decide +kernel
theorem d_Mo_put_57 : decode c_Mo_put 57 = .ok (.getfield 247, 3) := by decide +kernel
theorem d_Mo_put_60 : decode c_Mo_put 60 = .ok (.iconst 0, 1) := by decide +kernel
theorem d_Mo_put_61 : decode c_Mo_put 61 = .ok (.iconst 5, 1) := by decide +kernel
theorem d_Mo_put_62 : decode c_Mo_put 62 = .ok (.invokevirtual 90, 3) := by decide +kernel
theorem d_Mo_put_65 : decode c_Mo_put 65 = .ok (.ifCond .ne 19, 3) := by decide +kernel
theorem d_Mo_put_68 : decode c_Mo_put 68 = .ok (.iload_n 1, 1) := by decide +kernel
theorem d_Mo_put_69 : decode c_Mo_put 69 = .ok (.iconst 5, 1) := by decide +kernel
theorem d_Mo_put_70 : decode c_Mo_put 70 = .ok (.if_icmp .ne 20, 3) := by decide +kernel
theorem d_Mo_put_73 : decode c_Mo_put 73 = .ok (.aload_n 0, 1) := by decide +kernel
theorem d_Mo_put_74 : decode c_Mo_put 74 = .ok (.aload_n 0, 1) := by decide +kernel
theorem d_Mo_put_75 : decode c_Mo_put 75 = .ok (.getfield 247, 3) := by decide +kernel
theorem d_Mo_put_78 : decode c_Mo_put 78 = .ok (.invokevirtual 109, 3) := by decide +kernel
theorem d_Mo_put_81 : decode c_Mo_put 81 = .ok (.ifCond .eq 9, 3) := by decide +kernel
theorem d_Mo_put_84 : decode c_Mo_put 84 = .ok (.aload_n 0, 1) := by decide +kernel
theorem d_Mo_put_85 : decode c_Mo_put 85 = .ok (.iconst 3, 1) := by decide +kernel
theorem d_Mo_put_86 : decode c_Mo_put 86 = .ok (.invokevirtual 235, 3) := by decide +kernel
theorem d_Mo_put_89 : decode c_Mo_put 89 = .ok (.ireturn, 1) := by decide +kernel
theorem d_Mo_put_90 : decode c_Mo_put 90 = .ok (.new 17, 3) := by decide +kernel
theorem d_Mo_put_93 : decode c_Mo_put 93 = .ok (.dup, 1) := by decide +kernel
theorem d_Mo_put_94 : decode c_Mo_put 94 = .ok (.invokespecial 64, 3) := by decide +kernel
theorem d_Mo_put_97 : decode c_Mo_put 97 = .ok (.astore_n 3, 1) := by decide +kernel
theorem d_Mo_put_98 : decode c_Mo_put 98 = .ok (.aload_n 3, 1) := by decide +kernel
theorem d_Mo_put_99 : decode c_Mo_put 99 = .ok (.aload_n 0, 1) := by decide +kernel
theorem d_Mo_put_100 : decode c_Mo_put 100 = .ok (.getfield 247, 3) := by decide +kernel
theorem d_Mo_put_103 : decode c_Mo_put 103 = .ok (.putfield 65, 3) := by decide +kernel
theorem d_Mo_put_106 : decode c_Mo_put 106 = .ok (.aload_n 3, 1) := by decide +kernel
theorem d_Mo_put_107 : decode c_Mo_put 107 = .ok (.iload_n 1, 1) := by decide +kernel
theorem d_Mo_put_108 : decode c_Mo_put 108 = .ok (.putfield 67, 3) := by decide +kernel
theorem d_Mo_put_111 : decode c_Mo_put 111 = .ok (.aload_n 3, 1) := by decide +kernel
theorem d_Mo_put_112 : decode c_Mo_put 112 = .ok (.aload_n 0, 1) := by decide +kernel
theorem d_Mo_put_113 : decode c_Mo_put 113 = .ok (.getfield 254, 3) := by decide +kernel
theorem d_Mo_put_116 : decode c_Mo_put 116 = .ok (.putfield 71, 3) := by decide +kernel
theorem d_Mo_put_119 : decode c_Mo_put 119 = .ok (.aload_n 0, 1) := by decide +kernel
theorem d_Mo_put_120 : decode c_Mo_put 120 = .ok (.getfield 19, 3) := by decide +kernel
theorem d_Mo_put_123 : decode c_Mo_put 123 = .ok (.aload_n 0, 1) := by decide +kernel
theorem d_Mo_put_124 : decode c_Mo_put 124 = .ok (.getfield 61, 3) := by decide +kernel
theorem d_Mo_put_127 : decode c_Mo_put 127 = .ok (.aload_n 3, 1) := by decide +kernel
theorem d_Mo_put_128 : decode c_Mo_put 128 = .ok (.aastore, 1) := by decide +kernel
theorem d_Mo_put_129 : decode c_Mo_put 129 = .ok (.aload_n 0, 1) := by decide +kernel
theorem d_Mo_put_130 : decode c_Mo_put 130 = .ok (.dup, 1) := by decide +kernel
theorem d_Mo_put_131 : decode c_Mo_put 131 = .ok (.getfield 61, 3) := by decide +kernel
theorem d_Mo_put_134 : decode c_Mo_put 134 = .ok (.iconst 1, 1) := by decide +kernel
theorem d_Mo_put_135 : decode c_Mo_put 135 = .ok (.iadd, 1) := by decide +kernel
theorem d_Mo_put_136 : decode c_Mo_put 136 = .ok (.putfield 61, 3) := by decide +kernel
theorem d_Mo_put_139 : decode c_Mo_put 139 = .ok (.iconst 0, 1) := by decide +kernel
theorem d_Mo_put_140 : decode c_Mo_put 140 = .ok (.istore_n 3, 1) := by decide +kernel
theorem d_Mo_put_141 : decode c_Mo_put 141 = .ok (.iload_n 3, 1) := by decide +kernel
theorem d_Mo_put_142 : decode c_Mo_put 142 = .ok (.aload_n 0, 1) := by decide +kernel
theorem d_Mo_put_143 : decode c_Mo_put 143 = .ok (.getfield 61, 3) := by decide +kernel
theorem d_Mo_put_146 : decode c_Mo_put 146 = .ok (.if_icmp .ge 51, 3) := by decide +kernel
theorem d_Mo_put_149 : decode c_Mo_put 149 = .ok (.aload_n 0, 1) := by decide +kernel
theorem d_Mo_put_150 : decode c_Mo_put 150 = .ok (.getfield 19, 3) := by decide +kernel
theorem d_Mo_put_153 : decode c_Mo_put 153 = .ok (.iload_n 3, 1) := by decide +kernel
theorem d_Mo_put_154 : decode c_Mo_put 154 = .ok (.aaload, 1) := by decide +kernel
theorem d_Mo_put_155 : decode c_Mo_put 155 = .ok (.getfield 67, 3) := by decide +kernel
theorem d_Mo_put_158 : decode c_Mo_put 158 = .ok (.iload_n 1, 1) := by decide +kernel
theorem d_Mo_put_159 : decode c_Mo_put 159 = .ok (.if_icmp .ne 32, 3) := by decide +kernel
theorem d_Mo_put_162 : decode c_Mo_put 162 = .ok (.aload_n 0, 1) := by decide +kernel
theorem d_Mo_put_163 : decode c_Mo_put 163 = .ok (.getfield 19, 3) := by decide +kernel
theorem d_Mo_put_166 : decode c_Mo_put 166 = .ok (.iload_n 3, 1) := by decide +kernel
theorem d_Mo_put_167 : decode c_Mo_put 167 = .ok (.aaload, 1) := by decide +kernel
theorem d_Mo_put_168 : decode c_Mo_put 168 = .ok (.getfield 65, 3) := by decide +kernel
theorem d_Mo_put_171 : decode c_Mo_put 171 = .ok (.aload_n 0, 1) := by decide +kernel
theorem d_Mo_put_172 : decode c_Mo_put 172 = .ok (.getfield 247, 3) := by decide +kernel
theorem d_Mo_put_175 : decode c_Mo_put 175 = .ok (.invokestatic 80, 3) := by decide +kernel
theorem d_Mo_put_178 : decode c_Mo_put 178 = .ok (.ifCond .eq 13, 3) := by decide +kernel
theorem d_Mo_put_181 : decode c_Mo_put 181 = .ok (.aload_n 0, 1) := by decide +kernel
theorem d_Mo_put_182 : decode c_Mo_put 182 = .ok (.getfield 19, 3) := by decide +kernel
theorem d_Mo_put_185 : decode c_Mo_put 185 = .ok (.iload_n 3, 1) := by decide +kernel
theorem d_Mo_put_186 : decode c_Mo_put 186 = .ok (.aaload, 1) := by decide +kernel
theorem d_Mo_put_187 : decode c_Mo_put 187 = .ok (.iload_n 2, 1) := by decide +kernel
theorem d_Mo_put_188 : decode c_Mo_put 188 = .ok (.putfield 69, 3) := by decide +kernel
theorem d_Mo_put_191 : decode c_Mo_put 191 = .ok (.iinc 3 1, 3) := by decide +kernel
theorem d_Mo_put_194 : decode c_Mo_put 194 = .ok (.goto (-53), 3) := by decide +kernel
theorem d_Mo_put_197 : decode c_Mo_put 197 = .ok (.aload_n 0, 1) := by decide +kernel
theorem d_Mo_put_198 : decode c_Mo_put 198 = .ok (.iconst 0, 1) := by decide +kernel
theorem d_Mo_put_199 : decode c_Mo_put 199 = .ok (.putfield 231, 3) := by decide +kernel
theorem d_Mo_put_202 : decode c_Mo_put 202 = .ok (.aload_n 0, 1) := by decide +kernel
theorem d_Mo_put_203 : decode c_Mo_put 203 = .ok (.aload_n 0, 1) := by decide +kernel
theorem d_Mo_put_204 : decode c_Mo_put 204 = .ok (.getfield 247, 3) := by decide +kernel
theorem d_Mo_put_207 : decode c_Mo_put 207 = .ok (.iload_n 1, 1) := by decide +kernel
theorem d_Mo_put_208 : decode c_Mo_put 208 = .ok (.invokevirtual 264, 3) := by decide +kernel
theorem d_Mo_put_211 : decode c_Mo_put 211 = .ok (.ireturn, 1) := by decide +kernel
abbrev c_Mo_take : ByteArray := prog_12_method_44_code
abbrev y_Mo_take : MethodName := ⟨"ZoneAnswersModel", "take", "(I)I"⟩
theorem d_Mo_take_0 : decode c_Mo_take 0 = .ok (.aload_n 0, 1) := by decide +kernel
theorem d_Mo_take_1 : decode c_Mo_take 1 = .ok (.iconst 0, 1) := by decide +kernel
theorem d_Mo_take_2 : decode c_Mo_take 2 = .ok (.putfield 57, 3) := by decide +kernel
theorem d_Mo_take_5 : decode c_Mo_take 5 = .ok (.aload_n 0, 1) := by decide +kernel
theorem d_Mo_take_6 : decode c_Mo_take 6 = .ok (.iload_n 1, 1) := by decide +kernel
theorem d_Mo_take_7 : decode c_Mo_take 7 = .ok (.invokevirtual 257, 3) := by decide +kernel
theorem d_Mo_take_10 : decode c_Mo_take 10 = .ok (.ifCond .ne 9, 3) := by decide +kernel
theorem d_Mo_take_13 : decode c_Mo_take 13 = .ok (.aload_n 0, 1) := by decide +kernel
theorem d_Mo_take_14 : decode c_Mo_take 14 = .ok (.iconst 1, 1) := by decide +kernel
theorem d_Mo_take_15 : decode c_Mo_take 15 = .ok (.invokevirtual 235, 3) := by decide +kernel
theorem d_Mo_take_18 : decode c_Mo_take 18 = .ok (.ireturn, 1) := by decide +kernel
theorem d_Mo_take_19 : decode c_Mo_take 19 = .ok (.aload_n 0, 1) := by decide +kernel
theorem d_Mo_take_20 : decode c_Mo_take 20 = .ok (.aload_n 0, 1) := by decide +kernel
theorem d_Mo_take_21 : decode c_Mo_take 21 = .ok (.getfield 247, 3) := by decide +kernel
theorem d_Mo_take_24 : decode c_Mo_take 24 = .ok (.iload_n 1, 1) := by decide +kernel
theorem d_Mo_take_25 : decode c_Mo_take 25 = .ok (.aload_n 0, 1) := by decide +kernel
theorem d_Mo_take_26 : decode c_Mo_take 26 = .ok (.getfield 254, 3) := by decide +kernel
theorem d_Mo_take_29 : decode c_Mo_take 29 = .ok (.invokevirtual 260, 3) := by decide +kernel
theorem d_Mo_take_32 : decode c_Mo_take 32 = .ok (.istore_n 2, 1) := by decide +kernel
theorem d_Mo_take_33 : decode c_Mo_take 33 = .ok (.iload_n 2, 1) := by decide +kernel
theorem d_Mo_take_34 : decode c_Mo_take 34 = .ok (.ifCond .ge 9, 3) := by decide +kernel
theorem d_Mo_take_37 : decode c_Mo_take 37 = .ok (.aload_n 0, 1) := by decide +kernel
theorem d_Mo_take_38 : decode c_Mo_take 38 = .ok (.iconst 2, 1) := by decide +kernel
theorem d_Mo_take_39 : decode c_Mo_take 39 = .ok (.invokevirtual 235, 3) := by decide +kernel
theorem d_Mo_take_42 : decode c_Mo_take 42 = .ok (.ireturn, 1) := by decide +kernel
theorem d_Mo_take_43 : decode c_Mo_take 43 = .ok (.aload_n 0, 1) := by decide +kernel
theorem d_Mo_take_44 : decode c_Mo_take 44 = .ok (.iload_n 2, 1) := by decide +kernel
theorem d_Mo_take_45 : decode c_Mo_take 45 = .ok (.invokevirtual 267, 3) := by decide +kernel
theorem d_Mo_take_48 : decode c_Mo_take 48 = .ok (.aload_n 0, 1) := by decide +kernel
theorem d_Mo_take_49 : decode c_Mo_take 49 = .ok (.iconst 0, 1) := by decide +kernel
theorem d_Mo_take_50 : decode c_Mo_take 50 = .ok (.putfield 231, 3) := by decide +kernel
theorem d_Mo_take_53 : decode c_Mo_take 53 = .ok (.aload_n 0, 1) := by decide +kernel
theorem d_Mo_take_54 : decode c_Mo_take 54 = .ok (.aload_n 0, 1) := by decide +kernel
theorem d_Mo_take_55 : decode c_Mo_take 55 = .ok (.getfield 247, 3) := by decide +kernel
theorem d_Mo_take_58 : decode c_Mo_take 58 = .ok (.iload_n 1, 1) := by decide +kernel
theorem d_Mo_take_59 : decode c_Mo_take 59 = .ok (.invokevirtual 264, 3) := by decide +kernel
theorem d_Mo_take_62 : decode c_Mo_take 62 = .ok (.ireturn, 1) := by decide +kernel
abbrev c_Mo_takeAll : ByteArray := prog_12_method_46_code
abbrev y_Mo_takeAll : MethodName := ⟨"ZoneAnswersModel", "takeAll", "(I)I"⟩
theorem d_Mo_takeAll_0 : decode c_Mo_takeAll 0 = .ok (.aload_n 0, 1) := by decide +kernel
theorem d_Mo_takeAll_1 : decode c_Mo_takeAll 1 = .ok (.iconst 0, 1) := by decide +kernel
theorem d_Mo_takeAll_2 : decode c_Mo_takeAll 2 = .ok (.putfield 57, 3) := by decide +kernel
theorem d_Mo_takeAll_5 : decode c_Mo_takeAll 5 = .ok (.aload_n 0, 1) := by decide +kernel
theorem d_Mo_takeAll_6 : decode c_Mo_takeAll 6 = .ok (.invokevirtual 270, 3) := by decide +kernel
theorem d_Mo_takeAll_9 : decode c_Mo_takeAll 9 = .ok (.astore_n 2, 1) := by decide +kernel
theorem d_Mo_takeAll_10 : decode c_Mo_takeAll 10 = .ok (.aload_n 2, 1) := by decide +kernel
theorem d_Mo_takeAll_11 : decode c_Mo_takeAll 11 = .ok (.ifnull 28, 3) := by decide +kernel
theorem d_Mo_takeAll_14 : decode c_Mo_takeAll 14 = .ok (.aload_n 2, 1) := by decide +kernel
theorem d_Mo_takeAll_15 : decode c_Mo_takeAll 15 = .ok (.aload_n 0, 1) := by decide +kernel
theorem d_Mo_takeAll_16 : decode c_Mo_takeAll 16 = .ok (.getfield 14, 3) := by decide +kernel
theorem d_Mo_takeAll_19 : decode c_Mo_takeAll 19 = .ok (.invokestatic 84, 3) := by decide +kernel
theorem d_Mo_takeAll_22 : decode c_Mo_takeAll 22 = .ok (.ifCond .eq 17, 3) := by decide +kernel
theorem d_Mo_takeAll_25 : decode c_Mo_takeAll 25 = .ok (.iload_n 1, 1) := by decide +kernel
theorem d_Mo_takeAll_26 : decode c_Mo_takeAll 26 = .ok (.sipush 255, 3) := by decide +kernel
theorem d_Mo_takeAll_29 : decode c_Mo_takeAll 29 = .ok (.if_icmp .eq 16, 3) := by decide +kernel
theorem d_Mo_takeAll_32 : decode c_Mo_takeAll 32 = .ok (.iload_n 1, 1) := by decide +kernel
theorem d_Mo_takeAll_33 : decode c_Mo_takeAll 33 = .ok (.invokestatic 243, 3) := by decide +kernel
theorem d_Mo_takeAll_36 : decode c_Mo_takeAll 36 = .ok (.ifCond .ne 9, 3) := by decide +kernel
theorem d_Mo_takeAll_39 : decode c_Mo_takeAll 39 = .ok (.aload_n 0, 1) := by decide +kernel
theorem d_Mo_takeAll_40 : decode c_Mo_takeAll 40 = .ok (.iconst 1, 1) := by decide +kernel
theorem d_Mo_takeAll_41 : decode c_Mo_takeAll 41 = .ok (.invokevirtual 235, 3) := by decide +kernel
theorem d_Mo_takeAll_44 : decode c_Mo_takeAll 44 = .ok (.ireturn, 1) := by decide +kernel
theorem d_Mo_takeAll_45 : decode c_Mo_takeAll 45 = .ok (.iconst 0, 1) := by decide +kernel
theorem d_Mo_takeAll_46 : decode c_Mo_takeAll 46 = .ok (.istore_n 3, 1) := by decide +kernel
theorem d_Mo_takeAll_47 : decode c_Mo_takeAll 47 = .ok (.aload_n 0, 1) := by decide +kernel
theorem d_Mo_takeAll_48 : decode c_Mo_takeAll 48 = .ok (.getfield 61, 3) := by decide +kernel
theorem d_Mo_takeAll_51 : decode c_Mo_takeAll 51 = .ok (.iconst 1, 1) := by decide +kernel
theorem d_Mo_takeAll_52 : decode c_Mo_takeAll 52 = .ok (.isub, 1) := by decide +kernel
theorem d_Mo_takeAll_53 : decode c_Mo_takeAll 53 = .ok (.istore 4, 2) := by decide +kernel
theorem d_Mo_takeAll_55 : decode c_Mo_takeAll 55 = .ok (.iload 4, 2) := by decide +kernel
theorem d_Mo_takeAll_57 : decode c_Mo_takeAll 57 = .ok (.ifCond .le 74, 3) := by decide +kernel
theorem d_Mo_takeAll_60 : decode c_Mo_takeAll 60 = .ok (.iload_n 1, 1) := by decide +kernel
theorem d_Mo_takeAll_61 : decode c_Mo_takeAll 61 = .ok (.sipush 255, 3) := by decide +kernel
theorem d_Mo_takeAll_64 : decode c_Mo_takeAll 64 = .ok (.if_icmp .ne 18, 3) := by decide +kernel
theorem d_Mo_takeAll_67 : decode c_Mo_takeAll 67 = .ok (.aload_n 0, 1) := by decide +kernel
theorem d_Mo_takeAll_68 : decode c_Mo_takeAll 68 = .ok (.getfield 19, 3) := by decide +kernel
theorem d_Mo_takeAll_71 : decode c_Mo_takeAll 71 = .ok (.iload 4, 2) := by decide +kernel
theorem d_Mo_takeAll_73 : decode c_Mo_takeAll 73 = .ok (.aaload, 1) := by decide +kernel
theorem d_Mo_takeAll_74 : decode c_Mo_takeAll 74 = .ok (.getfield 67, 3) := by decide +kernel
theorem d_Mo_takeAll_77 : decode c_Mo_takeAll 77 = .ok (.bipush 6, 2) := by decide +kernel
theorem d_Mo_takeAll_79 : decode c_Mo_takeAll 79 = .ok (.if_icmp .ne 17, 3) := by decide +kernel
theorem d_Mo_takeAll_82 : decode c_Mo_takeAll 82 = .ok (.aload_n 0, 1) := by decide +kernel
theorem d_Mo_takeAll_83 : decode c_Mo_takeAll 83 = .ok (.getfield 19, 3) := by decide +kernel
theorem d_Mo_takeAll_86 : decode c_Mo_takeAll 86 = .ok (.iload 4, 2) := by decide +kernel
theorem d_Mo_takeAll_88 : decode c_Mo_takeAll 88 = .ok (.aaload, 1) := by decide +kernel
theorem d_Mo_takeAll_89 : decode c_Mo_takeAll 89 = .ok (.getfield 67, 3) := by decide +kernel
theorem d_Mo_takeAll_92 : decode c_Mo_takeAll 92 = .ok (.iload_n 1, 1) := by decide +kernel
theorem d_Mo_takeAll_93 : decode c_Mo_takeAll 93 = .ok (.if_icmp .ne 32, 3) := by decide +kernel
theorem d_Mo_takeAll_96 : decode c_Mo_takeAll 96 = .ok (.aload_n 0, 1) := by decide +kernel
theorem d_Mo_takeAll_97 : decode c_Mo_takeAll 97 = .ok (.getfield 19, 3) := by decide +kernel
theorem d_Mo_takeAll_100 : decode c_Mo_takeAll 100 = .ok (.iload 4, 2) := by decide +kernel
theorem d_Mo_takeAll_102 : decode c_Mo_takeAll 102 = .ok (.aaload, 1) := by decide +kernel
theorem d_Mo_takeAll_103 : decode c_Mo_takeAll 103 = .ok (.getfield 65, 3) := by decide +kernel
theorem d_Mo_takeAll_106 : decode c_Mo_takeAll 106 = .ok (.aload_n 2, 1) := by decide +kernel
theorem d_Mo_takeAll_107 : decode c_Mo_takeAll 107 = .ok (.invokestatic 80, 3) := by decide +kernel
theorem d_Mo_takeAll_110 : decode c_Mo_takeAll 110 = .ok (.ifCond .ne 6, 3) := by decide +kernel
theorem d_Mo_takeAll_113 : decode c_Mo_takeAll 113 = .ok (.goto 12, 3) := by decide +kernel
theorem d_Mo_takeAll_116 : decode c_Mo_takeAll 116 = .ok (.aload_n 0, 1) := by decide +kernel
theorem d_Mo_takeAll_117 : decode c_Mo_takeAll 117 = .ok (.iload 4, 2) := by decide +kernel
theorem d_Mo_takeAll_119 : decode c_Mo_takeAll 119 = .ok (.invokevirtual 267, 3) := by decide +kernel
theorem d_Mo_takeAll_122 : decode c_Mo_takeAll 122 = .ok (.iinc 3 1, 3) := by decide +kernel
theorem d_Mo_takeAll_125 : decode c_Mo_takeAll 125 = .ok (.iinc 4 (-1), 3) := by decide +kernel
theorem d_Mo_takeAll_128 : decode c_Mo_takeAll 128 = .ok (.goto (-73), 3) := by decide +kernel
theorem d_Mo_takeAll_131 : decode c_Mo_takeAll 131 = .ok (.aload_n 0, 1) := by decide +kernel
theorem d_Mo_takeAll_132 : decode c_Mo_takeAll 132 = .ok (.iconst 0, 1) := by decide +kernel
theorem d_Mo_takeAll_133 : decode c_Mo_takeAll 133 = .ok (.putfield 231, 3) := by decide +kernel
theorem d_Mo_takeAll_136 : decode c_Mo_takeAll 136 = .ok (.iload_n 3, 1) := by decide +kernel
theorem d_Mo_takeAll_137 : decode c_Mo_takeAll 137 = .ok (.ireturn, 1) := by decide +kernel
abbrev c_Mo_ask : ByteArray := prog_12_method_48_code
abbrev y_Mo_ask : MethodName := ⟨"ZoneAnswersModel", "ask", "(IZ)I"⟩
theorem d_Mo_ask_0 : decode c_Mo_ask 0 = .ok (.aload_n 0, 1) := by decide +kernel
theorem d_Mo_ask_1 : decode c_Mo_ask 1 = .ok (.iconst 0, 1) := by decide +kernel
theorem d_Mo_ask_2 : decode c_Mo_ask 2 = .ok (.putfield 57, 3) := by decide +kernel
theorem d_Mo_ask_5 : decode c_Mo_ask 5 = .ok (.aload_n 0, 1) := by decide +kernel
theorem d_Mo_ask_6 : decode c_Mo_ask 6 = .ok (.invokevirtual 270, 3) := by decide +kernel
theorem d_Mo_ask_9 : decode c_Mo_ask 9 = .ok (.astore_n 3, 1) := by decide +kernel
theorem d_Mo_ask_10 : decode c_Mo_ask 10 = .ok (.aload_n 3, 1) := by decide +kernel
theorem d_Mo_ask_11 : decode c_Mo_ask 11 = .ok (.ifnull 14, 3) := by decide +kernel
theorem d_Mo_ask_14 : decode c_Mo_ask 14 = .ok (.iload_n 1, 1) := by decide +kernel
theorem d_Mo_ask_15 : decode c_Mo_ask 15 = .ok (.iconst 1, 1) := by decide +kernel
theorem d_Mo_ask_16 : decode c_Mo_ask 16 = .ok (.if_icmp .lt 9, 3) := by decide +kernel
theorem d_Mo_ask_19 : decode c_Mo_ask 19 = .ok (.iload_n 1, 1) := by decide +kernel
theorem d_Mo_ask_20 : decode c_Mo_ask 20 = .ok (.ldc 242, 2) := by decide +kernel
theorem d_Mo_ask_22 : decode c_Mo_ask 22 = .ok (.if_icmp .le 9, 3) := by decide +kernel
theorem d_Mo_ask_25 : decode c_Mo_ask 25 = .ok (.aload_n 0, 1) := by decide +kernel
theorem d_Mo_ask_26 : decode c_Mo_ask 26 = .ok (.iconst 1, 1) := by decide +kernel
theorem d_Mo_ask_27 : decode c_Mo_ask 27 = .ok (.invokevirtual 235, 3) := by decide +kernel
theorem d_Mo_ask_30 : decode c_Mo_ask 30 = .ok (.ireturn, 1) := by decide +kernel
theorem d_Mo_ask_31 : decode c_Mo_ask 31 = .ok (.aload_n 0, 1) := by decide +kernel
theorem d_Mo_ask_32 : decode c_Mo_ask 32 = .ok (.iconst 0, 1) := by decide +kernel
theorem d_Mo_ask_33 : decode c_Mo_ask 33 = .ok (.putfield 231, 3) := by decide +kernel
theorem d_Mo_ask_36 : decode c_Mo_ask 36 = .ok (.aload_n 0, 1) := by decide +kernel
theorem d_Mo_ask_37 : decode c_Mo_ask 37 = .ok (.iconst 0, 1) := by decide +kernel
theorem d_Mo_ask_38 : decode c_Mo_ask 38 = .ok (.putfield 140, 3) := by decide +kernel
theorem d_Mo_ask_41 : decode c_Mo_ask 41 = .ok (.aload_n 0, 1) := by decide +kernel
theorem d_Mo_ask_42 : decode c_Mo_ask 42 = .ok (.iconst 0, 1) := by decide +kernel
theorem d_Mo_ask_43 : decode c_Mo_ask 43 = .ok (.putfield 157, 3) := by decide +kernel
theorem d_Mo_ask_46 : decode c_Mo_ask 46 = .ok (.aload_n 0, 1) := by decide +kernel
theorem d_Mo_ask_47 : decode c_Mo_ask 47 = .ok (.iconst 0, 1) := by decide +kernel
theorem d_Mo_ask_48 : decode c_Mo_ask 48 = .ok (.putfield 202, 3) := by decide +kernel
theorem d_Mo_ask_51 : decode c_Mo_ask 51 = .ok (.aload_n 0, 1) := by decide +kernel
theorem d_Mo_ask_52 : decode c_Mo_ask 52 = .ok (.iload_n 2, 1) := by decide +kernel
theorem d_Mo_ask_53 : decode c_Mo_ask 53 = .ok (.putfield 208, 3) := by decide +kernel
theorem d_Mo_ask_56 : decode c_Mo_ask 56 = .ok (.aload_n 3, 1) := by decide +kernel
theorem d_Mo_ask_57 : decode c_Mo_ask 57 = .ok (.aload_n 0, 1) := by decide +kernel
theorem d_Mo_ask_58 : decode c_Mo_ask 58 = .ok (.getfield 14, 3) := by decide +kernel
theorem d_Mo_ask_61 : decode c_Mo_ask 61 = .ok (.invokestatic 84, 3) := by decide +kernel
theorem d_Mo_ask_64 : decode c_Mo_ask 64 = .ok (.ifCond .ne 13, 3) := by decide +kernel
theorem d_Mo_ask_67 : decode c_Mo_ask 67 = .ok (.aload_n 0, 1) := by decide +kernel
theorem d_Mo_ask_68 : decode c_Mo_ask 68 = .ok (.iconst 5, 1) := by decide +kernel
theorem d_Mo_ask_69 : decode c_Mo_ask 69 = .ok (.putfield 202, 3) := by decide +kernel
theorem d_Mo_ask_72 : decode c_Mo_ask 72 = .ok (.aload_n 0, 1) := by decide +kernel
theorem d_Mo_ask_73 : decode c_Mo_ask 73 = .ok (.getfield 202, 3) := by decide +kernel
theorem d_Mo_ask_76 : decode c_Mo_ask 76 = .ok (.ireturn, 1) := by decide +kernel
theorem d_Mo_ask_77 : decode c_Mo_ask 77 = .ok (.aload_n 0, 1) := by decide +kernel
theorem d_Mo_ask_78 : decode c_Mo_ask 78 = .ok (.aload_n 3, 1) := by decide +kernel
theorem d_Mo_ask_79 : decode c_Mo_ask 79 = .ok (.iload_n 1, 1) := by decide +kernel
theorem d_Mo_ask_80 : decode c_Mo_ask 80 = .ok (.invokevirtual 274, 3) := by decide +kernel
theorem d_Mo_ask_83 : decode c_Mo_ask 83 = .ok (.aload_n 0, 1) := by decide +kernel
theorem d_Mo_ask_84 : decode c_Mo_ask 84 = .ok (.getfield 140, 3) := by decide +kernel
theorem d_Mo_ask_87 : decode c_Mo_ask 87 = .ok (.istore 4, 2) := by decide +kernel
theorem d_Mo_ask_89 : decode c_Mo_ask 89 = .ok (.iconst 0, 1) := by decide +kernel
theorem d_Mo_ask_90 : decode c_Mo_ask 90 = .ok (.istore 5, 2) := by decide +kernel
theorem d_Mo_ask_92 : decode c_Mo_ask 92 = .ok (.iload 5, 2) := by decide +kernel
theorem d_Mo_ask_94 : decode c_Mo_ask 94 = .ok (.iload 4, 2) := by decide +kernel
theorem d_Mo_ask_96 : decode c_Mo_ask 96 = .ok (.if_icmp .ge 131, 3) := by decide +kernel
theorem d_Mo_ask_99 : decode c_Mo_ask 99 = .ok (.aload_n 0, 1) := by decide +kernel
theorem d_Mo_ask_100 : decode c_Mo_ask 100 = .ok (.getfield 23, 3) := by decide +kernel
theorem d_Mo_ask_103 : decode c_Mo_ask 103 = .ok (.iload 5, 2) := by decide +kernel
theorem d_Mo_ask_105 : decode c_Mo_ask 105 = .ok (.iaload, 1) := by decide +kernel
theorem d_Mo_ask_106 : decode c_Mo_ask 106 = .ok (.iconst 1, 1) := by decide +kernel
theorem d_Mo_ask_107 : decode c_Mo_ask 107 = .ok (.if_icmp .ne 114, 3) := by decide +kernel
theorem d_Mo_ask_110 : decode c_Mo_ask 110 = .ok (.aload_n 0, 1) := by decide +kernel
theorem d_Mo_ask_111 : decode c_Mo_ask 111 = .ok (.getfield 27, 3) := by decide +kernel
theorem d_Mo_ask_114 : decode c_Mo_ask 114 = .ok (.iload 5, 2) := by decide +kernel
theorem d_Mo_ask_116 : decode c_Mo_ask 116 = .ok (.iaload, 1) := by decide +kernel
theorem d_Mo_ask_117 : decode c_Mo_ask 117 = .ok (.iconst 2, 1) := by decide +kernel
theorem d_Mo_ask_118 : decode c_Mo_ask 118 = .ok (.if_icmp .eq 30, 3) := by decide +kernel
theorem d_Mo_ask_121 : decode c_Mo_ask 121 = .ok (.aload_n 0, 1) := by decide +kernel
theorem d_Mo_ask_122 : decode c_Mo_ask 122 = .ok (.getfield 27, 3) := by decide +kernel
theorem d_Mo_ask_125 : decode c_Mo_ask 125 = .ok (.iload 5, 2) := by decide +kernel
theorem d_Mo_ask_127 : decode c_Mo_ask 127 = .ok (.iaload, 1) := by decide +kernel
theorem d_Mo_ask_128 : decode c_Mo_ask 128 = .ok (.bipush 15, 2) := by decide +kernel
theorem d_Mo_ask_130 : decode c_Mo_ask 130 = .ok (.if_icmp .eq 18, 3) := by decide +kernel
theorem d_Mo_ask_133 : decode c_Mo_ask 133 = .ok (.aload_n 0, 1) := by decide +kernel
theorem d_Mo_ask_134 : decode c_Mo_ask 134 = .ok (.getfield 27, 3) := by decide +kernel
theorem d_Mo_ask_137 : decode c_Mo_ask 137 = .ok (.iload 5, 2) := by decide +kernel
theorem d_Mo_ask_139 : decode c_Mo_ask 139 = .ok (.iaload, 1) := by decide +kernel
theorem d_Mo_ask_140 : decode c_Mo_ask 140 = .ok (.bipush 33, 2) := by decide +kernel
theorem d_Mo_ask_142 : decode c_Mo_ask 142 = .ok (.if_icmp .eq 6, 3) := by decide +kernel
theorem d_Mo_ask_145 : decode c_Mo_ask 145 = .ok (.goto 76, 3) := by decide +kernel
theorem d_Mo_ask_148 : decode c_Mo_ask 148 = .ok (.aload_n 0, 1) := by decide +kernel
theorem d_Mo_ask_149 : decode c_Mo_ask 149 = .ok (.aload_n 0, 1) := by decide +kernel
theorem d_Mo_ask_150 : decode c_Mo_ask 150 = .ok (.getfield 44, 3) := by decide +kernel
theorem d_Mo_ask_153 : decode c_Mo_ask 153 = .ok (.iload 5, 2) := by decide +kernel
theorem d_Mo_ask_155 : decode c_Mo_ask 155 = .ok (.aaload, 1) := by decide +kernel
theorem d_Mo_ask_156 : decode c_Mo_ask 156 = .ok (.aload_n 0, 1) := by decide +kernel
theorem d_Mo_ask_157 : decode c_Mo_ask 157 = .ok (.getfield 27, 3) := by decide +kernel
theorem d_Mo_ask_160 : decode c_Mo_ask 160 = .ok (.iload 5, 2) := by decide +kernel
theorem d_Mo_ask_162 : decode c_Mo_ask 162 = .ok (.iaload, 1) := by decide +kernel
theorem d_Mo_ask_163 : decode c_Mo_ask 163 = .ok (.iconst 2, 1) := by decide +kernel
theorem d_Mo_ask_164 : decode c_Mo_ask 164 = .ok (.if_icmp .ne 7, 3) := by decide +kernel
theorem d_Mo_ask_167 : decode c_Mo_ask 167 = .ok (.iconst 0, 1) := by decide +kernel
theorem d_Mo_ask_168 : decode c_Mo_ask 168 = .ok (.goto 21, 3) := by decide +kernel
theorem d_Mo_ask_171 : decode c_Mo_ask 171 = .ok (.aload_n 0, 1) := by decide +kernel
theorem d_Mo_ask_172 : decode c_Mo_ask 172 = .ok (.getfield 27, 3) := by decide +kernel
theorem d_Mo_ask_175 : decode c_Mo_ask 175 = .ok (.iload 5, 2) := by decide +kernel
theorem d_Mo_ask_177 : decode c_Mo_ask 177 = .ok (.iaload, 1) := by decide +kernel
theorem d_Mo_ask_178 : decode c_Mo_ask 178 = .ok (.bipush 15, 2) := by decide +kernel
theorem d_Mo_ask_180 : decode c_Mo_ask 180 = .ok (.if_icmp .ne 7, 3) := by decide +kernel
theorem d_Mo_ask_183 : decode c_Mo_ask 183 = .ok (.iconst 2, 1) := by decide +kernel
theorem d_Mo_ask_184 : decode c_Mo_ask 184 = .ok (.goto 5, 3) := by decide +kernel
theorem d_Mo_ask_187 : decode c_Mo_ask 187 = .ok (.bipush 6, 2) := by decide +kernel
theorem d_Mo_ask_189 : decode c_Mo_ask 189 = .ok (.invokevirtual 278, 3) := by decide +kernel
theorem d_Mo_ask_192 : decode c_Mo_ask 192 = .ok (.astore 6, 2) := by decide +kernel
theorem d_Mo_ask_194 : decode c_Mo_ask 194 = .ok (.aload 6, 2) := by decide +kernel
theorem d_Mo_ask_196 : decode c_Mo_ask 196 = .ok (.aload_n 0, 1) := by decide +kernel
theorem d_Mo_ask_197 : decode c_Mo_ask 197 = .ok (.getfield 14, 3) := by decide +kernel
theorem d_Mo_ask_200 : decode c_Mo_ask 200 = .ok (.invokestatic 84, 3) := by decide +kernel
theorem d_Mo_ask_203 : decode c_Mo_ask 203 = .ok (.ifCond .eq 18, 3) := by decide +kernel
theorem d_Mo_ask_206 : decode c_Mo_ask 206 = .ok (.aload_n 0, 1) := by decide +kernel
theorem d_Mo_ask_207 : decode c_Mo_ask 207 = .ok (.aload 6, 2) := by decide +kernel
theorem d_Mo_ask_209 : decode c_Mo_ask 209 = .ok (.invokevirtual 106, 3) := by decide +kernel
theorem d_Mo_ask_212 : decode c_Mo_ask 212 = .ok (.ifCond .ge 9, 3) := by decide +kernel
theorem d_Mo_ask_215 : decode c_Mo_ask 215 = .ok (.aload_n 0, 1) := by decide +kernel
theorem d_Mo_ask_216 : decode c_Mo_ask 216 = .ok (.aload 6, 2) := by decide +kernel
theorem d_Mo_ask_218 : decode c_Mo_ask 218 = .ok (.invokevirtual 225, 3) := by decide +kernel
theorem d_Mo_ask_221 : decode c_Mo_ask 221 = .ok (.iinc 5 1, 3) := by decide +kernel
theorem d_Mo_ask_224 : decode c_Mo_ask 224 = .ok (.goto (-132), 3) := by decide +kernel
theorem d_Mo_ask_227 : decode c_Mo_ask 227 = .ok (.aload_n 0, 1) := by decide +kernel
theorem d_Mo_ask_228 : decode c_Mo_ask 228 = .ok (.getfield 202, 3) := by decide +kernel
theorem d_Mo_ask_231 : decode c_Mo_ask 231 = .ok (.ireturn, 1) := by decide +kernel
abbrev c_Mo_state : ByteArray := prog_12_method_54_code
abbrev y_Mo_state : MethodName := ⟨"ZoneAnswersModel", "state", "()I"⟩
theorem d_Mo_state_0 : decode c_Mo_state 0 = .ok (.aload_n 0, 1) := by decide +kernel
theorem d_Mo_state_1 : decode c_Mo_state 1 = .ok (.iconst 0, 1) := by decide +kernel
theorem d_Mo_state_2 : decode c_Mo_state 2 = .ok (.putfield 57, 3) := by decide +kernel
theorem d_Mo_state_5 : decode c_Mo_state 5 = .ok (.aload_n 0, 1) := by decide +kernel
theorem d_Mo_state_6 : decode c_Mo_state 6 = .ok (.invokevirtual 270, 3) := by decide +kernel
theorem d_Mo_state_9 : decode c_Mo_state 9 = .ok (.astore_n 1, 1) := by decide +kernel
theorem d_Mo_state_10 : decode c_Mo_state 10 = .ok (.aload_n 1, 1) := by decide +kernel
theorem d_Mo_state_11 : decode c_Mo_state 11 = .ok (.ifnonnull 9, 3) := by decide +kernel
theorem d_Mo_state_14 : decode c_Mo_state 14 = .ok (.aload_n 0, 1) := by decide +kernel
theorem d_Mo_state_15 : decode c_Mo_state 15 = .ok (.iconst 1, 1) := by decide +kernel
theorem d_Mo_state_16 : decode c_Mo_state 16 = .ok (.invokevirtual 235, 3) := by decide +kernel
theorem d_Mo_state_19 : decode c_Mo_state 19 = .ok (.ireturn, 1) := by decide +kernel
theorem d_Mo_state_20 : decode c_Mo_state 20 = .ok (.aload_n 0, 1) := by decide +kernel
theorem d_Mo_state_21 : decode c_Mo_state 21 = .ok (.iconst 0, 1) := by decide +kernel
theorem d_Mo_state_22 : decode c_Mo_state 22 = .ok (.putfield 231, 3) := by decide +kernel
theorem d_Mo_state_25 : decode c_Mo_state 25 = .ok (.aload_n 1, 1) := by decide +kernel
theorem d_Mo_state_26 : decode c_Mo_state 26 = .ok (.aload_n 0, 1) := by decide +kernel
theorem d_Mo_state_27 : decode c_Mo_state 27 = .ok (.getfield 14, 3) := by decide +kernel
theorem d_Mo_state_30 : decode c_Mo_state 30 = .ok (.invokestatic 84, 3) := by decide +kernel
theorem d_Mo_state_33 : decode c_Mo_state 33 = .ok (.ifCond .ne 5, 3) := by decide +kernel
theorem d_Mo_state_36 : decode c_Mo_state 36 = .ok (.iconst 0, 1) := by decide +kernel
theorem d_Mo_state_37 : decode c_Mo_state 37 = .ok (.ireturn, 1) := by decide +kernel
theorem d_Mo_state_38 : decode c_Mo_state 38 = .ok (.aload_n 0, 1) := by decide +kernel
theorem d_Mo_state_39 : decode c_Mo_state 39 = .ok (.aload_n 1, 1) := by decide +kernel
theorem d_Mo_state_40 : decode c_Mo_state 40 = .ok (.iconst 0, 1) := by decide +kernel
theorem d_Mo_state_41 : decode c_Mo_state 41 = .ok (.invokevirtual 185, 3) := by decide +kernel
theorem d_Mo_state_44 : decode c_Mo_state 44 = .ok (.ifCond .ne 5, 3) := by decide +kernel
theorem d_Mo_state_47 : decode c_Mo_state 47 = .ok (.iconst 1, 1) := by decide +kernel
theorem d_Mo_state_48 : decode c_Mo_state 48 = .ok (.ireturn, 1) := by decide +kernel
theorem d_Mo_state_49 : decode c_Mo_state 49 = .ok (.aload_n 0, 1) := by decide +kernel
theorem d_Mo_state_50 : decode c_Mo_state 50 = .ok (.aload_n 1, 1) := by decide +kernel
theorem d_Mo_state_51 : decode c_Mo_state 51 = .ok (.invokevirtual 109, 3) := by decide +kernel
theorem d_Mo_state_54 : decode c_Mo_state 54 = .ok (.ifCond .ne 5, 3) := by decide +kernel
theorem d_Mo_state_57 : decode c_Mo_state 57 = .ok (.iconst 2, 1) := by decide +kernel
theorem d_Mo_state_58 : decode c_Mo_state 58 = .ok (.ireturn, 1) := by decide +kernel
theorem d_Mo_state_59 : decode c_Mo_state 59 = .ok (.aload_n 0, 1) := by decide +kernel
theorem d_Mo_state_60 : decode c_Mo_state 60 = .ok (.aload_n 1, 1) := by decide +kernel
theorem d_Mo_state_61 : decode c_Mo_state 61 = .ok (.invokevirtual 113, 3) := by decide +kernel
theorem d_Mo_state_64 : decode c_Mo_state 64 = .ok (.ifCond .eq 5, 3) := by decide +kernel
theorem d_Mo_state_67 : decode c_Mo_state 67 = .ok (.iconst 5, 1) := by decide +kernel
theorem d_Mo_state_68 : decode c_Mo_state 68 = .ok (.ireturn, 1) := by decide +kernel
theorem d_Mo_state_69 : decode c_Mo_state 69 = .ok (.aload_n 0, 1) := by decide +kernel
theorem d_Mo_state_70 : decode c_Mo_state 70 = .ok (.aload_n 1, 1) := by decide +kernel
theorem d_Mo_state_71 : decode c_Mo_state 71 = .ok (.iconst 0, 1) := by decide +kernel
theorem d_Mo_state_72 : decode c_Mo_state 72 = .ok (.invokevirtual 102, 3) := by decide +kernel
theorem d_Mo_state_75 : decode c_Mo_state 75 = .ok (.ifCond .eq 7, 3) := by decide +kernel
theorem d_Mo_state_78 : decode c_Mo_state 78 = .ok (.iconst 4, 1) := by decide +kernel
theorem d_Mo_state_79 : decode c_Mo_state 79 = .ok (.goto 4, 3) := by decide +kernel
theorem d_Mo_state_82 : decode c_Mo_state 82 = .ok (.iconst 3, 1) := by decide +kernel
theorem d_Mo_state_83 : decode c_Mo_state 83 = .ok (.ireturn, 1) := by decide +kernel
abbrev c_Mo_records : ByteArray := prog_12_method_50_code
abbrev y_Mo_records : MethodName := ⟨"ZoneAnswersModel", "records", "(I)I"⟩
theorem d_Mo_records_0 : decode c_Mo_records 0 = .ok (.aload_n 0, 1) := by decide +kernel
theorem d_Mo_records_1 : decode c_Mo_records 1 = .ok (.iconst 0, 1) := by decide +kernel
theorem d_Mo_records_2 : decode c_Mo_records 2 = .ok (.putfield 57, 3) := by decide +kernel
theorem d_Mo_records_5 : decode c_Mo_records 5 = .ok (.iload_n 1, 1) := by decide +kernel
theorem d_Mo_records_6 : decode c_Mo_records 6 = .ok (.iconst 1, 1) := by decide +kernel
theorem d_Mo_records_7 : decode c_Mo_records 7 = .ok (.if_icmp .lt 8, 3) := by decide +kernel
theorem d_Mo_records_10 : decode c_Mo_records 10 = .ok (.iload_n 1, 1) := by decide +kernel
theorem d_Mo_records_11 : decode c_Mo_records 11 = .ok (.iconst 3, 1) := by decide +kernel
theorem d_Mo_records_12 : decode c_Mo_records 12 = .ok (.if_icmp .le 9, 3) := by decide +kernel
theorem d_Mo_records_15 : decode c_Mo_records 15 = .ok (.aload_n 0, 1) := by decide +kernel
theorem d_Mo_records_16 : decode c_Mo_records 16 = .ok (.iconst 1, 1) := by decide +kernel
theorem d_Mo_records_17 : decode c_Mo_records 17 = .ok (.invokevirtual 235, 3) := by decide +kernel
theorem d_Mo_records_20 : decode c_Mo_records 20 = .ok (.ireturn, 1) := by decide +kernel
theorem d_Mo_records_21 : decode c_Mo_records 21 = .ok (.iconst 0, 1) := by decide +kernel
theorem d_Mo_records_22 : decode c_Mo_records 22 = .ok (.istore_n 2, 1) := by decide +kernel
theorem d_Mo_records_23 : decode c_Mo_records 23 = .ok (.iconst 0, 1) := by decide +kernel
theorem d_Mo_records_24 : decode c_Mo_records 24 = .ok (.istore_n 3, 1) := by decide +kernel
theorem d_Mo_records_25 : decode c_Mo_records 25 = .ok (.iload_n 3, 1) := by decide +kernel
theorem d_Mo_records_26 : decode c_Mo_records 26 = .ok (.aload_n 0, 1) := by decide +kernel
theorem d_Mo_records_27 : decode c_Mo_records 27 = .ok (.getfield 140, 3) := by decide +kernel
theorem d_Mo_records_30 : decode c_Mo_records 30 = .ok (.if_icmp .ge 22, 3) := by decide +kernel
theorem d_Mo_records_33 : decode c_Mo_records 33 = .ok (.aload_n 0, 1) := by decide +kernel
theorem d_Mo_records_34 : decode c_Mo_records 34 = .ok (.getfield 23, 3) := by decide +kernel
theorem d_Mo_records_37 : decode c_Mo_records 37 = .ok (.iload_n 3, 1) := by decide +kernel
theorem d_Mo_records_38 : decode c_Mo_records 38 = .ok (.iaload, 1) := by decide +kernel
theorem d_Mo_records_39 : decode c_Mo_records 39 = .ok (.iload_n 1, 1) := by decide +kernel
theorem d_Mo_records_40 : decode c_Mo_records 40 = .ok (.if_icmp .ne 6, 3) := by decide +kernel
theorem d_Mo_records_43 : decode c_Mo_records 43 = .ok (.iinc 2 1, 3) := by decide +kernel
theorem d_Mo_records_46 : decode c_Mo_records 46 = .ok (.iinc 3 1, 3) := by decide +kernel
theorem d_Mo_records_49 : decode c_Mo_records 49 = .ok (.goto (-24), 3) := by decide +kernel
theorem d_Mo_records_52 : decode c_Mo_records 52 = .ok (.iload_n 2, 1) := by decide +kernel
theorem d_Mo_records_53 : decode c_Mo_records 53 = .ok (.ireturn, 1) := by decide +kernel
abbrev c_Mo_place : ByteArray := prog_12_method_51_code
abbrev y_Mo_place : MethodName := ⟨"ZoneAnswersModel", "place", "(II)I"⟩
theorem d_Mo_place_0 : decode c_Mo_place 0 = .ok (.iload_n 2, 1) := by decide +kernel
theorem d_Mo_place_1 : decode c_Mo_place 1 = .ok (.istore_n 3, 1) := by decide +kernel
theorem d_Mo_place_2 : decode c_Mo_place 2 = .ok (.iload_n 2, 1) := by decide +kernel
theorem d_Mo_place_3 : decode c_Mo_place 3 = .ok (.ifCond .lt 13, 3) := by decide +kernel
theorem d_Mo_place_6 : decode c_Mo_place 6 = .ok (.iload_n 1, 1) := by decide +kernel
theorem d_Mo_place_7 : decode c_Mo_place 7 = .ok (.iconst 1, 1) := by decide +kernel
theorem d_Mo_place_8 : decode c_Mo_place 8 = .ok (.if_icmp .lt 8, 3) := by decide +kernel
theorem d_Mo_place_11 : decode c_Mo_place 11 = .ok (.iload_n 1, 1) := by decide +kernel
theorem d_Mo_place_12 : decode c_Mo_place 12 = .ok (.iconst 3, 1) := by decide +kernel
theorem d_Mo_place_13 : decode c_Mo_place 13 = .ok (.if_icmp .le 5, 3) := by decide +kernel
theorem d_Mo_place_16 : decode c_Mo_place 16 = .ok (.iconst (-1), 1) := by decide +kernel
theorem d_Mo_place_17 : decode c_Mo_place 17 = .ok (.ireturn, 1) := by decide +kernel
theorem d_Mo_place_18 : decode c_Mo_place 18 = .ok (.iconst 0, 1) := by decide +kernel
theorem d_Mo_place_19 : decode c_Mo_place 19 = .ok (.istore 4, 2) := by decide +kernel
theorem d_Mo_place_21 : decode c_Mo_place 21 = .ok (.iload 4, 2) := by decide +kernel
theorem d_Mo_place_23 : decode c_Mo_place 23 = .ok (.aload_n 0, 1) := by decide +kernel
theorem d_Mo_place_24 : decode c_Mo_place 24 = .ok (.getfield 140, 3) := by decide +kernel
theorem d_Mo_place_27 : decode c_Mo_place 27 = .ok (.if_icmp .ge 33, 3) := by decide +kernel
theorem d_Mo_place_30 : decode c_Mo_place 30 = .ok (.aload_n 0, 1) := by decide +kernel
theorem d_Mo_place_31 : decode c_Mo_place 31 = .ok (.getfield 23, 3) := by decide +kernel
theorem d_Mo_place_34 : decode c_Mo_place 34 = .ok (.iload 4, 2) := by decide +kernel
theorem d_Mo_place_36 : decode c_Mo_place 36 = .ok (.iaload, 1) := by decide +kernel
theorem d_Mo_place_37 : decode c_Mo_place 37 = .ok (.iload_n 1, 1) := by decide +kernel
theorem d_Mo_place_38 : decode c_Mo_place 38 = .ok (.if_icmp .eq 6, 3) := by decide +kernel
theorem d_Mo_place_41 : decode c_Mo_place 41 = .ok (.goto 13, 3) := by decide +kernel
theorem d_Mo_place_44 : decode c_Mo_place 44 = .ok (.iload_n 3, 1) := by decide +kernel
theorem d_Mo_place_45 : decode c_Mo_place 45 = .ok (.ifCond .ne 6, 3) := by decide +kernel
theorem d_Mo_place_48 : decode c_Mo_place 48 = .ok (.iload 4, 2) := by decide +kernel
theorem d_Mo_place_50 : decode c_Mo_place 50 = .ok (.ireturn, 1) := by decide +kernel
theorem d_Mo_place_51 : decode c_Mo_place 51 = .ok (.iinc 3 (-1), 3) := by decide +kernel
theorem d_Mo_place_54 : decode c_Mo_place 54 = .ok (.iinc 4 1, 3) := by decide +kernel
theorem d_Mo_place_57 : decode c_Mo_place 57 = .ok (.goto (-36), 3) := by decide +kernel
theorem d_Mo_place_60 : decode c_Mo_place 60 = .ok (.iconst (-1), 1) := by decide +kernel
theorem d_Mo_place_61 : decode c_Mo_place 61 = .ok (.ireturn, 1) := by decide +kernel
abbrev c_Mo_told : ByteArray := prog_12_method_52_code
abbrev y_Mo_told : MethodName := ⟨"ZoneAnswersModel", "told", "(III)I"⟩
theorem d_Mo_told_0 : decode c_Mo_told 0 = .ok (.aload_n 0, 1) := by decide +kernel
theorem d_Mo_told_1 : decode c_Mo_told 1 = .ok (.iconst 0, 1) := by decide +kernel
theorem d_Mo_told_2 : decode c_Mo_told 2 = .ok (.putfield 57, 3) := by decide +kernel
theorem d_Mo_told_5 : decode c_Mo_told 5 = .ok (.aload_n 0, 1) := by decide +kernel
theorem d_Mo_told_6 : decode c_Mo_told 6 = .ok (.iload_n 1, 1) := by decide +kernel
theorem d_Mo_told_7 : decode c_Mo_told 7 = .ok (.iload_n 2, 1) := by decide +kernel
theorem d_Mo_told_8 : decode c_Mo_told 8 = .ok (.invokevirtual 283, 3) := by decide +kernel
theorem d_Mo_told_11 : decode c_Mo_told 11 = .ok (.istore 4, 2) := by decide +kernel
theorem d_Mo_told_13 : decode c_Mo_told 13 = .ok (.iload 4, 2) := by decide +kernel
theorem d_Mo_told_15 : decode c_Mo_told 15 = .ok (.ifCond .ge 9, 3) := by decide +kernel
theorem d_Mo_told_18 : decode c_Mo_told 18 = .ok (.aload_n 0, 1) := by decide +kernel
theorem d_Mo_told_19 : decode c_Mo_told 19 = .ok (.iconst 1, 1) := by decide +kernel
theorem d_Mo_told_20 : decode c_Mo_told 20 = .ok (.invokevirtual 235, 3) := by decide +kernel
theorem d_Mo_told_23 : decode c_Mo_told 23 = .ok (.ireturn, 1) := by decide +kernel
theorem d_Mo_told_24 : decode c_Mo_told 24 = .ok (.iload_n 3, 1) := by decide +kernel
theorem d_Mo_told_25 : decode c_Mo_told 25 = .ok (.tableswitch 64 0 3 #[31, 39, 47, 56], 31) := by decide +kernel
theorem d_Mo_told_56 : decode c_Mo_told 56 = .ok (.aload_n 0, 1) := by decide +kernel
theorem d_Mo_told_57 : decode c_Mo_told 57 = .ok (.getfield 27, 3) := by decide +kernel
theorem d_Mo_told_60 : decode c_Mo_told 60 = .ok (.iload 4, 2) := by decide +kernel
theorem d_Mo_told_62 : decode c_Mo_told 62 = .ok (.iaload, 1) := by decide +kernel
theorem d_Mo_told_63 : decode c_Mo_told 63 = .ok (.ireturn, 1) := by decide +kernel
theorem d_Mo_told_64 : decode c_Mo_told 64 = .ok (.aload_n 0, 1) := by decide +kernel
theorem d_Mo_told_65 : decode c_Mo_told 65 = .ok (.getfield 30, 3) := by decide +kernel
theorem d_Mo_told_68 : decode c_Mo_told 68 = .ok (.iload 4, 2) := by decide +kernel
theorem d_Mo_told_70 : decode c_Mo_told 70 = .ok (.iaload, 1) := by decide +kernel
theorem d_Mo_told_71 : decode c_Mo_told 71 = .ok (.ireturn, 1) := by decide +kernel
theorem d_Mo_told_72 : decode c_Mo_told 72 = .ok (.aload_n 0, 1) := by decide +kernel
theorem d_Mo_told_73 : decode c_Mo_told 73 = .ok (.getfield 40, 3) := by decide +kernel
theorem d_Mo_told_76 : decode c_Mo_told 76 = .ok (.iload 4, 2) := by decide +kernel
theorem d_Mo_told_78 : decode c_Mo_told 78 = .ok (.aaload, 1) := by decide +kernel
theorem d_Mo_told_79 : decode c_Mo_told 79 = .ok (.arraylength, 1) := by decide +kernel
theorem d_Mo_told_80 : decode c_Mo_told 80 = .ok (.ireturn, 1) := by decide +kernel
theorem d_Mo_told_81 : decode c_Mo_told 81 = .ok (.aload_n 0, 1) := by decide +kernel
theorem d_Mo_told_82 : decode c_Mo_told 82 = .ok (.getfield 36, 3) := by decide +kernel
theorem d_Mo_told_85 : decode c_Mo_told 85 = .ok (.iload 4, 2) := by decide +kernel
theorem d_Mo_told_87 : decode c_Mo_told 87 = .ok (.iaload, 1) := by decide +kernel
theorem d_Mo_told_88 : decode c_Mo_told 88 = .ok (.ireturn, 1) := by decide +kernel
theorem d_Mo_told_89 : decode c_Mo_told 89 = .ok (.aload_n 0, 1) := by decide +kernel
theorem d_Mo_told_90 : decode c_Mo_told 90 = .ok (.iconst 2, 1) := by decide +kernel
theorem d_Mo_told_91 : decode c_Mo_told 91 = .ok (.invokevirtual 235, 3) := by decide +kernel
theorem d_Mo_told_94 : decode c_Mo_told 94 = .ok (.ireturn, 1) := by decide +kernel
abbrev c_Mo_byteOf : ByteArray := prog_12_method_53_code
abbrev y_Mo_byteOf : MethodName := ⟨"ZoneAnswersModel", "byteOf", "(III)I"⟩
theorem d_Mo_byteOf_0 : decode c_Mo_byteOf 0 = .ok (.aload_n 0, 1) := by decide +kernel
theorem d_Mo_byteOf_1 : decode c_Mo_byteOf 1 = .ok (.iconst 0, 1) := by decide +kernel
theorem d_Mo_byteOf_2 : decode c_Mo_byteOf 2 = .ok (.putfield 57, 3) := by decide +kernel
theorem d_Mo_byteOf_5 : decode c_Mo_byteOf 5 = .ok (.aload_n 0, 1) := by decide +kernel
theorem d_Mo_byteOf_6 : decode c_Mo_byteOf 6 = .ok (.iload_n 1, 1) := by decide +kernel
theorem d_Mo_byteOf_7 : decode c_Mo_byteOf 7 = .ok (.iload_n 2, 1) := by decide +kernel
theorem d_Mo_byteOf_8 : decode c_Mo_byteOf 8 = .ok (.invokevirtual 283, 3) := by decide +kernel
theorem d_Mo_byteOf_11 : decode c_Mo_byteOf 11 = .ok (.istore 4, 2) := by decide +kernel
theorem d_Mo_byteOf_13 : decode c_Mo_byteOf 13 = .ok (.iload 4, 2) := by decide +kernel
theorem d_Mo_byteOf_15 : decode c_Mo_byteOf 15 = .ok (.ifCond .ge 9, 3) := by decide +kernel
theorem d_Mo_byteOf_18 : decode c_Mo_byteOf 18 = .ok (.aload_n 0, 1) := by decide +kernel
theorem d_Mo_byteOf_19 : decode c_Mo_byteOf 19 = .ok (.iconst 1, 1) := by decide +kernel
theorem d_Mo_byteOf_20 : decode c_Mo_byteOf 20 = .ok (.invokevirtual 235, 3) := by decide +kernel
theorem d_Mo_byteOf_23 : decode c_Mo_byteOf 23 = .ok (.ireturn, 1) := by decide +kernel
theorem d_Mo_byteOf_24 : decode c_Mo_byteOf 24 = .ok (.iload_n 3, 1) := by decide +kernel
theorem d_Mo_byteOf_25 : decode c_Mo_byteOf 25 = .ok (.ifCond .lt 23, 3) := by decide +kernel
theorem d_Mo_byteOf_28 : decode c_Mo_byteOf 28 = .ok (.iload_n 3, 1) := by decide +kernel
theorem d_Mo_byteOf_29 : decode c_Mo_byteOf 29 = .ok (.aload_n 0, 1) := by decide +kernel
theorem d_Mo_byteOf_30 : decode c_Mo_byteOf 30 = .ok (.getfield 40, 3) := by decide +kernel
theorem d_Mo_byteOf_33 : decode c_Mo_byteOf 33 = .ok (.iload 4, 2) := by decide +kernel
theorem d_Mo_byteOf_35 : decode c_Mo_byteOf 35 = .ok (.aaload, 1) := by decide +kernel
theorem d_Mo_byteOf_36 : decode c_Mo_byteOf 36 = .ok (.arraylength, 1) := by decide +kernel
theorem d_Mo_byteOf_37 : decode c_Mo_byteOf 37 = .ok (.aload_n 0, 1) := by decide +kernel
theorem d_Mo_byteOf_38 : decode c_Mo_byteOf 38 = .ok (.getfield 36, 3) := by decide +kernel
theorem d_Mo_byteOf_41 : decode c_Mo_byteOf 41 = .ok (.iload 4, 2) := by decide +kernel
theorem d_Mo_byteOf_43 : decode c_Mo_byteOf 43 = .ok (.iaload, 1) := by decide +kernel
theorem d_Mo_byteOf_44 : decode c_Mo_byteOf 44 = .ok (.iadd, 1) := by decide +kernel
theorem d_Mo_byteOf_45 : decode c_Mo_byteOf 45 = .ok (.if_icmp .lt 9, 3) := by decide +kernel
theorem d_Mo_byteOf_48 : decode c_Mo_byteOf 48 = .ok (.aload_n 0, 1) := by decide +kernel
theorem d_Mo_byteOf_49 : decode c_Mo_byteOf 49 = .ok (.iconst 2, 1) := by decide +kernel
theorem d_Mo_byteOf_50 : decode c_Mo_byteOf 50 = .ok (.invokevirtual 235, 3) := by decide +kernel
theorem d_Mo_byteOf_53 : decode c_Mo_byteOf 53 = .ok (.ireturn, 1) := by decide +kernel
theorem d_Mo_byteOf_54 : decode c_Mo_byteOf 54 = .ok (.iload_n 3, 1) := by decide +kernel
theorem d_Mo_byteOf_55 : decode c_Mo_byteOf 55 = .ok (.aload_n 0, 1) := by decide +kernel
theorem d_Mo_byteOf_56 : decode c_Mo_byteOf 56 = .ok (.getfield 40, 3) := by decide +kernel
theorem d_Mo_byteOf_59 : decode c_Mo_byteOf 59 = .ok (.iload 4, 2) := by decide +kernel
theorem d_Mo_byteOf_61 : decode c_Mo_byteOf 61 = .ok (.aaload, 1) := by decide +kernel
theorem d_Mo_byteOf_62 : decode c_Mo_byteOf 62 = .ok (.arraylength, 1) := by decide +kernel
theorem d_Mo_byteOf_63 : decode c_Mo_byteOf 63 = .ok (.if_icmp .ge 17, 3) := by decide +kernel
theorem d_Mo_byteOf_66 : decode c_Mo_byteOf 66 = .ok (.aload_n 0, 1) := by decide +kernel
theorem d_Mo_byteOf_67 : decode c_Mo_byteOf 67 = .ok (.getfield 40, 3) := by decide +kernel
theorem d_Mo_byteOf_70 : decode c_Mo_byteOf 70 = .ok (.iload 4, 2) := by decide +kernel
theorem d_Mo_byteOf_72 : decode c_Mo_byteOf 72 = .ok (.aaload, 1) := by decide +kernel
theorem d_Mo_byteOf_73 : decode c_Mo_byteOf 73 = .ok (.iload_n 3, 1) := by decide +kernel
theorem d_Mo_byteOf_74 : decode c_Mo_byteOf 74 = .ok (.baload, 1) := by decide +kernel
theorem d_Mo_byteOf_75 : decode c_Mo_byteOf 75 = .ok (.sipush 255, 3) := by decide +kernel
theorem d_Mo_byteOf_78 : decode c_Mo_byteOf 78 = .ok (.iand, 1) := by decide +kernel
theorem d_Mo_byteOf_79 : decode c_Mo_byteOf 79 = .ok (.ireturn, 1) := by decide +kernel
theorem d_Mo_byteOf_80 : decode c_Mo_byteOf 80 = .ok (.aload_n 0, 1) := by decide +kernel
theorem d_Mo_byteOf_81 : decode c_Mo_byteOf 81 = .ok (.getfield 33, 3) := by decide +kernel
theorem d_Mo_byteOf_84 : decode c_Mo_byteOf 84 = .ok (.iload 4, 2) := by decide +kernel
theorem d_Mo_byteOf_86 : decode c_Mo_byteOf 86 = .ok (.iaload, 1) := by decide +kernel
theorem d_Mo_byteOf_87 : decode c_Mo_byteOf 87 = .ok (.iload_n 3, 1) := by decide +kernel
theorem d_Mo_byteOf_88 : decode c_Mo_byteOf 88 = .ok (.iadd, 1) := by decide +kernel
theorem d_Mo_byteOf_89 : decode c_Mo_byteOf 89 = .ok (.aload_n 0, 1) := by decide +kernel
theorem d_Mo_byteOf_90 : decode c_Mo_byteOf 90 = .ok (.getfield 40, 3) := by decide +kernel
theorem d_Mo_byteOf_93 : decode c_Mo_byteOf 93 = .ok (.iload 4, 2) := by decide +kernel
theorem d_Mo_byteOf_95 : decode c_Mo_byteOf 95 = .ok (.aaload, 1) := by decide +kernel
theorem d_Mo_byteOf_96 : decode c_Mo_byteOf 96 = .ok (.arraylength, 1) := by decide +kernel
theorem d_Mo_byteOf_97 : decode c_Mo_byteOf 97 = .ok (.isub, 1) := by decide +kernel
theorem d_Mo_byteOf_98 : decode c_Mo_byteOf 98 = .ok (.istore 5, 2) := by decide +kernel
theorem d_Mo_byteOf_100 : decode c_Mo_byteOf 100 = .ok (.aload_n 0, 1) := by decide +kernel
theorem d_Mo_byteOf_101 : decode c_Mo_byteOf 101 = .ok (.getfield 44, 3) := by decide +kernel
theorem d_Mo_byteOf_104 : decode c_Mo_byteOf 104 = .ok (.iload 4, 2) := by decide +kernel
theorem d_Mo_byteOf_106 : decode c_Mo_byteOf 106 = .ok (.aaload, 1) := by decide +kernel
theorem d_Mo_byteOf_107 : decode c_Mo_byteOf 107 = .ok (.ifnonnull 13, 3) := by decide +kernel
theorem d_Mo_byteOf_110 : decode c_Mo_byteOf 110 = .ok (.aload_n 0, 1) := by decide +kernel
theorem d_Mo_byteOf_111 : decode c_Mo_byteOf 111 = .ok (.getfield 47, 3) := by decide +kernel
theorem d_Mo_byteOf_114 : decode c_Mo_byteOf 114 = .ok (.iload 5, 2) := by decide +kernel
theorem d_Mo_byteOf_116 : decode c_Mo_byteOf 116 = .ok (.baload, 1) := by decide +kernel
theorem d_Mo_byteOf_117 : decode c_Mo_byteOf 117 = .ok (.goto 13, 3) := by decide +kernel
theorem d_Mo_byteOf_120 : decode c_Mo_byteOf 120 = .ok (.aload_n 0, 1) := by decide +kernel
theorem d_Mo_byteOf_121 : decode c_Mo_byteOf 121 = .ok (.getfield 44, 3) := by decide +kernel
theorem d_Mo_byteOf_124 : decode c_Mo_byteOf 124 = .ok (.iload 4, 2) := by decide +kernel
theorem d_Mo_byteOf_126 : decode c_Mo_byteOf 126 = .ok (.aaload, 1) := by decide +kernel
theorem d_Mo_byteOf_127 : decode c_Mo_byteOf 127 = .ok (.iload 5, 2) := by decide +kernel
theorem d_Mo_byteOf_129 : decode c_Mo_byteOf 129 = .ok (.baload, 1) := by decide +kernel
theorem d_Mo_byteOf_130 : decode c_Mo_byteOf 130 = .ok (.sipush 255, 3) := by decide +kernel
theorem d_Mo_byteOf_133 : decode c_Mo_byteOf 133 = .ok (.iand, 1) := by decide +kernel
theorem d_Mo_byteOf_134 : decode c_Mo_byteOf 134 = .ok (.ireturn, 1) := by decide +kernel
abbrev c_Mo_four : ByteArray := prog_12_method_14_code
abbrev y_Mo_four : MethodName := ⟨"ZoneAnswersModel", "four", "([BI)J"⟩
theorem d_Mo_four_0 : decode c_Mo_four 0 = .ok (.lconst 0, 1) := by decide +kernel
theorem d_Mo_four_1 : decode c_Mo_four 1 = .ok (.lstore_n 2, 1) := by decide +kernel
theorem d_Mo_four_2 : decode c_Mo_four 2 = .ok (.iconst 0, 1) := by decide +kernel
theorem d_Mo_four_3 : decode c_Mo_four 3 = .ok (.istore 4, 2) := by decide +kernel
theorem d_Mo_four_5 : decode c_Mo_four 5 = .ok (.iload 4, 2) := by decide +kernel
theorem d_Mo_four_7 : decode c_Mo_four 7 = .ok (.iconst 4, 1) := by decide +kernel
theorem d_Mo_four_8 : decode c_Mo_four 8 = .ok (.if_icmp .ge 26, 3) := by decide +kernel
theorem d_Mo_four_11 : decode c_Mo_four 11 = .ok (.lload_n 2, 1) := by decide +kernel
theorem d_Mo_four_12 : decode c_Mo_four 12 = .ok (.bipush 8, 2) := by decide +kernel
theorem d_Mo_four_14 : decode c_Mo_four 14 = .ok (.lshl, 1) := by decide +kernel
theorem d_Mo_four_15 : decode c_Mo_four 15 = .ok (.aload_n 0, 1) := by decide +kernel
theorem d_Mo_four_16 : decode c_Mo_four 16 = .ok (.iload_n 1, 1) := by decide +kernel
theorem d_Mo_four_17 : decode c_Mo_four 17 = .ok (.iload 4, 2) := by decide +kernel
theorem d_Mo_four_19 : decode c_Mo_four 19 = .ok (.iadd, 1) := by decide +kernel
theorem d_Mo_four_20 : decode c_Mo_four 20 = .ok (.baload, 1) := by decide +kernel
theorem d_Mo_four_21 : decode c_Mo_four 21 = .ok (.sipush 255, 3) := by decide +kernel
theorem d_Mo_four_24 : decode c_Mo_four 24 = .ok (.iand, 1) := by decide +kernel
theorem d_Mo_four_25 : decode c_Mo_four 25 = .ok (.i2l, 1) := by decide +kernel
theorem d_Mo_four_26 : decode c_Mo_four 26 = .ok (.lor, 1) := by decide +kernel
theorem d_Mo_four_27 : decode c_Mo_four 27 = .ok (.lstore_n 2, 1) := by decide +kernel
theorem d_Mo_four_28 : decode c_Mo_four 28 = .ok (.iinc 4 1, 3) := by decide +kernel
theorem d_Mo_four_31 : decode c_Mo_four 31 = .ok (.goto (-26), 3) := by decide +kernel
theorem d_Mo_four_34 : decode c_Mo_four 34 = .ok (.lload_n 2, 1) := by decide +kernel
theorem d_Mo_four_35 : decode c_Mo_four 35 = .ok (.lreturn, 1) := by decide +kernel
abbrev c_Mo_numbers : ByteArray := prog_12_method_15_code
abbrev y_Mo_numbers : MethodName := ⟨"ZoneAnswersModel", "numbers", "()I"⟩
theorem d_Mo_numbers_0 : decode c_Mo_numbers 0 = .ok (.aload_n 0, 1) := by decide +kernel
theorem d_Mo_numbers_1 : decode c_Mo_numbers 1 = .ok (.getfield 19, 3) := by decide +kernel
theorem d_Mo_numbers_4 : decode c_Mo_numbers 4 = .ok (.iconst 0, 1) := by decide +kernel
theorem d_Mo_numbers_5 : decode c_Mo_numbers 5 = .ok (.aaload, 1) := by decide +kernel
theorem d_Mo_numbers_6 : decode c_Mo_numbers 6 = .ok (.getfield 71, 3) := by decide +kernel
theorem d_Mo_numbers_9 : decode c_Mo_numbers 9 = .ok (.astore_n 1, 1) := by decide +kernel
theorem d_Mo_numbers_10 : decode c_Mo_numbers 10 = .ok (.aload_n 1, 1) := by decide +kernel
theorem d_Mo_numbers_11 : decode c_Mo_numbers 11 = .ok (.aload_n 1, 1) := by decide +kernel
theorem d_Mo_numbers_12 : decode c_Mo_numbers 12 = .ok (.iconst 0, 1) := by decide +kernel
theorem d_Mo_numbers_13 : decode c_Mo_numbers 13 = .ok (.aload_n 1, 1) := by decide +kernel
theorem d_Mo_numbers_14 : decode c_Mo_numbers 14 = .ok (.arraylength, 1) := by decide +kernel
theorem d_Mo_numbers_15 : decode c_Mo_numbers 15 = .ok (.invokestatic 120, 3) := by decide +kernel
theorem d_Mo_numbers_18 : decode c_Mo_numbers 18 = .ok (.aload_n 1, 1) := by decide +kernel
theorem d_Mo_numbers_19 : decode c_Mo_numbers 19 = .ok (.arraylength, 1) := by decide +kernel
theorem d_Mo_numbers_20 : decode c_Mo_numbers 20 = .ok (.invokestatic 120, 3) := by decide +kernel
theorem d_Mo_numbers_23 : decode c_Mo_numbers 23 = .ok (.ireturn, 1) := by decide +kernel
abbrev c_Mo_cutOver : ByteArray := prog_12_method_9_code
abbrev y_Mo_cutOver : MethodName := ⟨"ZoneAnswersModel", "cutOver", "([B)I"⟩
theorem d_Mo_cutOver_0 : decode c_Mo_cutOver 0 = .ok (.aload_n 0, 1) := by decide +kernel
theorem d_Mo_cutOver_1 : decode c_Mo_cutOver 1 = .ok (.getfield 14, 3) := by decide +kernel
theorem d_Mo_cutOver_4 : decode c_Mo_cutOver 4 = .ok (.invokestatic 94, 3) := by decide +kernel
theorem d_Mo_cutOver_7 : decode c_Mo_cutOver 7 = .ok (.iconst 1, 1) := by decide +kernel
theorem d_Mo_cutOver_8 : decode c_Mo_cutOver 8 = .ok (.iadd, 1) := by decide +kernel
theorem d_Mo_cutOver_9 : decode c_Mo_cutOver 9 = .ok (.istore_n 2, 1) := by decide +kernel
theorem d_Mo_cutOver_10 : decode c_Mo_cutOver 10 = .ok (.iload_n 2, 1) := by decide +kernel
theorem d_Mo_cutOver_11 : decode c_Mo_cutOver 11 = .ok (.aload_n 1, 1) := by decide +kernel
theorem d_Mo_cutOver_12 : decode c_Mo_cutOver 12 = .ok (.invokestatic 94, 3) := by decide +kernel
theorem d_Mo_cutOver_15 : decode c_Mo_cutOver 15 = .ok (.if_icmp .gt 26, 3) := by decide +kernel
theorem d_Mo_cutOver_18 : decode c_Mo_cutOver 18 = .ok (.aload_n 1, 1) := by decide +kernel
theorem d_Mo_cutOver_19 : decode c_Mo_cutOver 19 = .ok (.iload_n 2, 1) := by decide +kernel
theorem d_Mo_cutOver_20 : decode c_Mo_cutOver 20 = .ok (.invokestatic 98, 3) := by decide +kernel
theorem d_Mo_cutOver_23 : decode c_Mo_cutOver 23 = .ok (.istore_n 3, 1) := by decide +kernel
theorem d_Mo_cutOver_24 : decode c_Mo_cutOver 24 = .ok (.aload_n 0, 1) := by decide +kernel
theorem d_Mo_cutOver_25 : decode c_Mo_cutOver 25 = .ok (.aload_n 1, 1) := by decide +kernel
theorem d_Mo_cutOver_26 : decode c_Mo_cutOver 26 = .ok (.iload_n 3, 1) := by decide +kernel
theorem d_Mo_cutOver_27 : decode c_Mo_cutOver 27 = .ok (.invokevirtual 102, 3) := by decide +kernel
theorem d_Mo_cutOver_30 : decode c_Mo_cutOver 30 = .ok (.ifCond .eq 5, 3) := by decide +kernel
theorem d_Mo_cutOver_33 : decode c_Mo_cutOver 33 = .ok (.iload_n 3, 1) := by decide +kernel
theorem d_Mo_cutOver_34 : decode c_Mo_cutOver 34 = .ok (.ireturn, 1) := by decide +kernel
theorem d_Mo_cutOver_35 : decode c_Mo_cutOver 35 = .ok (.iinc 2 1, 3) := by decide +kernel
theorem d_Mo_cutOver_38 : decode c_Mo_cutOver 38 = .ok (.goto (-28), 3) := by decide +kernel
theorem d_Mo_cutOver_41 : decode c_Mo_cutOver 41 = .ok (.iconst (-1), 1) := by decide +kernel
theorem d_Mo_cutOver_42 : decode c_Mo_cutOver 42 = .ok (.ireturn, 1) := by decide +kernel
abbrev c_Mo_away : ByteArray := prog_12_method_10_code
abbrev y_Mo_away : MethodName := ⟨"ZoneAnswersModel", "away", "([B)Z"⟩
theorem d_Mo_away_0 : decode c_Mo_away 0 = .ok (.aload_n 0, 1) := by decide +kernel
theorem d_Mo_away_1 : decode c_Mo_away 1 = .ok (.aload_n 1, 1) := by decide +kernel
theorem d_Mo_away_2 : decode c_Mo_away 2 = .ok (.invokevirtual 106, 3) := by decide +kernel
theorem d_Mo_away_5 : decode c_Mo_away 5 = .ok (.ifCond .le 7, 3) := by decide +kernel
theorem d_Mo_away_8 : decode c_Mo_away 8 = .ok (.iconst 1, 1) := by decide +kernel
theorem d_Mo_away_9 : decode c_Mo_away 9 = .ok (.goto 4, 3) := by decide +kernel
theorem d_Mo_away_12 : decode c_Mo_away 12 = .ok (.iconst 0, 1) := by decide +kernel
theorem d_Mo_away_13 : decode c_Mo_away 13 = .ok (.ireturn, 1) := by decide +kernel
abbrev c_Mo_cut : ByteArray := prog_12_method_8_code
abbrev y_Mo_cut : MethodName := ⟨"ZoneAnswersModel", "cut", "([BI)Z"⟩
theorem d_Mo_cut_0 : decode c_Mo_cut 0 = .ok (.aload_n 1, 1) := by decide +kernel
theorem d_Mo_cut_1 : decode c_Mo_cut 1 = .ok (.iload_n 2, 1) := by decide +kernel
theorem d_Mo_cut_2 : decode c_Mo_cut 2 = .ok (.aload_n 0, 1) := by decide +kernel
theorem d_Mo_cut_3 : decode c_Mo_cut 3 = .ok (.getfield 14, 3) := by decide +kernel
theorem d_Mo_cut_6 : decode c_Mo_cut 6 = .ok (.iconst 0, 1) := by decide +kernel
theorem d_Mo_cut_7 : decode c_Mo_cut 7 = .ok (.invokestatic 74, 3) := by decide +kernel
theorem d_Mo_cut_10 : decode c_Mo_cut 10 = .ok (.ifCond .ne 17, 3) := by decide +kernel
theorem d_Mo_cut_13 : decode c_Mo_cut 13 = .ok (.aload_n 0, 1) := by decide +kernel
theorem d_Mo_cut_14 : decode c_Mo_cut 14 = .ok (.aload_n 1, 1) := by decide +kernel
theorem d_Mo_cut_15 : decode c_Mo_cut 15 = .ok (.iload_n 2, 1) := by decide +kernel
theorem d_Mo_cut_16 : decode c_Mo_cut 16 = .ok (.iconst 2, 1) := by decide +kernel
theorem d_Mo_cut_17 : decode c_Mo_cut 17 = .ok (.invokevirtual 90, 3) := by decide +kernel
theorem d_Mo_cut_20 : decode c_Mo_cut 20 = .ok (.ifCond .eq 7, 3) := by decide +kernel
theorem d_Mo_cut_23 : decode c_Mo_cut 23 = .ok (.iconst 1, 1) := by decide +kernel
theorem d_Mo_cut_24 : decode c_Mo_cut 24 = .ok (.goto 4, 3) := by decide +kernel
theorem d_Mo_cut_27 : decode c_Mo_cut 27 = .ok (.iconst 0, 1) := by decide +kernel
theorem d_Mo_cut_28 : decode c_Mo_cut 28 = .ok (.ireturn, 1) := by decide +kernel
abbrev c_Mo_fresh : ByteArray := prog_12_method_56_code
abbrev y_Mo_fresh : MethodName := ⟨"ZoneAnswersModel", "fresh", "(I)I"⟩
theorem d_Mo_fresh_0 : decode c_Mo_fresh 0 = .ok (.aload_n 0, 1) := by decide +kernel
theorem d_Mo_fresh_1 : decode c_Mo_fresh 1 = .ok (.getfield 19, 3) := by decide +kernel
theorem d_Mo_fresh_4 : decode c_Mo_fresh 4 = .ok (.iload_n 1, 1) := by decide +kernel
theorem d_Mo_fresh_5 : decode c_Mo_fresh 5 = .ok (.aaload, 1) := by decide +kernel
theorem d_Mo_fresh_6 : decode c_Mo_fresh 6 = .ok (.getfield 65, 3) := by decide +kernel
theorem d_Mo_fresh_9 : decode c_Mo_fresh 9 = .ok (.astore_n 2, 1) := by decide +kernel
theorem d_Mo_fresh_10 : decode c_Mo_fresh 10 = .ok (.iconst 0, 1) := by decide +kernel
theorem d_Mo_fresh_11 : decode c_Mo_fresh 11 = .ok (.istore_n 3, 1) := by decide +kernel
theorem d_Mo_fresh_12 : decode c_Mo_fresh 12 = .ok (.iconst 0, 1) := by decide +kernel
theorem d_Mo_fresh_13 : decode c_Mo_fresh 13 = .ok (.istore 4, 2) := by decide +kernel
theorem d_Mo_fresh_15 : decode c_Mo_fresh 15 = .ok (.aload_n 2, 1) := by decide +kernel
theorem d_Mo_fresh_16 : decode c_Mo_fresh 16 = .ok (.arraylength, 1) := by decide +kernel
theorem d_Mo_fresh_17 : decode c_Mo_fresh 17 = .ok (.iload 4, 2) := by decide +kernel
theorem d_Mo_fresh_19 : decode c_Mo_fresh 19 = .ok (.isub, 1) := by decide +kernel
theorem d_Mo_fresh_20 : decode c_Mo_fresh 20 = .ok (.aload_n 0, 1) := by decide +kernel
theorem d_Mo_fresh_21 : decode c_Mo_fresh 21 = .ok (.getfield 14, 3) := by decide +kernel
theorem d_Mo_fresh_24 : decode c_Mo_fresh 24 = .ok (.arraylength, 1) := by decide +kernel
theorem d_Mo_fresh_25 : decode c_Mo_fresh 25 = .ok (.if_icmp .lt 79, 3) := by decide +kernel
theorem d_Mo_fresh_28 : decode c_Mo_fresh 28 = .ok (.iconst 0, 1) := by decide +kernel
theorem d_Mo_fresh_29 : decode c_Mo_fresh 29 = .ok (.istore 5, 2) := by decide +kernel
theorem d_Mo_fresh_31 : decode c_Mo_fresh 31 = .ok (.iconst 0, 1) := by decide +kernel
theorem d_Mo_fresh_32 : decode c_Mo_fresh 32 = .ok (.istore 6, 2) := by decide +kernel
theorem d_Mo_fresh_34 : decode c_Mo_fresh 34 = .ok (.iload 6, 2) := by decide +kernel
theorem d_Mo_fresh_36 : decode c_Mo_fresh 36 = .ok (.iload_n 1, 1) := by decide +kernel
theorem d_Mo_fresh_37 : decode c_Mo_fresh 37 = .ok (.if_icmp .ge 32, 3) := by decide +kernel
theorem d_Mo_fresh_40 : decode c_Mo_fresh 40 = .ok (.iload 5, 2) := by decide +kernel
theorem d_Mo_fresh_42 : decode c_Mo_fresh 42 = .ok (.ifCond .ne 27, 3) := by decide +kernel
theorem d_Mo_fresh_45 : decode c_Mo_fresh 45 = .ok (.aload_n 0, 1) := by decide +kernel
theorem d_Mo_fresh_46 : decode c_Mo_fresh 46 = .ok (.getfield 19, 3) := by decide +kernel
theorem d_Mo_fresh_49 : decode c_Mo_fresh 49 = .ok (.iload 6, 2) := by decide +kernel
theorem d_Mo_fresh_51 : decode c_Mo_fresh 51 = .ok (.aaload, 1) := by decide +kernel
theorem d_Mo_fresh_52 : decode c_Mo_fresh 52 = .ok (.getfield 65, 3) := by decide +kernel
theorem d_Mo_fresh_55 : decode c_Mo_fresh 55 = .ok (.aload_n 2, 1) := by decide +kernel
theorem d_Mo_fresh_56 : decode c_Mo_fresh 56 = .ok (.iload 4, 2) := by decide +kernel
theorem d_Mo_fresh_58 : decode c_Mo_fresh 58 = .ok (.invokestatic 87, 3) := by decide +kernel
theorem d_Mo_fresh_61 : decode c_Mo_fresh 61 = .ok (.istore 5, 2) := by decide +kernel
theorem d_Mo_fresh_63 : decode c_Mo_fresh 63 = .ok (.iinc 6 1, 3) := by decide +kernel
theorem d_Mo_fresh_66 : decode c_Mo_fresh 66 = .ok (.goto (-32), 3) := by decide +kernel
theorem d_Mo_fresh_69 : decode c_Mo_fresh 69 = .ok (.iload 5, 2) := by decide +kernel
theorem d_Mo_fresh_71 : decode c_Mo_fresh 71 = .ok (.ifCond .eq 6, 3) := by decide +kernel
theorem d_Mo_fresh_74 : decode c_Mo_fresh 74 = .ok (.goto 30, 3) := by decide +kernel
theorem d_Mo_fresh_77 : decode c_Mo_fresh 77 = .ok (.iinc 3 1, 3) := by decide +kernel
theorem d_Mo_fresh_80 : decode c_Mo_fresh 80 = .ok (.aload_n 2, 1) := by decide +kernel
theorem d_Mo_fresh_81 : decode c_Mo_fresh 81 = .ok (.iload 4, 2) := by decide +kernel
theorem d_Mo_fresh_83 : decode c_Mo_fresh 83 = .ok (.baload, 1) := by decide +kernel
theorem d_Mo_fresh_84 : decode c_Mo_fresh 84 = .ok (.ifCond .ne 6, 3) := by decide +kernel
theorem d_Mo_fresh_87 : decode c_Mo_fresh 87 = .ok (.goto 17, 3) := by decide +kernel
theorem d_Mo_fresh_90 : decode c_Mo_fresh 90 = .ok (.iload 4, 2) := by decide +kernel
theorem d_Mo_fresh_92 : decode c_Mo_fresh 92 = .ok (.aload_n 2, 1) := by decide +kernel
theorem d_Mo_fresh_93 : decode c_Mo_fresh 93 = .ok (.iload 4, 2) := by decide +kernel
theorem d_Mo_fresh_95 : decode c_Mo_fresh 95 = .ok (.baload, 1) := by decide +kernel
theorem d_Mo_fresh_96 : decode c_Mo_fresh 96 = .ok (.iconst 1, 1) := by decide +kernel
theorem d_Mo_fresh_97 : decode c_Mo_fresh 97 = .ok (.iadd, 1) := by decide +kernel
theorem d_Mo_fresh_98 : decode c_Mo_fresh 98 = .ok (.iadd, 1) := by decide +kernel
theorem d_Mo_fresh_99 : decode c_Mo_fresh 99 = .ok (.istore 4, 2) := by decide +kernel
theorem d_Mo_fresh_101 : decode c_Mo_fresh 101 = .ok (.goto (-86), 3) := by decide +kernel
theorem d_Mo_fresh_104 : decode c_Mo_fresh 104 = .ok (.iload_n 3, 1) := by decide +kernel
theorem d_Mo_fresh_105 : decode c_Mo_fresh 105 = .ok (.ireturn, 1) := by decide +kernel
abbrev c_Mo_count : ByteArray := prog_12_method_55_code
abbrev y_Mo_count : MethodName := ⟨"ZoneAnswersModel", "count", "(I)I"⟩
theorem d_Mo_count_0 : decode c_Mo_count 0 = .ok (.aload_n 0, 1) := by decide +kernel
theorem d_Mo_count_1 : decode c_Mo_count 1 = .ok (.iconst 0, 1) := by decide +kernel
theorem d_Mo_count_2 : decode c_Mo_count 2 = .ok (.putfield 57, 3) := by decide +kernel
theorem d_Mo_count_5 : decode c_Mo_count 5 = .ok (.iload_n 1, 1) := by decide +kernel
theorem d_Mo_count_6 : decode c_Mo_count 6 = .ok (.ifCond .ne 8, 3) := by decide +kernel
theorem d_Mo_count_9 : decode c_Mo_count 9 = .ok (.aload_n 0, 1) := by decide +kernel
theorem d_Mo_count_10 : decode c_Mo_count 10 = .ok (.getfield 231, 3) := by decide +kernel
theorem d_Mo_count_13 : decode c_Mo_count 13 = .ok (.ireturn, 1) := by decide +kernel
theorem d_Mo_count_14 : decode c_Mo_count 14 = .ok (.iload_n 1, 1) := by decide +kernel
theorem d_Mo_count_15 : decode c_Mo_count 15 = .ok (.iconst 1, 1) := by decide +kernel
theorem d_Mo_count_16 : decode c_Mo_count 16 = .ok (.if_icmp .ne 8, 3) := by decide +kernel
theorem d_Mo_count_19 : decode c_Mo_count 19 = .ok (.aload_n 0, 1) := by decide +kernel
theorem d_Mo_count_20 : decode c_Mo_count 20 = .ok (.getfield 61, 3) := by decide +kernel
theorem d_Mo_count_23 : decode c_Mo_count 23 = .ok (.ireturn, 1) := by decide +kernel
theorem d_Mo_count_24 : decode c_Mo_count 24 = .ok (.iload_n 1, 1) := by decide +kernel
theorem d_Mo_count_25 : decode c_Mo_count 25 = .ok (.bipush 7, 2) := by decide +kernel
theorem d_Mo_count_27 : decode c_Mo_count 27 = .ok (.if_icmp .ne 21, 3) := by decide +kernel
theorem d_Mo_count_30 : decode c_Mo_count 30 = .ok (.aload_n 0, 1) := by decide +kernel
theorem d_Mo_count_31 : decode c_Mo_count 31 = .ok (.getfield 19, 3) := by decide +kernel
theorem d_Mo_count_34 : decode c_Mo_count 34 = .ok (.iconst 0, 1) := by decide +kernel
theorem d_Mo_count_35 : decode c_Mo_count 35 = .ok (.aaload, 1) := by decide +kernel
theorem d_Mo_count_36 : decode c_Mo_count 36 = .ok (.getfield 71, 3) := by decide +kernel
theorem d_Mo_count_39 : decode c_Mo_count 39 = .ok (.aload_n 0, 1) := by decide +kernel
theorem d_Mo_count_40 : decode c_Mo_count 40 = .ok (.invokevirtual 126, 3) := by decide +kernel
theorem d_Mo_count_43 : decode c_Mo_count 43 = .ok (.invokestatic 130, 3) := by decide +kernel
theorem d_Mo_count_46 : decode c_Mo_count 46 = .ok (.l2i, 1) := by decide +kernel
theorem d_Mo_count_47 : decode c_Mo_count 47 = .ok (.ireturn, 1) := by decide +kernel
theorem d_Mo_count_48 : decode c_Mo_count 48 = .ok (.iload_n 1, 1) := by decide +kernel
theorem d_Mo_count_49 : decode c_Mo_count 49 = .ok (.ifCond .lt 9, 3) := by decide +kernel
theorem d_Mo_count_52 : decode c_Mo_count 52 = .ok (.iload_n 1, 1) := by decide +kernel
theorem d_Mo_count_53 : decode c_Mo_count 53 = .ok (.bipush 7, 2) := by decide +kernel
theorem d_Mo_count_55 : decode c_Mo_count 55 = .ok (.if_icmp .le 5, 3) := by decide +kernel
theorem d_Mo_count_58 : decode c_Mo_count 58 = .ok (.iconst (-1), 1) := by decide +kernel
theorem d_Mo_count_59 : decode c_Mo_count 59 = .ok (.ireturn, 1) := by decide +kernel
theorem d_Mo_count_60 : decode c_Mo_count 60 = .ok (.iconst 0, 1) := by decide +kernel
theorem d_Mo_count_61 : decode c_Mo_count 61 = .ok (.istore_n 2, 1) := by decide +kernel
theorem d_Mo_count_62 : decode c_Mo_count 62 = .ok (.iconst 0, 1) := by decide +kernel
theorem d_Mo_count_63 : decode c_Mo_count 63 = .ok (.istore_n 3, 1) := by decide +kernel
theorem d_Mo_count_64 : decode c_Mo_count 64 = .ok (.iload_n 3, 1) := by decide +kernel
theorem d_Mo_count_65 : decode c_Mo_count 65 = .ok (.aload_n 0, 1) := by decide +kernel
theorem d_Mo_count_66 : decode c_Mo_count 66 = .ok (.getfield 61, 3) := by decide +kernel
theorem d_Mo_count_69 : decode c_Mo_count 69 = .ok (.if_icmp .ge 184, 3) := by decide +kernel
theorem d_Mo_count_72 : decode c_Mo_count 72 = .ok (.iconst 0, 1) := by decide +kernel
theorem d_Mo_count_73 : decode c_Mo_count 73 = .ok (.istore 4, 2) := by decide +kernel
theorem d_Mo_count_75 : decode c_Mo_count 75 = .ok (.iconst 0, 1) := by decide +kernel
theorem d_Mo_count_76 : decode c_Mo_count 76 = .ok (.istore 5, 2) := by decide +kernel
theorem d_Mo_count_78 : decode c_Mo_count 78 = .ok (.iconst 0, 1) := by decide +kernel
theorem d_Mo_count_79 : decode c_Mo_count 79 = .ok (.istore 6, 2) := by decide +kernel
theorem d_Mo_count_81 : decode c_Mo_count 81 = .ok (.iload 6, 2) := by decide +kernel
theorem d_Mo_count_83 : decode c_Mo_count 83 = .ok (.iload_n 3, 1) := by decide +kernel
theorem d_Mo_count_84 : decode c_Mo_count 84 = .ok (.if_icmp .ge 77, 3) := by decide +kernel
theorem d_Mo_count_87 : decode c_Mo_count 87 = .ok (.aload_n 0, 1) := by decide +kernel
theorem d_Mo_count_88 : decode c_Mo_count 88 = .ok (.getfield 19, 3) := by decide +kernel
theorem d_Mo_count_91 : decode c_Mo_count 91 = .ok (.iload_n 3, 1) := by decide +kernel
theorem d_Mo_count_92 : decode c_Mo_count 92 = .ok (.aaload, 1) := by decide +kernel
theorem d_Mo_count_93 : decode c_Mo_count 93 = .ok (.getfield 65, 3) := by decide +kernel
theorem d_Mo_count_96 : decode c_Mo_count 96 = .ok (.aload_n 0, 1) := by decide +kernel
theorem d_Mo_count_97 : decode c_Mo_count 97 = .ok (.getfield 19, 3) := by decide +kernel
theorem d_Mo_count_100 : decode c_Mo_count 100 = .ok (.iload 6, 2) := by decide +kernel
theorem d_Mo_count_102 : decode c_Mo_count 102 = .ok (.aaload, 1) := by decide +kernel
theorem d_Mo_count_103 : decode c_Mo_count 103 = .ok (.getfield 65, 3) := by decide +kernel
theorem d_Mo_count_106 : decode c_Mo_count 106 = .ok (.invokestatic 80, 3) := by decide +kernel
theorem d_Mo_count_109 : decode c_Mo_count 109 = .ok (.istore 7, 2) := by decide +kernel
theorem d_Mo_count_111 : decode c_Mo_count 111 = .ok (.iload 5, 2) := by decide +kernel
theorem d_Mo_count_113 : decode c_Mo_count 113 = .ok (.iload 7, 2) := by decide +kernel
theorem d_Mo_count_115 : decode c_Mo_count 115 = .ok (.ior, 1) := by decide +kernel
theorem d_Mo_count_116 : decode c_Mo_count 116 = .ok (.istore 5, 2) := by decide +kernel
theorem d_Mo_count_118 : decode c_Mo_count 118 = .ok (.iload 4, 2) := by decide +kernel
theorem d_Mo_count_120 : decode c_Mo_count 120 = .ok (.iload 7, 2) := by decide +kernel
theorem d_Mo_count_122 : decode c_Mo_count 122 = .ok (.ifCond .eq 29, 3) := by decide +kernel
theorem d_Mo_count_125 : decode c_Mo_count 125 = .ok (.aload_n 0, 1) := by decide +kernel
theorem d_Mo_count_126 : decode c_Mo_count 126 = .ok (.getfield 19, 3) := by decide +kernel
theorem d_Mo_count_129 : decode c_Mo_count 129 = .ok (.iload_n 3, 1) := by decide +kernel
theorem d_Mo_count_130 : decode c_Mo_count 130 = .ok (.aaload, 1) := by decide +kernel
theorem d_Mo_count_131 : decode c_Mo_count 131 = .ok (.getfield 67, 3) := by decide +kernel
theorem d_Mo_count_134 : decode c_Mo_count 134 = .ok (.aload_n 0, 1) := by decide +kernel
theorem d_Mo_count_135 : decode c_Mo_count 135 = .ok (.getfield 19, 3) := by decide +kernel
theorem d_Mo_count_138 : decode c_Mo_count 138 = .ok (.iload 6, 2) := by decide +kernel
theorem d_Mo_count_140 : decode c_Mo_count 140 = .ok (.aaload, 1) := by decide +kernel
theorem d_Mo_count_141 : decode c_Mo_count 141 = .ok (.getfield 67, 3) := by decide +kernel
theorem d_Mo_count_144 : decode c_Mo_count 144 = .ok (.if_icmp .ne 7, 3) := by decide +kernel
theorem d_Mo_count_147 : decode c_Mo_count 147 = .ok (.iconst 1, 1) := by decide +kernel
theorem d_Mo_count_148 : decode c_Mo_count 148 = .ok (.goto 4, 3) := by decide +kernel
theorem d_Mo_count_151 : decode c_Mo_count 151 = .ok (.iconst 0, 1) := by decide +kernel
theorem d_Mo_count_152 : decode c_Mo_count 152 = .ok (.ior, 1) := by decide +kernel
theorem d_Mo_count_153 : decode c_Mo_count 153 = .ok (.istore 4, 2) := by decide +kernel
theorem d_Mo_count_155 : decode c_Mo_count 155 = .ok (.iinc 6 1, 3) := by decide +kernel
theorem d_Mo_count_158 : decode c_Mo_count 158 = .ok (.goto (-77), 3) := by decide +kernel
theorem d_Mo_count_161 : decode c_Mo_count 161 = .ok (.iload_n 1, 1) := by decide +kernel
theorem d_Mo_count_162 : decode c_Mo_count 162 = .ok (.iconst 2, 1) := by decide +kernel
theorem d_Mo_count_163 : decode c_Mo_count 163 = .ok (.if_icmp .ne 11, 3) := by decide +kernel
theorem d_Mo_count_166 : decode c_Mo_count 166 = .ok (.iload 4, 2) := by decide +kernel
theorem d_Mo_count_168 : decode c_Mo_count 168 = .ok (.ifCond .ne 6, 3) := by decide +kernel
theorem d_Mo_count_171 : decode c_Mo_count 171 = .ok (.iinc 2 1, 3) := by decide +kernel
theorem d_Mo_count_174 : decode c_Mo_count 174 = .ok (.iload 5, 2) := by decide +kernel
theorem d_Mo_count_176 : decode c_Mo_count 176 = .ok (.ifCond .eq 6, 3) := by decide +kernel
theorem d_Mo_count_179 : decode c_Mo_count 179 = .ok (.goto 68, 3) := by decide +kernel
theorem d_Mo_count_182 : decode c_Mo_count 182 = .ok (.iload_n 1, 1) := by decide +kernel
theorem d_Mo_count_183 : decode c_Mo_count 183 = .ok (.iconst 3, 1) := by decide +kernel
theorem d_Mo_count_184 : decode c_Mo_count 184 = .ok (.if_icmp .eq 47, 3) := by decide +kernel
theorem d_Mo_count_187 : decode c_Mo_count 187 = .ok (.iload_n 1, 1) := by decide +kernel
theorem d_Mo_count_188 : decode c_Mo_count 188 = .ok (.iconst 5, 1) := by decide +kernel
theorem d_Mo_count_189 : decode c_Mo_count 189 = .ok (.if_icmp .ne 19, 3) := by decide +kernel
theorem d_Mo_count_192 : decode c_Mo_count 192 = .ok (.aload_n 0, 1) := by decide +kernel
theorem d_Mo_count_193 : decode c_Mo_count 193 = .ok (.aload_n 0, 1) := by decide +kernel
theorem d_Mo_count_194 : decode c_Mo_count 194 = .ok (.getfield 19, 3) := by decide +kernel
theorem d_Mo_count_197 : decode c_Mo_count 197 = .ok (.iload_n 3, 1) := by decide +kernel
theorem d_Mo_count_198 : decode c_Mo_count 198 = .ok (.aaload, 1) := by decide +kernel
theorem d_Mo_count_199 : decode c_Mo_count 199 = .ok (.getfield 65, 3) := by decide +kernel
theorem d_Mo_count_202 : decode c_Mo_count 202 = .ok (.invokevirtual 113, 3) := by decide +kernel
theorem d_Mo_count_205 : decode c_Mo_count 205 = .ok (.ifCond .eq 26, 3) := by decide +kernel
theorem d_Mo_count_208 : decode c_Mo_count 208 = .ok (.iload_n 1, 1) := by decide +kernel
theorem d_Mo_count_209 : decode c_Mo_count 209 = .ok (.bipush 6, 2) := by decide +kernel
theorem d_Mo_count_211 : decode c_Mo_count 211 = .ok (.if_icmp .ne 23, 3) := by decide +kernel
theorem d_Mo_count_214 : decode c_Mo_count 214 = .ok (.aload_n 0, 1) := by decide +kernel
theorem d_Mo_count_215 : decode c_Mo_count 215 = .ok (.aload_n 0, 1) := by decide +kernel
theorem d_Mo_count_216 : decode c_Mo_count 216 = .ok (.getfield 19, 3) := by decide +kernel
theorem d_Mo_count_219 : decode c_Mo_count 219 = .ok (.iload_n 3, 1) := by decide +kernel
theorem d_Mo_count_220 : decode c_Mo_count 220 = .ok (.aaload, 1) := by decide +kernel
theorem d_Mo_count_221 : decode c_Mo_count 221 = .ok (.getfield 65, 3) := by decide +kernel
theorem d_Mo_count_224 : decode c_Mo_count 224 = .ok (.iconst 0, 1) := by decide +kernel
theorem d_Mo_count_225 : decode c_Mo_count 225 = .ok (.invokevirtual 102, 3) := by decide +kernel
theorem d_Mo_count_228 : decode c_Mo_count 228 = .ok (.ifCond .eq 6, 3) := by decide +kernel
theorem d_Mo_count_231 : decode c_Mo_count 231 = .ok (.iinc 2 1, 3) := by decide +kernel
theorem d_Mo_count_234 : decode c_Mo_count 234 = .ok (.iload_n 1, 1) := by decide +kernel
theorem d_Mo_count_235 : decode c_Mo_count 235 = .ok (.iconst 4, 1) := by decide +kernel
theorem d_Mo_count_236 : decode c_Mo_count 236 = .ok (.if_icmp .ne 11, 3) := by decide +kernel
theorem d_Mo_count_239 : decode c_Mo_count 239 = .ok (.iload_n 2, 1) := by decide +kernel
theorem d_Mo_count_240 : decode c_Mo_count 240 = .ok (.aload_n 0, 1) := by decide +kernel
theorem d_Mo_count_241 : decode c_Mo_count 241 = .ok (.iload_n 3, 1) := by decide +kernel
theorem d_Mo_count_242 : decode c_Mo_count 242 = .ok (.invokevirtual 286, 3) := by decide +kernel
theorem d_Mo_count_245 : decode c_Mo_count 245 = .ok (.iadd, 1) := by decide +kernel
theorem d_Mo_count_246 : decode c_Mo_count 246 = .ok (.istore_n 2, 1) := by decide +kernel
theorem d_Mo_count_247 : decode c_Mo_count 247 = .ok (.iinc 3 1, 3) := by decide +kernel
theorem d_Mo_count_250 : decode c_Mo_count 250 = .ok (.goto (-186), 3) := by decide +kernel
theorem d_Mo_count_253 : decode c_Mo_count 253 = .ok (.iload_n 2, 1) := by decide +kernel
theorem d_Mo_count_254 : decode c_Mo_count 254 = .ok (.ireturn, 1) := by decide +kernel
abbrev c_Mo_serial : ByteArray := prog_12_method_47_code
abbrev y_Mo_serial : MethodName := ⟨"ZoneAnswersModel", "serial", "(I)I"⟩
theorem d_Mo_serial_0 : decode c_Mo_serial 0 = .ok (.aload_n 0, 1) := by decide +kernel
theorem d_Mo_serial_1 : decode c_Mo_serial 1 = .ok (.iconst 0, 1) := by decide +kernel
theorem d_Mo_serial_2 : decode c_Mo_serial 2 = .ok (.putfield 57, 3) := by decide +kernel
theorem d_Mo_serial_5 : decode c_Mo_serial 5 = .ok (.aload_n 0, 1) := by decide +kernel
theorem d_Mo_serial_6 : decode c_Mo_serial 6 = .ok (.getfield 19, 3) := by decide +kernel
theorem d_Mo_serial_9 : decode c_Mo_serial 9 = .ok (.iconst 0, 1) := by decide +kernel
theorem d_Mo_serial_10 : decode c_Mo_serial 10 = .ok (.aaload, 1) := by decide +kernel
theorem d_Mo_serial_11 : decode c_Mo_serial 11 = .ok (.getfield 71, 3) := by decide +kernel
theorem d_Mo_serial_14 : decode c_Mo_serial 14 = .ok (.iconst 0, 1) := by decide +kernel
theorem d_Mo_serial_15 : decode c_Mo_serial 15 = .ok (.aload_n 0, 1) := by decide +kernel
theorem d_Mo_serial_16 : decode c_Mo_serial 16 = .ok (.getfield 19, 3) := by decide +kernel
theorem d_Mo_serial_19 : decode c_Mo_serial 19 = .ok (.iconst 0, 1) := by decide +kernel
theorem d_Mo_serial_20 : decode c_Mo_serial 20 = .ok (.aaload, 1) := by decide +kernel
theorem d_Mo_serial_21 : decode c_Mo_serial 21 = .ok (.getfield 71, 3) := by decide +kernel
theorem d_Mo_serial_24 : decode c_Mo_serial 24 = .ok (.arraylength, 1) := by decide +kernel
theorem d_Mo_serial_25 : decode c_Mo_serial 25 = .ok (.invokestatic 188, 3) := by decide +kernel
theorem d_Mo_serial_28 : decode c_Mo_serial 28 = .ok (.astore_n 2, 1) := by decide +kernel
theorem d_Mo_serial_29 : decode c_Mo_serial 29 = .ok (.aload_n 0, 1) := by decide +kernel
theorem d_Mo_serial_30 : decode c_Mo_serial 30 = .ok (.invokevirtual 126, 3) := by decide +kernel
theorem d_Mo_serial_33 : decode c_Mo_serial 33 = .ok (.istore_n 3, 1) := by decide +kernel
theorem d_Mo_serial_34 : decode c_Mo_serial 34 = .ok (.aload_n 2, 1) := by decide +kernel
theorem d_Mo_serial_35 : decode c_Mo_serial 35 = .ok (.iload_n 3, 1) := by decide +kernel
theorem d_Mo_serial_36 : decode c_Mo_serial 36 = .ok (.invokestatic 130, 3) := by decide +kernel
theorem d_Mo_serial_39 : decode c_Mo_serial 39 = .ok (.l2i, 1) := by decide +kernel
theorem d_Mo_serial_40 : decode c_Mo_serial 40 = .ok (.istore 4, 2) := by decide +kernel
theorem d_Mo_serial_42 : decode c_Mo_serial 42 = .ok (.iconst 0, 1) := by decide +kernel
theorem d_Mo_serial_43 : decode c_Mo_serial 43 = .ok (.istore 5, 2) := by decide +kernel
theorem d_Mo_serial_45 : decode c_Mo_serial 45 = .ok (.iload 5, 2) := by decide +kernel
theorem d_Mo_serial_47 : decode c_Mo_serial 47 = .ok (.iconst 4, 1) := by decide +kernel
theorem d_Mo_serial_48 : decode c_Mo_serial 48 = .ok (.if_icmp .ge 26, 3) := by decide +kernel
theorem d_Mo_serial_51 : decode c_Mo_serial 51 = .ok (.aload_n 2, 1) := by decide +kernel
theorem d_Mo_serial_52 : decode c_Mo_serial 52 = .ok (.iload_n 3, 1) := by decide +kernel
theorem d_Mo_serial_53 : decode c_Mo_serial 53 = .ok (.iload 5, 2) := by decide +kernel
theorem d_Mo_serial_55 : decode c_Mo_serial 55 = .ok (.iadd, 1) := by decide +kernel
theorem d_Mo_serial_56 : decode c_Mo_serial 56 = .ok (.iload_n 1, 1) := by decide +kernel
theorem d_Mo_serial_57 : decode c_Mo_serial 57 = .ok (.bipush 24, 2) := by decide +kernel
theorem d_Mo_serial_59 : decode c_Mo_serial 59 = .ok (.bipush 8, 2) := by decide +kernel
theorem d_Mo_serial_61 : decode c_Mo_serial 61 = .ok (.iload 5, 2) := by decide +kernel
theorem d_Mo_serial_63 : decode c_Mo_serial 63 = .ok (.imul, 1) := by decide +kernel
theorem d_Mo_serial_64 : decode c_Mo_serial 64 = .ok (.isub, 1) := by decide +kernel
theorem d_Mo_serial_65 : decode c_Mo_serial 65 = .ok (.ishr, 1) := by decide +kernel
theorem d_Mo_serial_66 : decode c_Mo_serial 66 = .ok (.i2b, 1) := by decide +kernel
theorem d_Mo_serial_67 : decode c_Mo_serial 67 = .ok (.bastore, 1) := by decide +kernel
theorem d_Mo_serial_68 : decode c_Mo_serial 68 = .ok (.iinc 5 1, 3) := by decide +kernel
theorem d_Mo_serial_71 : decode c_Mo_serial 71 = .ok (.goto (-26), 3) := by decide +kernel
theorem d_Mo_serial_74 : decode c_Mo_serial 74 = .ok (.aload_n 0, 1) := by decide +kernel
theorem d_Mo_serial_75 : decode c_Mo_serial 75 = .ok (.getfield 19, 3) := by decide +kernel
theorem d_Mo_serial_78 : decode c_Mo_serial 78 = .ok (.iconst 0, 1) := by decide +kernel
theorem d_Mo_serial_79 : decode c_Mo_serial 79 = .ok (.aaload, 1) := by decide +kernel
theorem d_Mo_serial_80 : decode c_Mo_serial 80 = .ok (.aload_n 2, 1) := by decide +kernel
theorem d_Mo_serial_81 : decode c_Mo_serial 81 = .ok (.putfield 71, 3) := by decide +kernel
theorem d_Mo_serial_84 : decode c_Mo_serial 84 = .ok (.iload 4, 2) := by decide +kernel
theorem d_Mo_serial_86 : decode c_Mo_serial 86 = .ok (.ireturn, 1) := by decide +kernel
abbrev rm_Mo_origin_f : Room := { frames := 2, cells := 0, slots := 0, locals := 60 }
set_option maxHeartbeats 4000000 in
set_option maxRecDepth 100000 in
/-- origin(..), of the new reference -/
theorem t_Mo_origin_f (l : Launch) (E : zc_E) (G : zg_G) (a m1 m3 m4 m6 m7 m8 m9 m10 m11 m12 m15 m18 rq dt : Nat) (hM : zMod E G a m1 m3 m4 m6 m7 m8 m9 m10 m11 m12 m15 m18 rq dt) (x1 x2 x3 x4 x5 : Int32) : zMv l E y_Mo_origin c_Mo_origin 14 rm_Mo_origin_f [.ref a, .int x1, .int x2, .int x3, .int x4, .int x5] G (fun (G2 : zg_G) => zx (fun q => q = a) G G2 ∧ G2 a = some (.inr (11, [.int 1, .ref m1, .int (nI 0), .ref m3, .ref m4, .int 1, .ref m6, .ref m7, .ref m8, .ref m9, .ref m10, .ref m11, .ref m12, .int 0, .int 0, .ref m15, .int 0, .int 0, .ref m18, .null, .null]))) := by
  refine zMv.of (by decide) (Nat.le_of_ble_eq_true rfl) ?_
  intro p e s m args below meth c Q hZ hG hret ls hl
  obtain ⟨hx, hb, hr, hts, hown, hlocks, hml, hnm, hbase, hK, hN, hQ⟩ := hZ
  have hl : lv_has ls 14 [(0, .ref a), (1, .int x1), (2, .int x2), (3, .int x3), (4, .int x4), (5, .int x5)] := hl
  have hS : zg_S (zc_b E) s.heap s.heap [] := va_S.rf
  obtain ⟨hma, hm1, hm3, hm4, hrq, hdt⟩ := id hM
  have hx0 : zx (fun q => q = a) G G := zx.rf
  refine lv_aload_n hx hb d_Mo_origin_0 rfl (lv_at hl 0 rfl) ?_
  refine zg_get (ci := 11) (C := "ZoneAnswersModel") (T := T_Mo) (N := 21) hx hb hts zi_Mo hown hK hG hma rfl 1 (by decide) (hts _ w_1282) (fun _ h9 => h9) rfl d_Mo_origin_1 ?_
  refine lv_iconst (v := 0) hx hb d_Mo_origin_4 (by decide) ?_
  refine zi_as (y := nI 0) (nI_0.symm) ?_
  refine lv_aload_n hx hb d_Mo_origin_5 rfl (lv_at hl 0 rfl) ?_
  refine zg_get (ci := 11) (C := "ZoneAnswersModel") (T := T_Mo) (N := 21) hx hb hts zi_Mo hown hK hG hma rfl 2 (by decide) (hts _ w_1283) (fun _ h9 => h9) rfl d_Mo_origin_6 ?_
  have hGo9 := hG
  refine zk_i (va_runS (As := [.ref m1, .int (nI 0), .int (nI 0)]) (rest := []) ⟨hx, hb, hml, hown, hts⟩ (t_Ns_end l E G m1 65536 (fun _ => 0) hm1 zf_fit0 (by decide) 0 0 (by decide) (by decide)) (zcS 3 hts w_1366 w_1367 w_33 w_1368 (by decide +kernel) ⟨Nat.le_of_ble_eq_true rfl, Nat.le_of_ble_eq_true rfl⟩) (zc_pre hbase hK hN hQ hG hS) rfl rfl hl.1 rfl (lv_room (Nat.le_of_ble_eq_true rfl)) d_Mo_origin_9 ⟨(by decide), (by decide)⟩) hS (fun r9 G9 H locs hp9 hG hS => ?_)
  have hG : zP E G H := hp9.2 ▸ hG
  refine zi_as (y := -1) (zE_e hp9.1 rfl) ?_
  refine lv_istore (lv' := [(6, .int (-1)), (0, .ref a), (1, .int x1), (2, .int x2), (3, .int x3), (4, .int x4), (5, .int x5)]) hx hb d_Mo_origin_12 hl (by decide) rfl (fun ls hl => ?_)
  refine lv_iload hx hb d_Mo_origin_14 (lv_at hl 0 rfl) ?_
  refine lv_if_ge (tgt := 23) hx hb d_Mo_origin_16 (by decide) (fun c16 => ?_) (fun c16 => ?_)
  · exact absurd c16 (by decide)
  · refine lv_iconst (v := -1) hx hb d_Mo_origin_19 (by decide) ?_
    refine lv_goto (tgt := 36) hx hb d_Mo_origin_20 (by decide) ?_
    refine lv_istore (lv' := [(7, .int (-1)), (6, .int (-1)), (0, .ref a), (1, .int x1), (2, .int x2), (3, .int x3), (4, .int x4), (5, .int x5)]) hx hb d_Mo_origin_36 hl (by decide) rfl (fun ls hl => ?_)
    refine lv_iload hx hb d_Mo_origin_38 (lv_at hl 0 rfl) ?_
    refine lv_if_ge (tgt := 47) hx hb d_Mo_origin_40 (by decide) (fun c40 => ?_) (fun c40 => ?_)
    · exact absurd c40 (by decide)
    · refine lv_iconst (v := -1) hx hb d_Mo_origin_43 (by decide) ?_
      refine lv_goto (tgt := 60) hx hb d_Mo_origin_44 (by decide) ?_
      refine lv_istore (lv' := [(8, .int (-1)), (7, .int (-1)), (6, .int (-1)), (0, .ref a), (1, .int x1), (2, .int x2), (3, .int x3), (4, .int x4), (5, .int x5)]) hx hb d_Mo_origin_60 hl (by decide) rfl (fun ls hl => ?_)
      refine lv_aload_n hx hb d_Mo_origin_62 rfl (lv_at hl 3 rfl) ?_
      refine lv_iload hx hb d_Mo_origin_63 (lv_at hl 0 rfl) ?_
      refine lv_aload_n hx hb d_Mo_origin_65 rfl (lv_at hl 3 rfl) ?_
      refine zg_get (ci := 11) (C := "ZoneAnswersModel") (T := T_Mo) (N := 21) hx hb hts zi_Mo hown hK hG hma rfl 2 (by decide) (hts _ w_1283) (fun _ h9 => h9) rfl d_Mo_origin_66 ?_
      refine lv_icmp_ne (tgt := 76) hx hb d_Mo_origin_69 (by decide) (fun c69 => ?_) (fun c69 => ?_)
      · refine lv_iconst (v := 1) hx hb d_Mo_origin_76 (by decide) ?_
        refine lv_goto (tgt := 81) hx hb d_Mo_origin_77 (by decide) ?_
        refine zg_put (ci := 11) (v := .int 1) (ty := .int) (C := "ZoneAnswersModel") (T := T_Mo) (N := 21) hx hb hts zi_Mo t_Mo t_Mo_ok n_Mo hown hK hG hS hma rfl 0 (by decide) (hts _ w_1281) (fun _ h9 => h9) rfl (by decide +kernel) rfl rfl (Nat.le_of_ble_eq_true rfl) d_Mo_origin_81 (fun H locs hG hS => ?_)
        obtain ⟨G1, eG1⟩ : ∃ z : zg_G, z = zg_up G a (.inr (11, [.int 1, .ref m1, .int (nI 0), .ref m3, .ref m4, .int 1, .ref m6, .ref m7, .ref m8, .ref m9, .ref m10, .ref m11, .ref m12, .int 0, .int 0, .ref m15, .int 0, .int 0, .ref m18, .null, .null])) := ⟨_, rfl⟩
        have hG : zP E G1 H := by rw [eG1]; exact hG
        have hx2 : zx (fun q => q = a) G G1 := hx0.tr (by rw [eG1]; exact zx.up (rfl))
        have k3 : G1 a = some (.inr (11, [.int 1, .ref m1, .int (nI 0), .ref m3, .ref m4, .int 1, .ref m6, .ref m7, .ref m8, .ref m9, .ref m10, .ref m11, .ref m12, .int 0, .int 0, .ref m15, .int 0, .int 0, .ref m18, .null, .null])) := by rw [eG1]; exact zg_up_self _ _ _
        have k4 : G1 m1 = some (.inl (E.2.1 0, 65536, .inl (fun _ => 0))) := by rw [eG1, zg_up_ne (zg_ne hm1 hma (by intro h; simp at h))]; exact hm1
        refine lv_aload_n hx hb d_Mo_origin_84 rfl (lv_at hl 3 rfl) ?_
        refine zg_get (ci := 11) (C := "ZoneAnswersModel") (T := T_Mo) (N := 21) hx hb hts zi_Mo hown hK hG k3 rfl 0 (by decide) (hts _ w_1281) (fun _ h9 => h9) rfl d_Mo_origin_85 ?_
        refine lv_if_le (tgt := 92) hx hb d_Mo_origin_88 (by decide) (fun c88 => ?_) (fun c88 => ?_)
        · have b88 : 1 ≤ 0 := (nI_leI (a := 1) (b := 0) (by omega) (by omega)).mp c88
          exact absurd b88 (by decide)
        · have b88 : ¬ 1 ≤ 0 := fun q => c88 ((nI_leI (a := 1) (b := 0) (by omega) (by omega)).mpr q)
          exact hret _ _ _ _ _ _ _ (⟨hx2, k3⟩) hG hS (by decide) (by decide) d_Mo_origin_91
      · exact absurd c69 (by decide)
abbrev rm_Mo_record_f : Room := { frames := 2, cells := 0, slots := 0, locals := 60 }
set_option maxHeartbeats 4000000 in
set_option maxRecDepth 100000 in
/-- record(t), of the new reference -/
theorem t_Mo_record_f (l : Launch) (E : zc_E) (G : zg_G) (a m1 m3 m4 m6 m7 m8 m9 m10 m11 m12 m15 m18 rq dt : Nat) (th : Int32) (hma : G a = some (.inr (11, [.int th, .ref m1, .int (nI 0), .ref m3, .ref m4, .int 1, .ref m6, .ref m7, .ref m8, .ref m9, .ref m10, .ref m11, .ref m12, .int 0, .int 0, .ref m15, .int 0, .int 0, .ref m18, .null, .null]))) (hm1 : G m1 = some (.inl (E.2.1 0, 65536, .inl (fun _ => 0)))) (t : Int32) : zMi l E y_Mo_record c_Mo_record 3 (some .boolean) rm_Mo_record_f [.ref a, .int t] G (fun (r : Int32) (G2 : zg_G) => r = 0 ∧ G2 = G) := by
  refine zMi.of (by decide) (Nat.le_of_ble_eq_true rfl) ?_
  intro p e s m args below meth c Q hZ hG hret ls hl
  obtain ⟨hx, hb, hr, hts, hown, hlocks, hml, hnm, hbase, hK, hN, hQ⟩ := hZ
  have hl : lv_has ls 3 [(0, .ref a), (1, .int t)] := hl
  have hS : zg_S (zc_b E) s.heap s.heap [] := va_S.rf
  refine lv_aload_n hx hb d_Mo_record_0 rfl (lv_at hl 0 rfl) ?_
  refine zg_get (ci := 11) (C := "ZoneAnswersModel") (T := T_Mo) (N := 21) hx hb hts zi_Mo hown hK hG hma rfl 1 (by decide) (hts _ w_1282) (fun _ h9 => h9) rfl d_Mo_record_1 ?_
  refine lv_iconst (v := 0) hx hb d_Mo_record_4 (by decide) ?_
  refine zi_as (y := nI 0) (nI_0.symm) ?_
  refine lv_aload_n hx hb d_Mo_record_5 rfl (lv_at hl 0 rfl) ?_
  refine zg_get (ci := 11) (C := "ZoneAnswersModel") (T := T_Mo) (N := 21) hx hb hts zi_Mo hown hK hG hma rfl 2 (by decide) (hts _ w_1283) (fun _ h9 => h9) rfl d_Mo_record_6 ?_
  have hGo9 := hG
  refine zk_i (va_runS (As := [.ref m1, .int (nI 0), .int (nI 0)]) (rest := []) ⟨hx, hb, hml, hown, hts⟩ (t_Ns_end l E G m1 65536 (fun _ => 0) hm1 zf_fit0 (by decide) 0 0 (by decide) (by decide)) (zcS 3 hts w_1366 w_1367 w_33 w_1368 (by decide +kernel) ⟨Nat.le_of_ble_eq_true rfl, Nat.le_of_ble_eq_true rfl⟩) (zc_pre hbase hK hN hQ hG hS) rfl rfl hl.1 rfl (lv_room (Nat.le_of_ble_eq_true rfl)) d_Mo_record_9 ⟨(by decide), (by decide)⟩) hS (fun r9 G9 H locs hp9 hG hS => ?_)
  have hG : zP E G H := hp9.2 ▸ hG
  refine zi_as (y := -1) (zE_e hp9.1 rfl) ?_
  refine lv_istore_n (lv' := [(2, .int (-1)), (0, .ref a), (1, .int t)]) hx hb d_Mo_record_12 rfl hl (by decide) rfl (fun ls hl => ?_)
  refine lv_iload_n hx hb d_Mo_record_13 rfl (lv_at hl 0 rfl) ?_
  refine lv_if_lt (tgt := 24) hx hb d_Mo_record_14 (by decide) (fun c14 => ?_) (fun c14 => ?_)
  · refine lv_iconst (v := 0) hx hb d_Mo_record_24 (by decide) ?_
    exact hret _ _ _ _ _ _ _ _ _ hr (rfl) (⟨rfl, rfl⟩) hG hS (Nat.le_refl _) (Nat.le_refl _) d_Mo_record_25
  · exact absurd c14 (by decide)
abbrev rm_Mo_whole_f : Room := { frames := 3, cells := 0, slots := 0, locals := 100 }
set_option maxHeartbeats 4000000 in
set_option maxRecDepth 100000 in
/-- whole(), of the new reference -/
theorem t_Mo_whole_f (l : Launch) (E : zc_E) (G : zg_G) (a m1 m3 m4 m6 m7 m8 m9 m10 m11 m12 m15 m18 rq dt : Nat) (th : Int32) (hma : G a = some (.inr (11, [.int th, .ref m1, .int (nI 0), .ref m3, .ref m4, .int 1, .ref m6, .ref m7, .ref m8, .ref m9, .ref m10, .ref m11, .ref m12, .int 0, .int 0, .ref m15, .int 0, .int 0, .ref m18, .null, .null]))) (hm1 : G m1 = some (.inl (E.2.1 0, 65536, .inl (fun _ => 0)))) : zMq l E y_Mo_whole c_Mo_whole 1 (some (.array .byte)) rm_Mo_whole_f [.ref a] G (fun (r : Option Nat) (G2 : zg_G) => r = none ∧ G2 = G) := by
  refine zMq.of (by decide) (Nat.le_of_ble_eq_true rfl) ?_
  intro p e s m args below meth c Q hZ hG hret ls hl
  obtain ⟨hx, hb, hr, hts, hown, hlocks, hml, hnm, hbase, hK, hN, hQ⟩ := hZ
  have hl : lv_has ls 1 [(0, .ref a)] := hl
  have hS : zg_S (zc_b E) s.heap s.heap [] := va_S.rf
  refine lv_aload_n hx hb d_Mo_whole_0 rfl (lv_at hl 0 rfl) ?_
  refine zg_get (ci := 11) (C := "ZoneAnswersModel") (T := T_Mo) (N := 21) hx hb hts zi_Mo hown hK hG hma rfl 1 (by decide) (hts _ w_1282) (fun _ h9 => h9) rfl d_Mo_whole_1 ?_
  refine lv_iconst (v := 0) hx hb d_Mo_whole_4 (by decide) ?_
  refine zi_as (y := nI 0) (nI_0.symm) ?_
  refine lv_aload_n hx hb d_Mo_whole_5 rfl (lv_at hl 0 rfl) ?_
  refine zg_get (ci := 11) (C := "ZoneAnswersModel") (T := T_Mo) (N := 21) hx hb hts zi_Mo hown hK hG hma rfl 2 (by decide) (hts _ w_1283) (fun _ h9 => h9) rfl d_Mo_whole_6 ?_
  have hGo9 := hG
  refine zk_i (va_runS (As := [.ref m1, .int (nI 0), .int (nI 0)]) (rest := []) ⟨hx, hb, hml, hown, hts⟩ (t_Ns_end l E G m1 65536 (fun _ => 0) hm1 zf_fit0 (by decide) 0 0 (by decide) (by decide)) (zcS 3 hts w_1366 w_1367 w_33 w_1368 (by decide +kernel) ⟨Nat.le_of_ble_eq_true rfl, Nat.le_of_ble_eq_true rfl⟩) (zc_pre hbase hK hN hQ hG hS) rfl rfl hl.1 rfl (lv_room (Nat.le_of_ble_eq_true rfl)) d_Mo_whole_9 ⟨(by decide), (by decide)⟩) hS (fun r9 G9 H locs hp9 hG hS => ?_)
  have hG : zP E G H := hp9.2 ▸ hG
  refine zi_as (y := -1) (zE_e hp9.1 rfl) ?_
  refine lv_aload_n hx hb d_Mo_whole_12 rfl (lv_at hl 0 rfl) ?_
  refine zg_get (ci := 11) (C := "ZoneAnswersModel") (T := T_Mo) (N := 21) hx hb hts zi_Mo hown hK hG hma rfl 2 (by decide) (hts _ w_1283) (fun _ h9 => h9) rfl d_Mo_whole_13 ?_
  refine lv_icmp_ne (tgt := 34) hx hb d_Mo_whole_16 (by decide) (fun c16 => ?_) (fun c16 => ?_)
  · refine lv_null hx hb d_Mo_whole_34 ?_
    exact hret none _ _ _ _ _ _ _ _ hr (Or.inr ⟨_, rfl⟩) (⟨rfl, rfl⟩) hG hS (Nat.le_refl _) (Nat.le_refl _) d_Mo_whole_35
  · exact absurd c16 (by decide)
abbrev rm_Mo_put_f : Room := { frames := 4, cells := 0, slots := 0, locals := 120 }
set_option maxHeartbeats 4000000 in
set_option maxRecDepth 100000 in
/-- Mo_put, of the new reference -/
theorem t_Mo_put_f (l : Launch) (E : zc_E) (G : zg_G) (a m1 m3 m4 m6 m7 m8 m9 m10 m11 m12 m15 m18 rq dt : Nat) (hM : zMod E G a m1 m3 m4 m6 m7 m8 m9 m10 m11 m12 m15 m18 rq dt) (t u : Int32) : zMi l E y_Mo_put c_Mo_put 4 (some .int) rm_Mo_put_f [.ref a, .int t, .int u] G (fun (r : Int32) (G2 : zg_G) => r = 0 ∧ zx (fun q => q = a) G G2 ∧ G2 a = some (.inr (11, [.int 1, .ref m1, .int (nI 0), .ref m3, .ref m4, .int 1, .ref m6, .ref m7, .ref m8, .ref m9, .ref m10, .ref m11, .ref m12, .int 0, .int 0, .ref m15, .int 0, .int 0, .ref m18, .null, .null]))) := by
  refine zMi.of (by decide) (Nat.le_of_ble_eq_true rfl) ?_
  intro p e s m args below meth c Q hZ hG hret ls hl
  obtain ⟨hx, hb, hr, hts, hown, hlocks, hml, hnm, hbase, hK, hN, hQ⟩ := hZ
  have hl : lv_has ls 4 [(0, .ref a), (1, .int t), (2, .int u)] := hl
  have hS : zg_S (zc_b E) s.heap s.heap [] := va_S.rf
  obtain ⟨hma, hm1, hm3, hm4, hrq, hdt⟩ := id hM
  have hx0 : zx (fun q => q = a) G G := zx.rf
  refine lv_aload_n hx hb d_Mo_put_0 rfl (lv_at hl 0 rfl) ?_
  refine lv_iconst (v := 0) hx hb d_Mo_put_1 (by decide) ?_
  refine zg_put (ci := 11) (v := .int 0) (ty := .int) (C := "ZoneAnswersModel") (T := T_Mo) (N := 21) hx hb hts zi_Mo t_Mo t_Mo_ok n_Mo hown hK hG hS hma rfl 0 (by decide) (hts _ w_1281) (fun _ h9 => h9) rfl (by decide +kernel) rfl rfl (Nat.le_of_ble_eq_true rfl) d_Mo_put_2 (fun H locs hG hS => ?_)
  obtain ⟨G1, eG1⟩ : ∃ z : zg_G, z = zg_up G a (.inr (11, [.int 0, .ref m1, .int (nI 0), .ref m3, .ref m4, .int 1, .ref m6, .ref m7, .ref m8, .ref m9, .ref m10, .ref m11, .ref m12, .int 0, .int 0, .ref m15, .int 0, .int 0, .ref m18, .null, .null])) := ⟨_, rfl⟩
  have hG : zP E G1 H := by rw [eG1]; exact hG
  have hx2 : zx (fun q => q = a) G G1 := hx0.tr (by rw [eG1]; exact zx.up (rfl))
  have k3 : G1 a = some (.inr (11, [.int 0, .ref m1, .int (nI 0), .ref m3, .ref m4, .int 1, .ref m6, .ref m7, .ref m8, .ref m9, .ref m10, .ref m11, .ref m12, .int 0, .int 0, .ref m15, .int 0, .int 0, .ref m18, .null, .null])) := by rw [eG1]; exact zg_up_self _ _ _
  have k4 : G1 m1 = some (.inl (E.2.1 0, 65536, .inl (fun _ => 0))) := by rw [eG1, zg_up_ne (zg_ne hm1 hma (by intro h; simp at h))]; exact hm1
  refine lv_iload_n hx hb d_Mo_put_5 rfl (lv_at hl 2 rfl) ?_
  refine lv_if_lt (tgt := 17) hx hb d_Mo_put_6 (by decide) (fun c6 => ?_) (fun c6 => ?_)
  · refine lv_aload_n hx hb d_Mo_put_17 rfl (lv_at hl 0 rfl) ?_
    refine lv_iconst (v := 1) hx hb d_Mo_put_18 (by decide) ?_
    have hGo19 := hG
    refine zk_i (va_runV (As := [.int 1]) (rest := []) ⟨hx, hb, hml, hown, hts⟩ (t_Mo_fail l E G1 a m1 m3 m4 m6 m7 m8 m9 m10 m11 m12 m15 m18 0 (nI 0) 1 0 0 0 0 .null .null k3 1) (zcV 1 hts w_1354 w_1356 wp_26 w_30 w_1357 (by decide +kernel) ⟨Nat.le_of_ble_eq_true rfl, Nat.le_of_ble_eq_true rfl⟩) (zc_preV hbase hK hN hQ hG hS k3 rfl) rfl rfl hl.1 rfl (lv_room (Nat.le_of_ble_eq_true rfl)) d_Mo_put_19 ⟨(by decide), (by decide)⟩) hS (fun r19 G19 H locs hp19 hG hS => ?_)
    refine zi_as (y := 0) hp19.1 ?_
    have hx5 : zx (fun q => q = a) G G19 := hx2.tr (by rw [hp19.2]; exact zx.up (rfl))
    have k6 : G19 a = some (.inr (11, [.int 1, .ref m1, .int (nI 0), .ref m3, .ref m4, .int 1, .ref m6, .ref m7, .ref m8, .ref m9, .ref m10, .ref m11, .ref m12, .int 0, .int 0, .ref m15, .int 0, .int 0, .ref m18, .null, .null])) := by rw [hp19.2]; exact zg_up_self _ _ _
    have k7 : G19 m1 = some (.inl (E.2.1 0, 65536, .inl (fun _ => 0))) := by rw [hp19.2, zg_up_ne (zg_ne k4 k3 (by intro h; simp at h))]; exact k4
    exact hret _ _ _ _ _ _ _ _ _ hr (rfl) (⟨rfl, hx5, k6⟩) hG hS (by decide) (by decide) d_Mo_put_22
  · refine lv_aload_n hx hb d_Mo_put_9 rfl (lv_at hl 0 rfl) ?_
    refine lv_iload_n hx hb d_Mo_put_10 rfl (lv_at hl 1 rfl) ?_
    refine zk_i (va_runV (As := [.int t]) (rest := []) ⟨hx, hb, hml, hown, hts⟩ (t_Mo_record_f l E G1 a m1 m3 m4 m6 m7 m8 m9 m10 m11 m12 m15 m18 rq dt 0 k3 k4 t) (zcV 1 hts w_1379 w_1381 wp_27 w_30 w_1382 (by decide +kernel) ⟨Nat.le_of_ble_eq_true rfl, Nat.le_of_ble_eq_true rfl⟩) (zc_preV hbase hK hN hQ hG hS k3 rfl) rfl rfl hl.1 rfl (lv_room (Nat.le_of_ble_eq_true rfl)) d_Mo_put_11 ⟨(by decide), (by decide)⟩) hS (fun r11 G11 H locs hp11 hG hS => ?_)
    have hG : zP E G1 H := hp11.2 ▸ hG
    refine zi_as (y := 0) hp11.1 ?_
    refine lv_if_ne (tgt := 23) hx hb d_Mo_put_14 (by decide) (fun c14 => ?_) (fun c14 => ?_)
    · have b14 : ¬ 0 = 0 := fun q => c14 ((nI_eq (a := 0) (b := 0) (by omega) (by omega)).mpr q)
      exact absurd rfl c14
    · have b14 : 0 = 0 := (nI_eq (a := 0) (b := 0) (by omega) (by omega)).mp c14
      refine lv_aload_n hx hb d_Mo_put_17 rfl (lv_at hl 0 rfl) ?_
      refine lv_iconst (v := 1) hx hb d_Mo_put_18 (by decide) ?_
      have hGo19 := hG
      refine zk_i (va_runV (As := [.int 1]) (rest := []) ⟨hx, hb, hml, hown, hts⟩ (t_Mo_fail l E G1 a m1 m3 m4 m6 m7 m8 m9 m10 m11 m12 m15 m18 0 (nI 0) 1 0 0 0 0 .null .null k3 1) (zcV 1 hts w_1354 w_1356 wp_26 w_30 w_1357 (by decide +kernel) ⟨Nat.le_of_ble_eq_true rfl, Nat.le_of_ble_eq_true rfl⟩) (zc_preV hbase hK hN hQ hG hS k3 rfl) rfl rfl hl.1 rfl (lv_room (Nat.le_of_ble_eq_true rfl)) d_Mo_put_19 ⟨(by decide), (by decide)⟩) hS (fun r19 G19 H locs hp19 hG hS => ?_)
      refine zi_as (y := 0) hp19.1 ?_
      have hx8 : zx (fun q => q = a) G G19 := hx2.tr (by rw [hp19.2]; exact zx.up (rfl))
      have k9 : G19 a = some (.inr (11, [.int 1, .ref m1, .int (nI 0), .ref m3, .ref m4, .int 1, .ref m6, .ref m7, .ref m8, .ref m9, .ref m10, .ref m11, .ref m12, .int 0, .int 0, .ref m15, .int 0, .int 0, .ref m18, .null, .null])) := by rw [hp19.2]; exact zg_up_self _ _ _
      have k10 : G19 m1 = some (.inl (E.2.1 0, 65536, .inl (fun _ => 0))) := by rw [hp19.2, zg_up_ne (zg_ne k4 k3 (by intro h; simp at h))]; exact k4
      exact hret _ _ _ _ _ _ _ _ _ hr (rfl) (⟨rfl, hx8, k9⟩) hG hS (by decide) (by decide) d_Mo_put_22
abbrev rm_Mo_take_f : Room := { frames := 4, cells := 0, slots := 0, locals := 120 }
set_option maxHeartbeats 4000000 in
set_option maxRecDepth 100000 in
/-- Mo_take, of the new reference -/
theorem t_Mo_take_f (l : Launch) (E : zc_E) (G : zg_G) (a m1 m3 m4 m6 m7 m8 m9 m10 m11 m12 m15 m18 rq dt : Nat) (hM : zMod E G a m1 m3 m4 m6 m7 m8 m9 m10 m11 m12 m15 m18 rq dt) (t : Int32) : zMi l E y_Mo_take c_Mo_take 3 (some .int) rm_Mo_take_f [.ref a, .int t] G (fun (r : Int32) (G2 : zg_G) => r = 0 ∧ zx (fun q => q = a) G G2 ∧ G2 a = some (.inr (11, [.int 1, .ref m1, .int (nI 0), .ref m3, .ref m4, .int 1, .ref m6, .ref m7, .ref m8, .ref m9, .ref m10, .ref m11, .ref m12, .int 0, .int 0, .ref m15, .int 0, .int 0, .ref m18, .null, .null]))) := by
  refine zMi.of (by decide) (Nat.le_of_ble_eq_true rfl) ?_
  intro p e s m args below meth c Q hZ hG hret ls hl
  obtain ⟨hx, hb, hr, hts, hown, hlocks, hml, hnm, hbase, hK, hN, hQ⟩ := hZ
  have hl : lv_has ls 3 [(0, .ref a), (1, .int t)] := hl
  have hS : zg_S (zc_b E) s.heap s.heap [] := va_S.rf
  obtain ⟨hma, hm1, hm3, hm4, hrq, hdt⟩ := id hM
  have hx0 : zx (fun q => q = a) G G := zx.rf
  refine lv_aload_n hx hb d_Mo_take_0 rfl (lv_at hl 0 rfl) ?_
  refine lv_iconst (v := 0) hx hb d_Mo_take_1 (by decide) ?_
  refine zg_put (ci := 11) (v := .int 0) (ty := .int) (C := "ZoneAnswersModel") (T := T_Mo) (N := 21) hx hb hts zi_Mo t_Mo t_Mo_ok n_Mo hown hK hG hS hma rfl 0 (by decide) (hts _ w_1281) (fun _ h9 => h9) rfl (by decide +kernel) rfl rfl (Nat.le_of_ble_eq_true rfl) d_Mo_take_2 (fun H locs hG hS => ?_)
  obtain ⟨G1, eG1⟩ : ∃ z : zg_G, z = zg_up G a (.inr (11, [.int 0, .ref m1, .int (nI 0), .ref m3, .ref m4, .int 1, .ref m6, .ref m7, .ref m8, .ref m9, .ref m10, .ref m11, .ref m12, .int 0, .int 0, .ref m15, .int 0, .int 0, .ref m18, .null, .null])) := ⟨_, rfl⟩
  have hG : zP E G1 H := by rw [eG1]; exact hG
  have hx2 : zx (fun q => q = a) G G1 := hx0.tr (by rw [eG1]; exact zx.up (rfl))
  have k3 : G1 a = some (.inr (11, [.int 0, .ref m1, .int (nI 0), .ref m3, .ref m4, .int 1, .ref m6, .ref m7, .ref m8, .ref m9, .ref m10, .ref m11, .ref m12, .int 0, .int 0, .ref m15, .int 0, .int 0, .ref m18, .null, .null])) := by rw [eG1]; exact zg_up_self _ _ _
  have k4 : G1 m1 = some (.inl (E.2.1 0, 65536, .inl (fun _ => 0))) := by rw [eG1, zg_up_ne (zg_ne hm1 hma (by intro h; simp at h))]; exact hm1
  refine lv_aload_n hx hb d_Mo_take_5 rfl (lv_at hl 0 rfl) ?_
  refine lv_iload_n hx hb d_Mo_take_6 rfl (lv_at hl 1 rfl) ?_
  refine zk_i (va_runV (As := [.int t]) (rest := []) ⟨hx, hb, hml, hown, hts⟩ (t_Mo_record_f l E G1 a m1 m3 m4 m6 m7 m8 m9 m10 m11 m12 m15 m18 rq dt 0 k3 k4 t) (zcV 1 hts w_1379 w_1381 wp_27 w_30 w_1382 (by decide +kernel) ⟨Nat.le_of_ble_eq_true rfl, Nat.le_of_ble_eq_true rfl⟩) (zc_preV hbase hK hN hQ hG hS k3 rfl) rfl rfl hl.1 rfl (lv_room (Nat.le_of_ble_eq_true rfl)) d_Mo_take_7 ⟨(by decide), (by decide)⟩) hS (fun r7 G7 H locs hp7 hG hS => ?_)
  have hG : zP E G1 H := hp7.2 ▸ hG
  refine zi_as (y := 0) hp7.1 ?_
  refine lv_if_ne (tgt := 19) hx hb d_Mo_take_10 (by decide) (fun c10 => ?_) (fun c10 => ?_)
  · have b10 : ¬ 0 = 0 := fun q => c10 ((nI_eq (a := 0) (b := 0) (by omega) (by omega)).mpr q)
    exact absurd rfl c10
  · have b10 : 0 = 0 := (nI_eq (a := 0) (b := 0) (by omega) (by omega)).mp c10
    refine lv_aload_n hx hb d_Mo_take_13 rfl (lv_at hl 0 rfl) ?_
    refine lv_iconst (v := 1) hx hb d_Mo_take_14 (by decide) ?_
    have hGo15 := hG
    refine zk_i (va_runV (As := [.int 1]) (rest := []) ⟨hx, hb, hml, hown, hts⟩ (t_Mo_fail l E G1 a m1 m3 m4 m6 m7 m8 m9 m10 m11 m12 m15 m18 0 (nI 0) 1 0 0 0 0 .null .null k3 1) (zcV 1 hts w_1354 w_1356 wp_26 w_30 w_1357 (by decide +kernel) ⟨Nat.le_of_ble_eq_true rfl, Nat.le_of_ble_eq_true rfl⟩) (zc_preV hbase hK hN hQ hG hS k3 rfl) rfl rfl hl.1 rfl (lv_room (Nat.le_of_ble_eq_true rfl)) d_Mo_take_15 ⟨(by decide), (by decide)⟩) hS (fun r15 G15 H locs hp15 hG hS => ?_)
    refine zi_as (y := 0) hp15.1 ?_
    have hx5 : zx (fun q => q = a) G G15 := hx2.tr (by rw [hp15.2]; exact zx.up (rfl))
    have k6 : G15 a = some (.inr (11, [.int 1, .ref m1, .int (nI 0), .ref m3, .ref m4, .int 1, .ref m6, .ref m7, .ref m8, .ref m9, .ref m10, .ref m11, .ref m12, .int 0, .int 0, .ref m15, .int 0, .int 0, .ref m18, .null, .null])) := by rw [hp15.2]; exact zg_up_self _ _ _
    have k7 : G15 m1 = some (.inl (E.2.1 0, 65536, .inl (fun _ => 0))) := by rw [hp15.2, zg_up_ne (zg_ne k4 k3 (by intro h; simp at h))]; exact k4
    exact hret _ _ _ _ _ _ _ _ _ hr (rfl) (⟨rfl, hx5, k6⟩) hG hS (by decide) (by decide) d_Mo_take_18
abbrev rm_Mo_takeAll_f : Room := { frames := 4, cells := 0, slots := 0, locals := 140 }
set_option maxHeartbeats 4000000 in
set_option maxRecDepth 100000 in
/-- Mo_takeAll, of the new reference -/
theorem t_Mo_takeAll_f (l : Launch) (E : zc_E) (G : zg_G) (a m1 m3 m4 m6 m7 m8 m9 m10 m11 m12 m15 m18 rq dt : Nat) (hM : zMod E G a m1 m3 m4 m6 m7 m8 m9 m10 m11 m12 m15 m18 rq dt) (t : Int32) : zMi l E y_Mo_takeAll c_Mo_takeAll 5 (some .int) rm_Mo_takeAll_f [.ref a, .int t] G (fun (r : Int32) (G2 : zg_G) => r = 0 ∧ zx (fun q => q = a) G G2 ∧ G2 a = some (.inr (11, [.int 1, .ref m1, .int (nI 0), .ref m3, .ref m4, .int 1, .ref m6, .ref m7, .ref m8, .ref m9, .ref m10, .ref m11, .ref m12, .int 0, .int 0, .ref m15, .int 0, .int 0, .ref m18, .null, .null]))) := by
  refine zMi.of (by decide) (Nat.le_of_ble_eq_true rfl) ?_
  intro p e s m args below meth c Q hZ hG hret ls hl
  obtain ⟨hx, hb, hr, hts, hown, hlocks, hml, hnm, hbase, hK, hN, hQ⟩ := hZ
  have hl : lv_has ls 5 [(0, .ref a), (1, .int t)] := hl
  have hS : zg_S (zc_b E) s.heap s.heap [] := va_S.rf
  obtain ⟨hma, hm1, hm3, hm4, hrq, hdt⟩ := id hM
  have hx0 : zx (fun q => q = a) G G := zx.rf
  refine lv_aload_n hx hb d_Mo_takeAll_0 rfl (lv_at hl 0 rfl) ?_
  refine lv_iconst (v := 0) hx hb d_Mo_takeAll_1 (by decide) ?_
  refine zg_put (ci := 11) (v := .int 0) (ty := .int) (C := "ZoneAnswersModel") (T := T_Mo) (N := 21) hx hb hts zi_Mo t_Mo t_Mo_ok n_Mo hown hK hG hS hma rfl 0 (by decide) (hts _ w_1281) (fun _ h9 => h9) rfl (by decide +kernel) rfl rfl (Nat.le_of_ble_eq_true rfl) d_Mo_takeAll_2 (fun H locs hG hS => ?_)
  obtain ⟨G1, eG1⟩ : ∃ z : zg_G, z = zg_up G a (.inr (11, [.int 0, .ref m1, .int (nI 0), .ref m3, .ref m4, .int 1, .ref m6, .ref m7, .ref m8, .ref m9, .ref m10, .ref m11, .ref m12, .int 0, .int 0, .ref m15, .int 0, .int 0, .ref m18, .null, .null])) := ⟨_, rfl⟩
  have hG : zP E G1 H := by rw [eG1]; exact hG
  have hx2 : zx (fun q => q = a) G G1 := hx0.tr (by rw [eG1]; exact zx.up (rfl))
  have k3 : G1 a = some (.inr (11, [.int 0, .ref m1, .int (nI 0), .ref m3, .ref m4, .int 1, .ref m6, .ref m7, .ref m8, .ref m9, .ref m10, .ref m11, .ref m12, .int 0, .int 0, .ref m15, .int 0, .int 0, .ref m18, .null, .null])) := by rw [eG1]; exact zg_up_self _ _ _
  have k4 : G1 m1 = some (.inl (E.2.1 0, 65536, .inl (fun _ => 0))) := by rw [eG1, zg_up_ne (zg_ne hm1 hma (by intro h; simp at h))]; exact hm1
  refine lv_aload_n hx hb d_Mo_takeAll_5 rfl (lv_at hl 0 rfl) ?_
  refine zk_q (va_runV (As := []) (rest := []) ⟨hx, hb, hml, hown, hts⟩ (t_Mo_whole_f l E G1 a m1 m3 m4 m6 m7 m8 m9 m10 m11 m12 m15 m18 rq dt 0 k3 k4) (zcV 0 hts w_1433 w_1435 wp_34 w_30 w_1436 (by decide +kernel) ⟨Nat.le_of_ble_eq_true rfl, Nat.le_of_ble_eq_true rfl⟩) (zc_preV hbase hK hN hQ hG hS k3 rfl) rfl rfl hl.1 rfl (lv_room (Nat.le_of_ble_eq_true rfl)) d_Mo_takeAll_6 ⟨(by decide), (by decide)⟩) hS (fun r6 G6 H locs hp6 hG hS => ?_)
  have hG : zP E G1 H := hp6.2 ▸ hG
  refine zr_none hp6.1 ?_
  refine lv_astore_nN (lv' := [(2, .null), (0, .ref a), (1, .int t)]) hx hb d_Mo_takeAll_9 rfl hl (by decide) rfl (fun ls hl => ?_)
  refine lv_aload_nN hx hb d_Mo_takeAll_10 rfl (lv_at hl 0 rfl) ?_
  refine lv_ifnullN (tgt := 39) hx hb d_Mo_takeAll_11 (by decide) ?_
  refine lv_aload_n hx hb d_Mo_takeAll_39 rfl (lv_at hl 1 rfl) ?_
  refine lv_iconst (v := 1) hx hb d_Mo_takeAll_40 (by decide) ?_
  have hGo41 := hG
  refine zk_i (va_runV (As := [.int 1]) (rest := []) ⟨hx, hb, hml, hown, hts⟩ (t_Mo_fail l E G1 a m1 m3 m4 m6 m7 m8 m9 m10 m11 m12 m15 m18 0 (nI 0) 1 0 0 0 0 .null .null k3 1) (zcV 1 hts w_1354 w_1356 wp_26 w_30 w_1357 (by decide +kernel) ⟨Nat.le_of_ble_eq_true rfl, Nat.le_of_ble_eq_true rfl⟩) (zc_preV hbase hK hN hQ hG hS k3 rfl) rfl rfl hl.1 rfl (lv_room (Nat.le_of_ble_eq_true rfl)) d_Mo_takeAll_41 ⟨(by decide), (by decide)⟩) hS (fun r41 G41 H locs hp41 hG hS => ?_)
  refine zi_as (y := 0) hp41.1 ?_
  have hx5 : zx (fun q => q = a) G G41 := hx2.tr (by rw [hp41.2]; exact zx.up (rfl))
  have k6 : G41 a = some (.inr (11, [.int 1, .ref m1, .int (nI 0), .ref m3, .ref m4, .int 1, .ref m6, .ref m7, .ref m8, .ref m9, .ref m10, .ref m11, .ref m12, .int 0, .int 0, .ref m15, .int 0, .int 0, .ref m18, .null, .null])) := by rw [hp41.2]; exact zg_up_self _ _ _
  have k7 : G41 m1 = some (.inl (E.2.1 0, 65536, .inl (fun _ => 0))) := by rw [hp41.2, zg_up_ne (zg_ne k4 k3 (by intro h; simp at h))]; exact k4
  exact hret _ _ _ _ _ _ _ _ _ hr (rfl) (⟨rfl, hx5, k6⟩) hG hS (by decide) (by decide) d_Mo_takeAll_44
abbrev rm_Mo_ask_f : Room := { frames := 4, cells := 0, slots := 0, locals := 140 }
set_option maxHeartbeats 4000000 in
set_option maxRecDepth 100000 in
/-- Mo_ask, of the new reference -/
theorem t_Mo_ask_f (l : Launch) (E : zc_E) (G : zg_G) (a m1 m3 m4 m6 m7 m8 m9 m10 m11 m12 m15 m18 rq dt : Nat) (hM : zMod E G a m1 m3 m4 m6 m7 m8 m9 m10 m11 m12 m15 m18 rq dt) (t u : Int32) : zMi l E y_Mo_ask c_Mo_ask 7 (some .int) rm_Mo_ask_f [.ref a, .int t, .int u] G (fun (r : Int32) (G2 : zg_G) => r = 0 ∧ zx (fun q => q = a) G G2 ∧ G2 a = some (.inr (11, [.int 1, .ref m1, .int (nI 0), .ref m3, .ref m4, .int 1, .ref m6, .ref m7, .ref m8, .ref m9, .ref m10, .ref m11, .ref m12, .int 0, .int 0, .ref m15, .int 0, .int 0, .ref m18, .null, .null]))) := by
  refine zMi.of (by decide) (Nat.le_of_ble_eq_true rfl) ?_
  intro p e s m args below meth c Q hZ hG hret ls hl
  obtain ⟨hx, hb, hr, hts, hown, hlocks, hml, hnm, hbase, hK, hN, hQ⟩ := hZ
  have hl : lv_has ls 7 [(0, .ref a), (1, .int t), (2, .int u)] := hl
  have hS : zg_S (zc_b E) s.heap s.heap [] := va_S.rf
  obtain ⟨hma, hm1, hm3, hm4, hrq, hdt⟩ := id hM
  have hx0 : zx (fun q => q = a) G G := zx.rf
  refine lv_aload_n hx hb d_Mo_ask_0 rfl (lv_at hl 0 rfl) ?_
  refine lv_iconst (v := 0) hx hb d_Mo_ask_1 (by decide) ?_
  refine zg_put (ci := 11) (v := .int 0) (ty := .int) (C := "ZoneAnswersModel") (T := T_Mo) (N := 21) hx hb hts zi_Mo t_Mo t_Mo_ok n_Mo hown hK hG hS hma rfl 0 (by decide) (hts _ w_1281) (fun _ h9 => h9) rfl (by decide +kernel) rfl rfl (Nat.le_of_ble_eq_true rfl) d_Mo_ask_2 (fun H locs hG hS => ?_)
  obtain ⟨G1, eG1⟩ : ∃ z : zg_G, z = zg_up G a (.inr (11, [.int 0, .ref m1, .int (nI 0), .ref m3, .ref m4, .int 1, .ref m6, .ref m7, .ref m8, .ref m9, .ref m10, .ref m11, .ref m12, .int 0, .int 0, .ref m15, .int 0, .int 0, .ref m18, .null, .null])) := ⟨_, rfl⟩
  have hG : zP E G1 H := by rw [eG1]; exact hG
  have hx2 : zx (fun q => q = a) G G1 := hx0.tr (by rw [eG1]; exact zx.up (rfl))
  have k3 : G1 a = some (.inr (11, [.int 0, .ref m1, .int (nI 0), .ref m3, .ref m4, .int 1, .ref m6, .ref m7, .ref m8, .ref m9, .ref m10, .ref m11, .ref m12, .int 0, .int 0, .ref m15, .int 0, .int 0, .ref m18, .null, .null])) := by rw [eG1]; exact zg_up_self _ _ _
  have k4 : G1 m1 = some (.inl (E.2.1 0, 65536, .inl (fun _ => 0))) := by rw [eG1, zg_up_ne (zg_ne hm1 hma (by intro h; simp at h))]; exact hm1
  refine lv_aload_n hx hb d_Mo_ask_5 rfl (lv_at hl 0 rfl) ?_
  refine zk_q (va_runV (As := []) (rest := []) ⟨hx, hb, hml, hown, hts⟩ (t_Mo_whole_f l E G1 a m1 m3 m4 m6 m7 m8 m9 m10 m11 m12 m15 m18 rq dt 0 k3 k4) (zcV 0 hts w_1433 w_1435 wp_34 w_30 w_1436 (by decide +kernel) ⟨Nat.le_of_ble_eq_true rfl, Nat.le_of_ble_eq_true rfl⟩) (zc_preV hbase hK hN hQ hG hS k3 rfl) rfl rfl hl.1 rfl (lv_room (Nat.le_of_ble_eq_true rfl)) d_Mo_ask_6 ⟨(by decide), (by decide)⟩) hS (fun r6 G6 H locs hp6 hG hS => ?_)
  have hG : zP E G1 H := hp6.2 ▸ hG
  refine zr_none hp6.1 ?_
  refine lv_astore_nN (lv' := [(3, .null), (0, .ref a), (1, .int t), (2, .int u)]) hx hb d_Mo_ask_9 rfl hl (by decide) rfl (fun ls hl => ?_)
  refine lv_aload_nN hx hb d_Mo_ask_10 rfl (lv_at hl 0 rfl) ?_
  refine lv_ifnullN (tgt := 25) hx hb d_Mo_ask_11 (by decide) ?_
  refine lv_aload_n hx hb d_Mo_ask_25 rfl (lv_at hl 1 rfl) ?_
  refine lv_iconst (v := 1) hx hb d_Mo_ask_26 (by decide) ?_
  have hGo27 := hG
  refine zk_i (va_runV (As := [.int 1]) (rest := []) ⟨hx, hb, hml, hown, hts⟩ (t_Mo_fail l E G1 a m1 m3 m4 m6 m7 m8 m9 m10 m11 m12 m15 m18 0 (nI 0) 1 0 0 0 0 .null .null k3 1) (zcV 1 hts w_1354 w_1356 wp_26 w_30 w_1357 (by decide +kernel) ⟨Nat.le_of_ble_eq_true rfl, Nat.le_of_ble_eq_true rfl⟩) (zc_preV hbase hK hN hQ hG hS k3 rfl) rfl rfl hl.1 rfl (lv_room (Nat.le_of_ble_eq_true rfl)) d_Mo_ask_27 ⟨(by decide), (by decide)⟩) hS (fun r27 G27 H locs hp27 hG hS => ?_)
  refine zi_as (y := 0) hp27.1 ?_
  have hx5 : zx (fun q => q = a) G G27 := hx2.tr (by rw [hp27.2]; exact zx.up (rfl))
  have k6 : G27 a = some (.inr (11, [.int 1, .ref m1, .int (nI 0), .ref m3, .ref m4, .int 1, .ref m6, .ref m7, .ref m8, .ref m9, .ref m10, .ref m11, .ref m12, .int 0, .int 0, .ref m15, .int 0, .int 0, .ref m18, .null, .null])) := by rw [hp27.2]; exact zg_up_self _ _ _
  have k7 : G27 m1 = some (.inl (E.2.1 0, 65536, .inl (fun _ => 0))) := by rw [hp27.2, zg_up_ne (zg_ne k4 k3 (by intro h; simp at h))]; exact k4
  exact hret _ _ _ _ _ _ _ _ _ hr (rfl) (⟨rfl, hx5, k6⟩) hG hS (by decide) (by decide) d_Mo_ask_30
abbrev rm_Mo_state_f : Room := { frames := 4, cells := 0, slots := 0, locals := 140 }
set_option maxHeartbeats 4000000 in
set_option maxRecDepth 100000 in
/-- Mo_state, of the new reference -/
theorem t_Mo_state_f (l : Launch) (E : zc_E) (G : zg_G) (a m1 m3 m4 m6 m7 m8 m9 m10 m11 m12 m15 m18 rq dt : Nat) (hM : zMod E G a m1 m3 m4 m6 m7 m8 m9 m10 m11 m12 m15 m18 rq dt)  : zMi l E y_Mo_state c_Mo_state 2 (some .int) rm_Mo_state_f [.ref a] G (fun (r : Int32) (G2 : zg_G) => r = 0 ∧ zx (fun q => q = a) G G2 ∧ G2 a = some (.inr (11, [.int 1, .ref m1, .int (nI 0), .ref m3, .ref m4, .int 1, .ref m6, .ref m7, .ref m8, .ref m9, .ref m10, .ref m11, .ref m12, .int 0, .int 0, .ref m15, .int 0, .int 0, .ref m18, .null, .null]))) := by
  refine zMi.of (by decide) (Nat.le_of_ble_eq_true rfl) ?_
  intro p e s m args below meth c Q hZ hG hret ls hl
  obtain ⟨hx, hb, hr, hts, hown, hlocks, hml, hnm, hbase, hK, hN, hQ⟩ := hZ
  have hl : lv_has ls 2 [(0, .ref a)] := hl
  have hS : zg_S (zc_b E) s.heap s.heap [] := va_S.rf
  obtain ⟨hma, hm1, hm3, hm4, hrq, hdt⟩ := id hM
  have hx0 : zx (fun q => q = a) G G := zx.rf
  refine lv_aload_n hx hb d_Mo_state_0 rfl (lv_at hl 0 rfl) ?_
  refine lv_iconst (v := 0) hx hb d_Mo_state_1 (by decide) ?_
  refine zg_put (ci := 11) (v := .int 0) (ty := .int) (C := "ZoneAnswersModel") (T := T_Mo) (N := 21) hx hb hts zi_Mo t_Mo t_Mo_ok n_Mo hown hK hG hS hma rfl 0 (by decide) (hts _ w_1281) (fun _ h9 => h9) rfl (by decide +kernel) rfl rfl (Nat.le_of_ble_eq_true rfl) d_Mo_state_2 (fun H locs hG hS => ?_)
  obtain ⟨G1, eG1⟩ : ∃ z : zg_G, z = zg_up G a (.inr (11, [.int 0, .ref m1, .int (nI 0), .ref m3, .ref m4, .int 1, .ref m6, .ref m7, .ref m8, .ref m9, .ref m10, .ref m11, .ref m12, .int 0, .int 0, .ref m15, .int 0, .int 0, .ref m18, .null, .null])) := ⟨_, rfl⟩
  have hG : zP E G1 H := by rw [eG1]; exact hG
  have hx2 : zx (fun q => q = a) G G1 := hx0.tr (by rw [eG1]; exact zx.up (rfl))
  have k3 : G1 a = some (.inr (11, [.int 0, .ref m1, .int (nI 0), .ref m3, .ref m4, .int 1, .ref m6, .ref m7, .ref m8, .ref m9, .ref m10, .ref m11, .ref m12, .int 0, .int 0, .ref m15, .int 0, .int 0, .ref m18, .null, .null])) := by rw [eG1]; exact zg_up_self _ _ _
  have k4 : G1 m1 = some (.inl (E.2.1 0, 65536, .inl (fun _ => 0))) := by rw [eG1, zg_up_ne (zg_ne hm1 hma (by intro h; simp at h))]; exact hm1
  refine lv_aload_n hx hb d_Mo_state_5 rfl (lv_at hl 0 rfl) ?_
  refine zk_q (va_runV (As := []) (rest := []) ⟨hx, hb, hml, hown, hts⟩ (t_Mo_whole_f l E G1 a m1 m3 m4 m6 m7 m8 m9 m10 m11 m12 m15 m18 rq dt 0 k3 k4) (zcV 0 hts w_1433 w_1435 wp_34 w_30 w_1436 (by decide +kernel) ⟨Nat.le_of_ble_eq_true rfl, Nat.le_of_ble_eq_true rfl⟩) (zc_preV hbase hK hN hQ hG hS k3 rfl) rfl rfl hl.1 rfl (lv_room (Nat.le_of_ble_eq_true rfl)) d_Mo_state_6 ⟨(by decide), (by decide)⟩) hS (fun r6 G6 H locs hp6 hG hS => ?_)
  have hG : zP E G1 H := hp6.2 ▸ hG
  refine zr_none hp6.1 ?_
  refine lv_astore_nN (lv' := [(1, .null), (0, .ref a)]) hx hb d_Mo_state_9 rfl hl (by decide) rfl (fun ls hl => ?_)
  refine lv_aload_nN hx hb d_Mo_state_10 rfl (lv_at hl 0 rfl) ?_
  refine lv_ifnonnullN hx hb d_Mo_state_11 ?_
  refine lv_aload_n hx hb d_Mo_state_14 rfl (lv_at hl 1 rfl) ?_
  refine lv_iconst (v := 1) hx hb d_Mo_state_15 (by decide) ?_
  have hGo16 := hG
  refine zk_i (va_runV (As := [.int 1]) (rest := []) ⟨hx, hb, hml, hown, hts⟩ (t_Mo_fail l E G1 a m1 m3 m4 m6 m7 m8 m9 m10 m11 m12 m15 m18 0 (nI 0) 1 0 0 0 0 .null .null k3 1) (zcV 1 hts w_1354 w_1356 wp_26 w_30 w_1357 (by decide +kernel) ⟨Nat.le_of_ble_eq_true rfl, Nat.le_of_ble_eq_true rfl⟩) (zc_preV hbase hK hN hQ hG hS k3 rfl) rfl rfl hl.1 rfl (lv_room (Nat.le_of_ble_eq_true rfl)) d_Mo_state_16 ⟨(by decide), (by decide)⟩) hS (fun r16 G16 H locs hp16 hG hS => ?_)
  refine zi_as (y := 0) hp16.1 ?_
  have hx5 : zx (fun q => q = a) G G16 := hx2.tr (by rw [hp16.2]; exact zx.up (rfl))
  have k6 : G16 a = some (.inr (11, [.int 1, .ref m1, .int (nI 0), .ref m3, .ref m4, .int 1, .ref m6, .ref m7, .ref m8, .ref m9, .ref m10, .ref m11, .ref m12, .int 0, .int 0, .ref m15, .int 0, .int 0, .ref m18, .null, .null])) := by rw [hp16.2]; exact zg_up_self _ _ _
  have k7 : G16 m1 = some (.inl (E.2.1 0, 65536, .inl (fun _ => 0))) := by rw [hp16.2, zg_up_ne (zg_ne k4 k3 (by intro h; simp at h))]; exact k4
  exact hret _ _ _ _ _ _ _ _ _ hr (rfl) (⟨rfl, hx5, k6⟩) hG hS (by decide) (by decide) d_Mo_state_19
abbrev rm_Mo_records_f : Room := { frames := 2, cells := 0, slots := 0, locals := 60 }
set_option maxHeartbeats 4000000 in
set_option maxRecDepth 100000 in
/-- records(y), of the new reference -/
theorem t_Mo_records_f (l : Launch) (E : zc_E) (G : zg_G) (a m1 m3 m4 m6 m7 m8 m9 m10 m11 m12 m15 m18 rq dt : Nat) (hM : zMod E G a m1 m3 m4 m6 m7 m8 m9 m10 m11 m12 m15 m18 rq dt) (y : Int32) : zMi l E y_Mo_records c_Mo_records 4 (some .int) rm_Mo_records_f [.ref a, .int y] G (fun (r : Int32) (G2 : zg_G) => r = 0 ∧ zx (fun q => q = a) G G2 ∧ (((¬ y = 1 ∧ ¬ y = 2 ∧ ¬ y = 3) ∧ G2 a = some (.inr (11, [.int 1, .ref m1, .int (nI 0), .ref m3, .ref m4, .int 1, .ref m6, .ref m7, .ref m8, .ref m9, .ref m10, .ref m11, .ref m12, .int 0, .int 0, .ref m15, .int 0, .int 0, .ref m18, .null, .null]))) ∨ ((y = 1 ∨ y = 2 ∨ y = 3) ∧ G2 a = some (.inr (11, [.int 0, .ref m1, .int (nI 0), .ref m3, .ref m4, .int 1, .ref m6, .ref m7, .ref m8, .ref m9, .ref m10, .ref m11, .ref m12, .int 0, .int 0, .ref m15, .int 0, .int 0, .ref m18, .null, .null]))))) := by
  refine zMi.of (by decide) (Nat.le_of_ble_eq_true rfl) ?_
  intro p e s m args below meth c Q hZ hG hret ls hl
  obtain ⟨hx, hb, hr, hts, hown, hlocks, hml, hnm, hbase, hK, hN, hQ⟩ := hZ
  have hl : lv_has ls 4 [(0, .ref a), (1, .int y)] := hl
  have hS : zg_S (zc_b E) s.heap s.heap [] := va_S.rf
  obtain ⟨hma, hm1, hm3, hm4, hrq, hdt⟩ := id hM
  have hx0 : zx (fun q => q = a) G G := zx.rf
  refine lv_aload_n hx hb d_Mo_records_0 rfl (lv_at hl 0 rfl) ?_
  refine lv_iconst (v := 0) hx hb d_Mo_records_1 (by decide) ?_
  refine zg_put (ci := 11) (v := .int 0) (ty := .int) (C := "ZoneAnswersModel") (T := T_Mo) (N := 21) hx hb hts zi_Mo t_Mo t_Mo_ok n_Mo hown hK hG hS hma rfl 0 (by decide) (hts _ w_1281) (fun _ h9 => h9) rfl (by decide +kernel) rfl rfl (Nat.le_of_ble_eq_true rfl) d_Mo_records_2 (fun H locs hG hS => ?_)
  obtain ⟨G1, eG1⟩ : ∃ z : zg_G, z = zg_up G a (.inr (11, [.int 0, .ref m1, .int (nI 0), .ref m3, .ref m4, .int 1, .ref m6, .ref m7, .ref m8, .ref m9, .ref m10, .ref m11, .ref m12, .int 0, .int 0, .ref m15, .int 0, .int 0, .ref m18, .null, .null])) := ⟨_, rfl⟩
  have hG : zP E G1 H := by rw [eG1]; exact hG
  have hx2 : zx (fun q => q = a) G G1 := hx0.tr (by rw [eG1]; exact zx.up (rfl))
  have k3 : G1 a = some (.inr (11, [.int 0, .ref m1, .int (nI 0), .ref m3, .ref m4, .int 1, .ref m6, .ref m7, .ref m8, .ref m9, .ref m10, .ref m11, .ref m12, .int 0, .int 0, .ref m15, .int 0, .int 0, .ref m18, .null, .null])) := by rw [eG1]; exact zg_up_self _ _ _
  refine lv_iload_n hx hb d_Mo_records_5 rfl (lv_at hl 1 rfl) ?_
  refine lv_iconst (v := 1) hx hb d_Mo_records_6 (by decide) ?_
  refine lv_icmp_lt (tgt := 15) hx hb d_Mo_records_7 (by decide) (fun c7 => ?_) (fun c7 => ?_)
  · refine lv_aload_n hx hb d_Mo_records_15 rfl (lv_at hl 0 rfl) ?_
    refine lv_iconst (v := 1) hx hb d_Mo_records_16 (by decide) ?_
    have hGo17 := hG
    refine zk_i (va_runV (As := [.int 1]) (rest := []) ⟨hx, hb, hml, hown, hts⟩ (t_Mo_fail l E G1 a m1 m3 m4 m6 m7 m8 m9 m10 m11 m12 m15 m18 0 (nI 0) 1 0 0 0 0 .null .null k3 1) (zcV 1 hts w_1354 w_1356 wp_26 w_30 w_1357 (by decide +kernel) ⟨Nat.le_of_ble_eq_true rfl, Nat.le_of_ble_eq_true rfl⟩) (zc_preV hbase hK hN hQ hG hS k3 rfl) rfl rfl hl.1 rfl (lv_room (Nat.le_of_ble_eq_true rfl)) d_Mo_records_17 ⟨(by decide), (by decide)⟩) hS (fun r17 G17 H locs hp17 hG hS => ?_)
    refine zi_as (y := 0) hp17.1 ?_
    have hx4 : zx (fun q => q = a) G G17 := hx2.tr (by rw [hp17.2]; exact zx.up (rfl))
    have k5 : G17 a = some (.inr (11, [.int 1, .ref m1, .int (nI 0), .ref m3, .ref m4, .int 1, .ref m6, .ref m7, .ref m8, .ref m9, .ref m10, .ref m11, .ref m12, .int 0, .int 0, .ref m15, .int 0, .int 0, .ref m18, .null, .null])) := by rw [hp17.2]; exact zg_up_self _ _ _
    exact hret _ _ _ _ _ _ _ _ _ hr (rfl) (⟨rfl, hx4, Or.inl ⟨zsec4 (by first | exact Or.inl c7 | exact Or.inr c12), k5⟩⟩) hG hS (by decide) (by decide) d_Mo_records_20
  · refine lv_iload_n hx hb d_Mo_records_10 rfl (lv_at hl 1 rfl) ?_
    refine lv_iconst (v := 3) hx hb d_Mo_records_11 (by decide) ?_
    refine lv_icmp_le (tgt := 21) hx hb d_Mo_records_12 (by decide) (fun c12 => ?_) (fun c12 => ?_)
    · refine lv_iconst (v := 0) hx hb d_Mo_records_21 (by decide) ?_
      refine lv_istore_n (lv' := [(2, .int 0), (0, .ref a), (1, .int y)]) hx hb d_Mo_records_22 rfl hl (by decide) rfl (fun ls hl => ?_)
      refine lv_iconst (v := 0) hx hb d_Mo_records_23 (by decide) ?_
      refine lv_istore_n (lv' := [(3, .int 0), (2, .int 0), (0, .ref a), (1, .int y)]) hx hb d_Mo_records_24 rfl hl (by decide) rfl (fun ls hl => ?_)
      refine lv_iload_n hx hb d_Mo_records_25 rfl (lv_at hl 0 rfl) ?_
      refine lv_aload_n hx hb d_Mo_records_26 rfl (lv_at hl 2 rfl) ?_
      refine zg_get (ci := 11) (C := "ZoneAnswersModel") (T := T_Mo) (N := 21) hx hb hts zi_Mo hown hK hG k3 rfl 13 (by decide) (hts _ w_1294) (fun _ h9 => h9) rfl d_Mo_records_27 ?_
      refine lv_icmp_ge (tgt := 52) hx hb d_Mo_records_30 (by decide) (fun c30 => ?_) (fun c30 => ?_)
      · have b30 : 0 ≤ 0 := (nI_leI (a := 0) (b := 0) (by omega) (by omega)).mp c30
        refine lv_iload_n hx hb d_Mo_records_52 rfl (lv_at hl 1 rfl) ?_
        exact hret _ _ _ _ _ _ _ _ _ hr (rfl) (⟨rfl, hx2, Or.inr ⟨zsec3 c7 c12, k3⟩⟩) hG hS (by decide) (by decide) d_Mo_records_53
      · have b30 : ¬ 0 ≤ 0 := fun q => c30 ((nI_leI (a := 0) (b := 0) (by omega) (by omega)).mpr q)
        exact absurd b30 (by decide)
    · refine lv_aload_n hx hb d_Mo_records_15 rfl (lv_at hl 0 rfl) ?_
      refine lv_iconst (v := 1) hx hb d_Mo_records_16 (by decide) ?_
      have hGo17 := hG
      refine zk_i (va_runV (As := [.int 1]) (rest := []) ⟨hx, hb, hml, hown, hts⟩ (t_Mo_fail l E G1 a m1 m3 m4 m6 m7 m8 m9 m10 m11 m12 m15 m18 0 (nI 0) 1 0 0 0 0 .null .null k3 1) (zcV 1 hts w_1354 w_1356 wp_26 w_30 w_1357 (by decide +kernel) ⟨Nat.le_of_ble_eq_true rfl, Nat.le_of_ble_eq_true rfl⟩) (zc_preV hbase hK hN hQ hG hS k3 rfl) rfl rfl hl.1 rfl (lv_room (Nat.le_of_ble_eq_true rfl)) d_Mo_records_17 ⟨(by decide), (by decide)⟩) hS (fun r17 G17 H locs hp17 hG hS => ?_)
      refine zi_as (y := 0) hp17.1 ?_
      have hx6 : zx (fun q => q = a) G G17 := hx2.tr (by rw [hp17.2]; exact zx.up (rfl))
      have k7 : G17 a = some (.inr (11, [.int 1, .ref m1, .int (nI 0), .ref m3, .ref m4, .int 1, .ref m6, .ref m7, .ref m8, .ref m9, .ref m10, .ref m11, .ref m12, .int 0, .int 0, .ref m15, .int 0, .int 0, .ref m18, .null, .null])) := by rw [hp17.2]; exact zg_up_self _ _ _
      exact hret _ _ _ _ _ _ _ _ _ hr (rfl) (⟨rfl, hx6, Or.inl ⟨zsec4 (by first | exact Or.inl c7 | exact Or.inr c12), k7⟩⟩) hG hS (by decide) (by decide) d_Mo_records_20
abbrev rm_Mo_place_f : Room := { frames := 1, cells := 0, slots := 0, locals := 30 }
set_option maxHeartbeats 4000000 in
set_option maxRecDepth 100000 in
/-- place(y, z), of the new reference -/
theorem t_Mo_place_f (l : Launch) (E : zc_E) (G : zg_G) (a m1 m3 m4 m6 m7 m8 m9 m10 m11 m12 m15 m18 rq dt : Nat) (th : Int32) (hma : G a = some (.inr (11, [.int th, .ref m1, .int (nI 0), .ref m3, .ref m4, .int 1, .ref m6, .ref m7, .ref m8, .ref m9, .ref m10, .ref m11, .ref m12, .int 0, .int 0, .ref m15, .int 0, .int 0, .ref m18, .null, .null]))) (y z : Int32) : zMi l E y_Mo_place c_Mo_place 5 (some .int) rm_Mo_place_f [.ref a, .int y, .int z] G (fun (r : Int32) (G2 : zg_G) => r = -1 ∧ G2 = G) := by
  refine zMi.of (by decide) (Nat.le_of_ble_eq_true rfl) ?_
  intro p e s m args below meth c Q hZ hG hret ls hl
  obtain ⟨hx, hb, hr, hts, hown, hlocks, hml, hnm, hbase, hK, hN, hQ⟩ := hZ
  have hl : lv_has ls 5 [(0, .ref a), (1, .int y), (2, .int z)] := hl
  have hS : zg_S (zc_b E) s.heap s.heap [] := va_S.rf
  refine lv_iload_n hx hb d_Mo_place_0 rfl (lv_at hl 2 rfl) ?_
  refine lv_istore_n (lv' := [(3, .int z), (0, .ref a), (1, .int y), (2, .int z)]) hx hb d_Mo_place_1 rfl hl (by decide) rfl (fun ls hl => ?_)
  refine lv_iload_n hx hb d_Mo_place_2 rfl (lv_at hl 3 rfl) ?_
  refine lv_if_lt (tgt := 16) hx hb d_Mo_place_3 (by decide) (fun c3 => ?_) (fun c3 => ?_)
  · refine lv_iconst (v := -1) hx hb d_Mo_place_16 (by decide) ?_
    exact hret _ _ _ _ _ _ _ _ _ hr (rfl) (⟨rfl, rfl⟩) hG hS (Nat.le_refl _) (Nat.le_refl _) d_Mo_place_17
  · refine lv_iload_n hx hb d_Mo_place_6 rfl (lv_at hl 2 rfl) ?_
    refine lv_iconst (v := 1) hx hb d_Mo_place_7 (by decide) ?_
    refine lv_icmp_lt (tgt := 16) hx hb d_Mo_place_8 (by decide) (fun c8 => ?_) (fun c8 => ?_)
    · refine lv_iconst (v := -1) hx hb d_Mo_place_16 (by decide) ?_
      exact hret _ _ _ _ _ _ _ _ _ hr (rfl) (⟨rfl, rfl⟩) hG hS (Nat.le_refl _) (Nat.le_refl _) d_Mo_place_17
    · refine lv_iload_n hx hb d_Mo_place_11 rfl (lv_at hl 2 rfl) ?_
      refine lv_iconst (v := 3) hx hb d_Mo_place_12 (by decide) ?_
      refine lv_icmp_le (tgt := 18) hx hb d_Mo_place_13 (by decide) (fun c13 => ?_) (fun c13 => ?_)
      · refine lv_iconst (v := 0) hx hb d_Mo_place_18 (by decide) ?_
        refine lv_istore (lv' := [(4, .int 0), (3, .int z), (0, .ref a), (1, .int y), (2, .int z)]) hx hb d_Mo_place_19 hl (by decide) rfl (fun ls hl => ?_)
        refine lv_iload hx hb d_Mo_place_21 (lv_at hl 0 rfl) ?_
        refine lv_aload_n hx hb d_Mo_place_23 rfl (lv_at hl 2 rfl) ?_
        refine zg_get (ci := 11) (C := "ZoneAnswersModel") (T := T_Mo) (N := 21) hx hb hts zi_Mo hown hK hG hma rfl 13 (by decide) (hts _ w_1294) (fun _ h9 => h9) rfl d_Mo_place_24 ?_
        refine lv_icmp_ge (tgt := 60) hx hb d_Mo_place_27 (by decide) (fun c27 => ?_) (fun c27 => ?_)
        · have b27 : 0 ≤ 0 := (nI_leI (a := 0) (b := 0) (by omega) (by omega)).mp c27
          refine lv_iconst (v := -1) hx hb d_Mo_place_60 (by decide) ?_
          exact hret _ _ _ _ _ _ _ _ _ hr (rfl) (⟨rfl, rfl⟩) hG hS (Nat.le_refl _) (Nat.le_refl _) d_Mo_place_61
        · have b27 : ¬ 0 ≤ 0 := fun q => c27 ((nI_leI (a := 0) (b := 0) (by omega) (by omega)).mpr q)
          exact absurd b27 (by decide)
      · refine lv_iconst (v := -1) hx hb d_Mo_place_16 (by decide) ?_
        exact hret _ _ _ _ _ _ _ _ _ hr (rfl) (⟨rfl, rfl⟩) hG hS (Nat.le_refl _) (Nat.le_refl _) d_Mo_place_17
abbrev rm_Mo_told_f : Room := { frames := 3, cells := 0, slots := 0, locals := 90 }
set_option maxHeartbeats 4000000 in
set_option maxRecDepth 100000 in
/-- Mo_told, of the new reference -/
theorem t_Mo_told_f (l : Launch) (E : zc_E) (G : zg_G) (a m1 m3 m4 m6 m7 m8 m9 m10 m11 m12 m15 m18 rq dt : Nat) (hM : zMod E G a m1 m3 m4 m6 m7 m8 m9 m10 m11 m12 m15 m18 rq dt) (y z u : Int32) : zMi l E y_Mo_told c_Mo_told 5 (some .int) rm_Mo_told_f [.ref a, .int y, .int z, .int u] G (fun (r : Int32) (G2 : zg_G) => r = 0 ∧ zx (fun q => q = a) G G2 ∧ G2 a = some (.inr (11, [.int 1, .ref m1, .int (nI 0), .ref m3, .ref m4, .int 1, .ref m6, .ref m7, .ref m8, .ref m9, .ref m10, .ref m11, .ref m12, .int 0, .int 0, .ref m15, .int 0, .int 0, .ref m18, .null, .null]))) := by
  refine zMi.of (by decide) (Nat.le_of_ble_eq_true rfl) ?_
  intro p e s m args below meth c Q hZ hG hret ls hl
  obtain ⟨hx, hb, hr, hts, hown, hlocks, hml, hnm, hbase, hK, hN, hQ⟩ := hZ
  have hl : lv_has ls 5 [(0, .ref a), (1, .int y), (2, .int z), (3, .int u)] := hl
  have hS : zg_S (zc_b E) s.heap s.heap [] := va_S.rf
  obtain ⟨hma, hm1, hm3, hm4, hrq, hdt⟩ := id hM
  have hx0 : zx (fun q => q = a) G G := zx.rf
  refine lv_aload_n hx hb d_Mo_told_0 rfl (lv_at hl 0 rfl) ?_
  refine lv_iconst (v := 0) hx hb d_Mo_told_1 (by decide) ?_
  refine zg_put (ci := 11) (v := .int 0) (ty := .int) (C := "ZoneAnswersModel") (T := T_Mo) (N := 21) hx hb hts zi_Mo t_Mo t_Mo_ok n_Mo hown hK hG hS hma rfl 0 (by decide) (hts _ w_1281) (fun _ h9 => h9) rfl (by decide +kernel) rfl rfl (Nat.le_of_ble_eq_true rfl) d_Mo_told_2 (fun H locs hG hS => ?_)
  obtain ⟨G1, eG1⟩ : ∃ z : zg_G, z = zg_up G a (.inr (11, [.int 0, .ref m1, .int (nI 0), .ref m3, .ref m4, .int 1, .ref m6, .ref m7, .ref m8, .ref m9, .ref m10, .ref m11, .ref m12, .int 0, .int 0, .ref m15, .int 0, .int 0, .ref m18, .null, .null])) := ⟨_, rfl⟩
  have hG : zP E G1 H := by rw [eG1]; exact hG
  have hx2 : zx (fun q => q = a) G G1 := hx0.tr (by rw [eG1]; exact zx.up (rfl))
  have k3 : G1 a = some (.inr (11, [.int 0, .ref m1, .int (nI 0), .ref m3, .ref m4, .int 1, .ref m6, .ref m7, .ref m8, .ref m9, .ref m10, .ref m11, .ref m12, .int 0, .int 0, .ref m15, .int 0, .int 0, .ref m18, .null, .null])) := by rw [eG1]; exact zg_up_self _ _ _
  refine lv_aload_n hx hb d_Mo_told_5 rfl (lv_at hl 0 rfl) ?_
  refine lv_iload_n hx hb d_Mo_told_6 rfl (lv_at hl 1 rfl) ?_
  refine lv_iload_n hx hb d_Mo_told_7 rfl (lv_at hl 2 rfl) ?_
  refine zk_i (va_runV (As := [.int y, .int z]) (rest := []) ⟨hx, hb, hml, hown, hts⟩ (t_Mo_place_f l E G1 a m1 m3 m4 m6 m7 m8 m9 m10 m11 m12 m15 m18 rq dt 0 k3 y z) (zcV 2 hts w_1584 w_1586 wp_60 w_30 w_1587 (by decide +kernel) ⟨Nat.le_of_ble_eq_true rfl, Nat.le_of_ble_eq_true rfl⟩) (zc_preV hbase hK hN hQ hG hS k3 rfl) rfl rfl hl.1 rfl (lv_room (Nat.le_of_ble_eq_true rfl)) d_Mo_told_8 ⟨(by decide), (by decide)⟩) hS (fun r8 G8 H locs hp8 hG hS => ?_)
  have hG : zP E G1 H := hp8.2 ▸ hG
  refine zi_as (y := (-1)) hp8.1 ?_
  refine lv_istore (lv' := [(4, .int (-1)), (0, .ref a), (1, .int y), (2, .int z), (3, .int u)]) hx hb d_Mo_told_11 hl (by decide) rfl (fun ls hl => ?_)
  refine lv_iload hx hb d_Mo_told_13 (lv_at hl 0 rfl) ?_
  refine lv_if_ge (tgt := 24) hx hb d_Mo_told_15 (by decide) (fun c15 => ?_) (fun c15 => ?_)
  · exact absurd c15 (by decide)
  · refine lv_aload_n hx hb d_Mo_told_18 rfl (lv_at hl 1 rfl) ?_
    refine lv_iconst (v := 1) hx hb d_Mo_told_19 (by decide) ?_
    have hGo20 := hG
    refine zk_i (va_runV (As := [.int 1]) (rest := []) ⟨hx, hb, hml, hown, hts⟩ (t_Mo_fail l E G1 a m1 m3 m4 m6 m7 m8 m9 m10 m11 m12 m15 m18 0 (nI 0) 1 0 0 0 0 .null .null k3 1) (zcV 1 hts w_1354 w_1356 wp_26 w_30 w_1357 (by decide +kernel) ⟨Nat.le_of_ble_eq_true rfl, Nat.le_of_ble_eq_true rfl⟩) (zc_preV hbase hK hN hQ hG hS k3 rfl) rfl rfl hl.1 rfl (lv_room (Nat.le_of_ble_eq_true rfl)) d_Mo_told_20 ⟨(by decide), (by decide)⟩) hS (fun r20 G20 H locs hp20 hG hS => ?_)
    refine zi_as (y := 0) hp20.1 ?_
    have hx4 : zx (fun q => q = a) G G20 := hx2.tr (by rw [hp20.2]; exact zx.up (rfl))
    have k5 : G20 a = some (.inr (11, [.int 1, .ref m1, .int (nI 0), .ref m3, .ref m4, .int 1, .ref m6, .ref m7, .ref m8, .ref m9, .ref m10, .ref m11, .ref m12, .int 0, .int 0, .ref m15, .int 0, .int 0, .ref m18, .null, .null])) := by rw [hp20.2]; exact zg_up_self _ _ _
    exact hret _ _ _ _ _ _ _ _ _ hr (rfl) (⟨rfl, hx4, k5⟩) hG hS (by decide) (by decide) d_Mo_told_23
abbrev rm_Mo_byteOf_f : Room := { frames := 3, cells := 0, slots := 0, locals := 90 }
set_option maxHeartbeats 4000000 in
set_option maxRecDepth 100000 in
/-- Mo_byteOf, of the new reference -/
theorem t_Mo_byteOf_f (l : Launch) (E : zc_E) (G : zg_G) (a m1 m3 m4 m6 m7 m8 m9 m10 m11 m12 m15 m18 rq dt : Nat) (hM : zMod E G a m1 m3 m4 m6 m7 m8 m9 m10 m11 m12 m15 m18 rq dt) (y z u : Int32) : zMi l E y_Mo_byteOf c_Mo_byteOf 6 (some .int) rm_Mo_byteOf_f [.ref a, .int y, .int z, .int u] G (fun (r : Int32) (G2 : zg_G) => r = 0 ∧ zx (fun q => q = a) G G2 ∧ G2 a = some (.inr (11, [.int 1, .ref m1, .int (nI 0), .ref m3, .ref m4, .int 1, .ref m6, .ref m7, .ref m8, .ref m9, .ref m10, .ref m11, .ref m12, .int 0, .int 0, .ref m15, .int 0, .int 0, .ref m18, .null, .null]))) := by
  refine zMi.of (by decide) (Nat.le_of_ble_eq_true rfl) ?_
  intro p e s m args below meth c Q hZ hG hret ls hl
  obtain ⟨hx, hb, hr, hts, hown, hlocks, hml, hnm, hbase, hK, hN, hQ⟩ := hZ
  have hl : lv_has ls 6 [(0, .ref a), (1, .int y), (2, .int z), (3, .int u)] := hl
  have hS : zg_S (zc_b E) s.heap s.heap [] := va_S.rf
  obtain ⟨hma, hm1, hm3, hm4, hrq, hdt⟩ := id hM
  have hx0 : zx (fun q => q = a) G G := zx.rf
  refine lv_aload_n hx hb d_Mo_byteOf_0 rfl (lv_at hl 0 rfl) ?_
  refine lv_iconst (v := 0) hx hb d_Mo_byteOf_1 (by decide) ?_
  refine zg_put (ci := 11) (v := .int 0) (ty := .int) (C := "ZoneAnswersModel") (T := T_Mo) (N := 21) hx hb hts zi_Mo t_Mo t_Mo_ok n_Mo hown hK hG hS hma rfl 0 (by decide) (hts _ w_1281) (fun _ h9 => h9) rfl (by decide +kernel) rfl rfl (Nat.le_of_ble_eq_true rfl) d_Mo_byteOf_2 (fun H locs hG hS => ?_)
  obtain ⟨G1, eG1⟩ : ∃ z : zg_G, z = zg_up G a (.inr (11, [.int 0, .ref m1, .int (nI 0), .ref m3, .ref m4, .int 1, .ref m6, .ref m7, .ref m8, .ref m9, .ref m10, .ref m11, .ref m12, .int 0, .int 0, .ref m15, .int 0, .int 0, .ref m18, .null, .null])) := ⟨_, rfl⟩
  have hG : zP E G1 H := by rw [eG1]; exact hG
  have hx2 : zx (fun q => q = a) G G1 := hx0.tr (by rw [eG1]; exact zx.up (rfl))
  have k3 : G1 a = some (.inr (11, [.int 0, .ref m1, .int (nI 0), .ref m3, .ref m4, .int 1, .ref m6, .ref m7, .ref m8, .ref m9, .ref m10, .ref m11, .ref m12, .int 0, .int 0, .ref m15, .int 0, .int 0, .ref m18, .null, .null])) := by rw [eG1]; exact zg_up_self _ _ _
  refine lv_aload_n hx hb d_Mo_byteOf_5 rfl (lv_at hl 0 rfl) ?_
  refine lv_iload_n hx hb d_Mo_byteOf_6 rfl (lv_at hl 1 rfl) ?_
  refine lv_iload_n hx hb d_Mo_byteOf_7 rfl (lv_at hl 2 rfl) ?_
  refine zk_i (va_runV (As := [.int y, .int z]) (rest := []) ⟨hx, hb, hml, hown, hts⟩ (t_Mo_place_f l E G1 a m1 m3 m4 m6 m7 m8 m9 m10 m11 m12 m15 m18 rq dt 0 k3 y z) (zcV 2 hts w_1584 w_1586 wp_60 w_30 w_1587 (by decide +kernel) ⟨Nat.le_of_ble_eq_true rfl, Nat.le_of_ble_eq_true rfl⟩) (zc_preV hbase hK hN hQ hG hS k3 rfl) rfl rfl hl.1 rfl (lv_room (Nat.le_of_ble_eq_true rfl)) d_Mo_byteOf_8 ⟨(by decide), (by decide)⟩) hS (fun r8 G8 H locs hp8 hG hS => ?_)
  have hG : zP E G1 H := hp8.2 ▸ hG
  refine zi_as (y := (-1)) hp8.1 ?_
  refine lv_istore (lv' := [(4, .int (-1)), (0, .ref a), (1, .int y), (2, .int z), (3, .int u)]) hx hb d_Mo_byteOf_11 hl (by decide) rfl (fun ls hl => ?_)
  refine lv_iload hx hb d_Mo_byteOf_13 (lv_at hl 0 rfl) ?_
  refine lv_if_ge (tgt := 24) hx hb d_Mo_byteOf_15 (by decide) (fun c15 => ?_) (fun c15 => ?_)
  · exact absurd c15 (by decide)
  · refine lv_aload_n hx hb d_Mo_byteOf_18 rfl (lv_at hl 1 rfl) ?_
    refine lv_iconst (v := 1) hx hb d_Mo_byteOf_19 (by decide) ?_
    have hGo20 := hG
    refine zk_i (va_runV (As := [.int 1]) (rest := []) ⟨hx, hb, hml, hown, hts⟩ (t_Mo_fail l E G1 a m1 m3 m4 m6 m7 m8 m9 m10 m11 m12 m15 m18 0 (nI 0) 1 0 0 0 0 .null .null k3 1) (zcV 1 hts w_1354 w_1356 wp_26 w_30 w_1357 (by decide +kernel) ⟨Nat.le_of_ble_eq_true rfl, Nat.le_of_ble_eq_true rfl⟩) (zc_preV hbase hK hN hQ hG hS k3 rfl) rfl rfl hl.1 rfl (lv_room (Nat.le_of_ble_eq_true rfl)) d_Mo_byteOf_20 ⟨(by decide), (by decide)⟩) hS (fun r20 G20 H locs hp20 hG hS => ?_)
    refine zi_as (y := 0) hp20.1 ?_
    have hx4 : zx (fun q => q = a) G G20 := hx2.tr (by rw [hp20.2]; exact zx.up (rfl))
    have k5 : G20 a = some (.inr (11, [.int 1, .ref m1, .int (nI 0), .ref m3, .ref m4, .int 1, .ref m6, .ref m7, .ref m8, .ref m9, .ref m10, .ref m11, .ref m12, .int 0, .int 0, .ref m15, .int 0, .int 0, .ref m18, .null, .null])) := by rw [hp20.2]; exact zg_up_self _ _ _
    exact hret _ _ _ _ _ _ _ _ _ hr (rfl) (⟨rfl, hx4, k5⟩) hG hS (by decide) (by decide) d_Mo_byteOf_23
abbrev rm_Mo_four : Room := { frames := 0, cells := 0, slots := 0, locals := 0 }
set_option maxHeartbeats 4000000 in
set_option maxRecDepth 100000 in
/-- four(b, at), of the reference -/
theorem t_Mo_four (l : Launch) (E : zc_E) (G : zg_G) (b0 n0 : Nat) (f0 : Nat → Int32) (h0 : G b0 = some (.inl (E.2.1 0, n0, .inl f0))) (hft : sb_Fit f0) (hn0 : n0 < 2 ^ 24) (at0 : Nat) (hat : at0 + 4 ≤ n0) : zMl l E y_Mo_four c_Mo_four 5 (some .long) rm_Mo_four [.ref b0, .int (nI at0)] G (fun (r : Int64) (G2 : zg_G) => r = zl4 f0 at0 ∧ G2 = G) := by
  refine zMl.of (by decide) (Nat.le_of_ble_eq_true rfl) ?_
  intro p e s m args below meth c Q hZ hG hret ls hl
  obtain ⟨hx, hb, hr, hts, hown, hlocks, hml, hnm, hbase, hK, hN, hQ⟩ := hZ
  have hl : lv_has ls 5 [(0, .ref b0), (1, .int (nI at0))] := hl
  have hS : zg_S (zc_b E) s.heap s.heap [] := va_S.rf
  refine lv_lconst (v := 0) hx hb d_Mo_four_0 (by decide) ?_
  refine lv_lstore_n (lv' := [(2, .long 0), (0, .ref b0), (1, .int (nI at0))]) hx hb d_Mo_four_1 rfl hl (by decide) rfl (fun ls hl => ?_)
  refine lv_iconst (v := 0) hx hb d_Mo_four_2 (by decide) ?_
  refine lv_istore (lv' := [(4, .int 0), (2, .long 0), (0, .ref b0), (1, .int (nI at0))]) hx hb d_Mo_four_3 hl (by decide) rfl (fun ls hl => ?_)
  refine lv_iload hx hb d_Mo_four_5 (lv_at hl 0 rfl) ?_
  refine lv_iconst (v := 4) hx hb d_Mo_four_7 (by decide) ?_
  refine lv_icmp_ge (tgt := 34) hx hb d_Mo_four_8 (by decide) (fun c8 => ?_) (fun c8 => ?_)
  · have b8 : 4 ≤ 0 := (nI_leI (a := 4) (b := 0) (by omega) (by omega)).mp c8
    exact absurd b8 (by decide)
  · have b8 : ¬ 4 ≤ 0 := fun q => c8 ((nI_leI (a := 4) (b := 0) (by omega) (by omega)).mpr q)
    refine lv_lload_n hx hb d_Mo_four_11 rfl (lv_at hl 1 rfl) ?_
    refine lv_bipush (v := 8) hx hb d_Mo_four_12 (by decide) ?_
    refine lv_lshl hx hb d_Mo_four_14 rfl ?_
    refine lv_aload_n hx hb d_Mo_four_15 rfl (lv_at hl 2 rfl) ?_
    refine lv_iload_n hx hb d_Mo_four_16 rfl (lv_at hl 3 rfl) ?_
    refine lv_iload hx hb d_Mo_four_17 (lv_at hl 0 rfl) ?_
    refine lv_iadd hx hb d_Mo_four_19 ?_
    refine zi_as (y := nI (at0 + 0)) (nI_add at0 0) ?_
    refine zg_bald hx hb hK hG 0 h0 rfl (vp_in_nI (by omega) (by omega)) d_Mo_four_20 ?_
    refine zi_as (y := f0 (at0 + 0)) (by rw [zi_n _ (by omega)]) ?_
    refine lv_sipush (v := 255) hx hb d_Mo_four_21 (by decide) ?_
    refine lv_iand hx hb d_Mo_four_24 ?_
    refine lv_i2l hx hb d_Mo_four_25 rfl ?_
    refine lv_lor hx hb d_Mo_four_26 ?_
    refine lv_lstore_n (lv' := [(2, .long ((0 <<< ((8 : Int32).toInt64 &&& 63)) ||| (((f0 (at0 + 0)) &&& 255).toInt64))), (4, .int 0), (0, .ref b0), (1, .int (nI at0))]) hx hb d_Mo_four_27 rfl hl (by decide) rfl (fun ls hl => ?_)
    refine lv_iinc (v := nI (0 + 1)) (lv' := [(4, .int (nI (0 + 1))), (2, .long ((0 <<< ((8 : Int32).toInt64 &&& 63)) ||| (((f0 (at0 + 0)) &&& 255).toInt64))), (0, .ref b0), (1, .int (nI at0))]) hx hb d_Mo_four_28 hl (k := 1) rfl (nI_add 0 1) (by decide) rfl (fun ls hl => ?_)
    refine lv_goto (tgt := 5) hx hb d_Mo_four_31 (by decide) ?_
    refine lv_iload hx hb d_Mo_four_5 (lv_at hl 0 rfl) ?_
    refine lv_iconst (v := 4) hx hb d_Mo_four_7 (by decide) ?_
    refine lv_icmp_ge (tgt := 34) hx hb d_Mo_four_8 (by decide) (fun c8 => ?_) (fun c8 => ?_)
    · have b8 : 4 ≤ (0 + 1) := (nI_leI (a := 4) (b := (0 + 1)) (by omega) (by omega)).mp c8
      exact absurd b8 (by decide)
    · have b8 : ¬ 4 ≤ (0 + 1) := fun q => c8 ((nI_leI (a := 4) (b := (0 + 1)) (by omega) (by omega)).mpr q)
      refine lv_lload_n hx hb d_Mo_four_11 rfl (lv_at hl 1 rfl) ?_
      refine lv_bipush (v := 8) hx hb d_Mo_four_12 (by decide) ?_
      refine lv_lshl hx hb d_Mo_four_14 rfl ?_
      refine lv_aload_n hx hb d_Mo_four_15 rfl (lv_at hl 2 rfl) ?_
      refine lv_iload_n hx hb d_Mo_four_16 rfl (lv_at hl 3 rfl) ?_
      refine lv_iload hx hb d_Mo_four_17 (lv_at hl 0 rfl) ?_
      refine lv_iadd hx hb d_Mo_four_19 ?_
      refine zi_as (y := nI (at0 + (0 + 1))) (nI_add at0 (0 + 1)) ?_
      refine zg_bald hx hb hK hG 0 h0 rfl (vp_in_nI (by omega) (by omega)) d_Mo_four_20 ?_
      refine zi_as (y := f0 (at0 + (0 + 1))) (by rw [zi_n _ (by omega)]) ?_
      refine lv_sipush (v := 255) hx hb d_Mo_four_21 (by decide) ?_
      refine lv_iand hx hb d_Mo_four_24 ?_
      refine lv_i2l hx hb d_Mo_four_25 rfl ?_
      refine lv_lor hx hb d_Mo_four_26 ?_
      refine lv_lstore_n (lv' := [(2, .long ((((0 <<< ((8 : Int32).toInt64 &&& 63)) ||| (((f0 (at0 + 0)) &&& 255).toInt64)) <<< ((8 : Int32).toInt64 &&& 63)) ||| (((f0 (at0 + (0 + 1))) &&& 255).toInt64))), (4, .int (nI (0 + 1))), (0, .ref b0), (1, .int (nI at0))]) hx hb d_Mo_four_27 rfl hl (by decide) rfl (fun ls hl => ?_)
      refine lv_iinc (v := nI (0 + 1 + 1)) (lv' := [(4, .int (nI (0 + 1 + 1))), (2, .long ((((0 <<< ((8 : Int32).toInt64 &&& 63)) ||| (((f0 (at0 + 0)) &&& 255).toInt64)) <<< ((8 : Int32).toInt64 &&& 63)) ||| (((f0 (at0 + (0 + 1))) &&& 255).toInt64))), (0, .ref b0), (1, .int (nI at0))]) hx hb d_Mo_four_28 hl (k := 1) rfl (nI_add (0 + 1) 1) (by decide) rfl (fun ls hl => ?_)
      refine lv_goto (tgt := 5) hx hb d_Mo_four_31 (by decide) ?_
      refine lv_iload hx hb d_Mo_four_5 (lv_at hl 0 rfl) ?_
      refine lv_iconst (v := 4) hx hb d_Mo_four_7 (by decide) ?_
      refine lv_icmp_ge (tgt := 34) hx hb d_Mo_four_8 (by decide) (fun c8 => ?_) (fun c8 => ?_)
      · have b8 : 4 ≤ (0 + 1 + 1) := (nI_leI (a := 4) (b := (0 + 1 + 1)) (by omega) (by omega)).mp c8
        exact absurd b8 (by decide)
      · have b8 : ¬ 4 ≤ (0 + 1 + 1) := fun q => c8 ((nI_leI (a := 4) (b := (0 + 1 + 1)) (by omega) (by omega)).mpr q)
        refine lv_lload_n hx hb d_Mo_four_11 rfl (lv_at hl 1 rfl) ?_
        refine lv_bipush (v := 8) hx hb d_Mo_four_12 (by decide) ?_
        refine lv_lshl hx hb d_Mo_four_14 rfl ?_
        refine lv_aload_n hx hb d_Mo_four_15 rfl (lv_at hl 2 rfl) ?_
        refine lv_iload_n hx hb d_Mo_four_16 rfl (lv_at hl 3 rfl) ?_
        refine lv_iload hx hb d_Mo_four_17 (lv_at hl 0 rfl) ?_
        refine lv_iadd hx hb d_Mo_four_19 ?_
        refine zi_as (y := nI (at0 + (0 + 1 + 1))) (nI_add at0 (0 + 1 + 1)) ?_
        refine zg_bald hx hb hK hG 0 h0 rfl (vp_in_nI (by omega) (by omega)) d_Mo_four_20 ?_
        refine zi_as (y := f0 (at0 + (0 + 1 + 1))) (by rw [zi_n _ (by omega)]) ?_
        refine lv_sipush (v := 255) hx hb d_Mo_four_21 (by decide) ?_
        refine lv_iand hx hb d_Mo_four_24 ?_
        refine lv_i2l hx hb d_Mo_four_25 rfl ?_
        refine lv_lor hx hb d_Mo_four_26 ?_
        refine lv_lstore_n (lv' := [(2, .long ((((((0 <<< ((8 : Int32).toInt64 &&& 63)) ||| (((f0 (at0 + 0)) &&& 255).toInt64)) <<< ((8 : Int32).toInt64 &&& 63)) ||| (((f0 (at0 + (0 + 1))) &&& 255).toInt64)) <<< ((8 : Int32).toInt64 &&& 63)) ||| (((f0 (at0 + (0 + 1 + 1))) &&& 255).toInt64))), (4, .int (nI (0 + 1 + 1))), (0, .ref b0), (1, .int (nI at0))]) hx hb d_Mo_four_27 rfl hl (by decide) rfl (fun ls hl => ?_)
        refine lv_iinc (v := nI (0 + 1 + 1 + 1)) (lv' := [(4, .int (nI (0 + 1 + 1 + 1))), (2, .long ((((((0 <<< ((8 : Int32).toInt64 &&& 63)) ||| (((f0 (at0 + 0)) &&& 255).toInt64)) <<< ((8 : Int32).toInt64 &&& 63)) ||| (((f0 (at0 + (0 + 1))) &&& 255).toInt64)) <<< ((8 : Int32).toInt64 &&& 63)) ||| (((f0 (at0 + (0 + 1 + 1))) &&& 255).toInt64))), (0, .ref b0), (1, .int (nI at0))]) hx hb d_Mo_four_28 hl (k := 1) rfl (nI_add (0 + 1 + 1) 1) (by decide) rfl (fun ls hl => ?_)
        refine lv_goto (tgt := 5) hx hb d_Mo_four_31 (by decide) ?_
        refine lv_iload hx hb d_Mo_four_5 (lv_at hl 0 rfl) ?_
        refine lv_iconst (v := 4) hx hb d_Mo_four_7 (by decide) ?_
        refine lv_icmp_ge (tgt := 34) hx hb d_Mo_four_8 (by decide) (fun c8 => ?_) (fun c8 => ?_)
        · have b8 : 4 ≤ (0 + 1 + 1 + 1) := (nI_leI (a := 4) (b := (0 + 1 + 1 + 1)) (by omega) (by omega)).mp c8
          exact absurd b8 (by decide)
        · have b8 : ¬ 4 ≤ (0 + 1 + 1 + 1) := fun q => c8 ((nI_leI (a := 4) (b := (0 + 1 + 1 + 1)) (by omega) (by omega)).mpr q)
          refine lv_lload_n hx hb d_Mo_four_11 rfl (lv_at hl 1 rfl) ?_
          refine lv_bipush (v := 8) hx hb d_Mo_four_12 (by decide) ?_
          refine lv_lshl hx hb d_Mo_four_14 rfl ?_
          refine lv_aload_n hx hb d_Mo_four_15 rfl (lv_at hl 2 rfl) ?_
          refine lv_iload_n hx hb d_Mo_four_16 rfl (lv_at hl 3 rfl) ?_
          refine lv_iload hx hb d_Mo_four_17 (lv_at hl 0 rfl) ?_
          refine lv_iadd hx hb d_Mo_four_19 ?_
          refine zi_as (y := nI (at0 + (0 + 1 + 1 + 1))) (nI_add at0 (0 + 1 + 1 + 1)) ?_
          refine zg_bald hx hb hK hG 0 h0 rfl (vp_in_nI (by omega) (by omega)) d_Mo_four_20 ?_
          refine zi_as (y := f0 (at0 + (0 + 1 + 1 + 1))) (by rw [zi_n _ (by omega)]) ?_
          refine lv_sipush (v := 255) hx hb d_Mo_four_21 (by decide) ?_
          refine lv_iand hx hb d_Mo_four_24 ?_
          refine lv_i2l hx hb d_Mo_four_25 rfl ?_
          refine lv_lor hx hb d_Mo_four_26 ?_
          refine lv_lstore_n (lv' := [(2, .long ((((((((0 <<< ((8 : Int32).toInt64 &&& 63)) ||| (((f0 (at0 + 0)) &&& 255).toInt64)) <<< ((8 : Int32).toInt64 &&& 63)) ||| (((f0 (at0 + (0 + 1))) &&& 255).toInt64)) <<< ((8 : Int32).toInt64 &&& 63)) ||| (((f0 (at0 + (0 + 1 + 1))) &&& 255).toInt64)) <<< ((8 : Int32).toInt64 &&& 63)) ||| (((f0 (at0 + (0 + 1 + 1 + 1))) &&& 255).toInt64))), (4, .int (nI (0 + 1 + 1 + 1))), (0, .ref b0), (1, .int (nI at0))]) hx hb d_Mo_four_27 rfl hl (by decide) rfl (fun ls hl => ?_)
          refine lv_iinc (v := nI (0 + 1 + 1 + 1 + 1)) (lv' := [(4, .int (nI (0 + 1 + 1 + 1 + 1))), (2, .long ((((((((0 <<< ((8 : Int32).toInt64 &&& 63)) ||| (((f0 (at0 + 0)) &&& 255).toInt64)) <<< ((8 : Int32).toInt64 &&& 63)) ||| (((f0 (at0 + (0 + 1))) &&& 255).toInt64)) <<< ((8 : Int32).toInt64 &&& 63)) ||| (((f0 (at0 + (0 + 1 + 1))) &&& 255).toInt64)) <<< ((8 : Int32).toInt64 &&& 63)) ||| (((f0 (at0 + (0 + 1 + 1 + 1))) &&& 255).toInt64))), (0, .ref b0), (1, .int (nI at0))]) hx hb d_Mo_four_28 hl (k := 1) rfl (nI_add (0 + 1 + 1 + 1) 1) (by decide) rfl (fun ls hl => ?_)
          refine lv_goto (tgt := 5) hx hb d_Mo_four_31 (by decide) ?_
          refine lv_iload hx hb d_Mo_four_5 (lv_at hl 0 rfl) ?_
          refine lv_iconst (v := 4) hx hb d_Mo_four_7 (by decide) ?_
          refine lv_icmp_ge (tgt := 34) hx hb d_Mo_four_8 (by decide) (fun c8 => ?_) (fun c8 => ?_)
          · have b8 : 4 ≤ (0 + 1 + 1 + 1 + 1) := (nI_leI (a := 4) (b := (0 + 1 + 1 + 1 + 1)) (by omega) (by omega)).mp c8
            refine lv_lload_n hx hb d_Mo_four_34 rfl (lv_at hl 1 rfl) ?_
            exact hret _ _ _ _ _ _ _ _ hr (⟨rfl, rfl⟩) hG hS (Nat.le_refl _) (Nat.le_refl _) d_Mo_four_35
          · have b8 : ¬ 4 ≤ (0 + 1 + 1 + 1 + 1) := fun q => c8 ((nI_leI (a := 4) (b := (0 + 1 + 1 + 1 + 1)) (by omega) (by omega)).mpr q)
            exact absurd b8 (by decide)
abbrev rm_Mo_numbers_f : Room := { frames := 1, cells := 0, slots := 0, locals := 40 }
set_option maxHeartbeats 4000000 in
set_option maxRecDepth 100000 in
/-- numbers(), of the new reference -/
theorem t_Mo_numbers_f (l : Launch) (E : zc_E) (G : zg_G) (a m1 m3 m4 m6 m7 m8 m9 m10 m11 m12 m15 m18 rq dt : Nat) (th : Int32) (hma : G a = some (.inr (11, [.int th, .ref m1, .int (nI 0), .ref m3, .ref m4, .int 1, .ref m6, .ref m7, .ref m8, .ref m9, .ref m10, .ref m11, .ref m12, .int 0, .int 0, .ref m15, .int 0, .int 0, .ref m18, .null, .null]))) (hm4 : G m4 = some (.inl (E.2.1 4, 2000, .inr (.inr (.inr (.inr (va_up (fun _ => none) 0 (some rq)))))))) (hrq : G rq = some (.inr (12, [.ref m3, .ref dt, .null, .int 6, .int 0]))) (hdt : G dt = some (.inl (E.2.1 0, 22, .inl (upd (fun _ => 0) 5 (vp_nar .byte 1))))) : zMi l E y_Mo_numbers c_Mo_numbers 2 (some .int) rm_Mo_numbers_f [.ref a] G (fun (r : Int32) (G2 : zg_G) => r = nI 2 ∧ G2 = G) := by
  refine zMi.of (by decide) (Nat.le_of_ble_eq_true rfl) ?_
  intro p e s m args below meth c Q hZ hG hret ls hl
  obtain ⟨hx, hb, hr, hts, hown, hlocks, hml, hnm, hbase, hK, hN, hQ⟩ := hZ
  have hl : lv_has ls 2 [(0, .ref a)] := hl
  have hS : zg_S (zc_b E) s.heap s.heap [] := va_S.rf
  refine lv_aload_n hx hb d_Mo_numbers_0 rfl (lv_at hl 0 rfl) ?_
  refine zg_get (ci := 11) (C := "ZoneAnswersModel") (T := T_Mo) (N := 21) hx hb hts zi_Mo hown hK hG hma rfl 4 (by decide) (hts _ w_1285) (fun _ h9 => h9) rfl d_Mo_numbers_1 ?_
  refine lv_iconst (v := 0) hx hb d_Mo_numbers_4 (by decide) ?_
  refine zi_as (y := nI 0) (nI_0.symm) ?_
  refine zg_aldq hx hb hK hG 4 hm4 rfl (vp_in_nI (by omega) (by omega)) d_Mo_numbers_5 ?_
  refine zr_as (y := (va_up (fun _ => none) 0 (some rq)) 0) (by rw [zi_n _ (by omega)]) ?_
  refine zr_some (a := rq) (by first | rfl | simp [va_up]) ?_
  refine zg_get (ci := 12) (C := "ZoneAnswersModel$Rec") (T := T_Re) (N := 5) hx hb hts zi_Re hown hK hG hrq rfl 1 (by decide) (hts _ w_1266) (fun _ h9 => h9) rfl d_Mo_numbers_6 ?_
  refine lv_astore_n (lv' := [(1, .ref dt), (0, .ref a)]) hx hb d_Mo_numbers_9 rfl hl (by decide) rfl (fun ls hl => ?_)
  refine lv_aload_n hx hb d_Mo_numbers_10 rfl (lv_at hl 0 rfl) ?_
  refine lv_aload_n hx hb d_Mo_numbers_11 rfl (lv_at hl 0 rfl) ?_
  refine lv_iconst (v := 0) hx hb d_Mo_numbers_12 (by decide) ?_
  refine zi_as (y := nI 0) (nI_0.symm) ?_
  refine lv_aload_n hx hb d_Mo_numbers_13 rfl (lv_at hl 0 rfl) ?_
  refine zg_alen hx hb hK hG 0 hdt rfl (v := nI 22) rfl d_Mo_numbers_14 ?_
  have hGo15 := hG
  refine zk_i (va_runS (As := [.ref dt, .int (nI 0), .int (nI 22)]) (rest := [.ref dt]) ⟨hx, hb, hml, hown, hts⟩ (t_Ns_end l E G dt 22 (upd (fun _ => 0) 5 (vp_nar .byte 1)) hdt (zf_fitu zf_fit0) (by decide) 0 22 (by decide) (by decide)) (zcS 3 hts w_1366 w_1367 w_33 w_1368 (by decide +kernel) ⟨Nat.le_of_ble_eq_true rfl, Nat.le_of_ble_eq_true rfl⟩) (zc_pre hbase hK hN hQ hG hS) rfl rfl hl.1 rfl (lv_room (Nat.le_of_ble_eq_true rfl)) d_Mo_numbers_15 ⟨(by decide), (by decide)⟩) hS (fun r15 G15 H locs hp15 hG hS => ?_)
  have hG : zP E G H := hp15.2 ▸ hG
  refine zi_as (y := nI 1) (zE_root hp15.1 (by decide) (by decide)) ?_
  refine lv_aload_n hx hb d_Mo_numbers_18 rfl (lv_at hl 0 rfl) ?_
  refine zg_alen hx hb hK hG 0 hdt rfl (v := nI 22) rfl d_Mo_numbers_19 ?_
  have hGo20 := hG
  refine zk_i (va_runS (As := [.ref dt, .int (nI 1), .int (nI 22)]) (rest := []) ⟨hx, hb, hml, hown, hts⟩ (t_Ns_end l E G dt 22 (upd (fun _ => 0) 5 (vp_nar .byte 1)) hdt (zf_fitu zf_fit0) (by decide) 1 22 (by decide) (by decide)) (zcS 3 hts w_1366 w_1367 w_33 w_1368 (by decide +kernel) ⟨Nat.le_of_ble_eq_true rfl, Nat.le_of_ble_eq_true rfl⟩) (zc_pre hbase hK hN hQ hG hS) rfl rfl hl.1 rfl (lv_room (Nat.le_of_ble_eq_true rfl)) d_Mo_numbers_20 ⟨(by decide), (by decide)⟩) hS (fun r20 G20 H locs hp20 hG hS => ?_)
  have hG : zP E G H := hp20.2 ▸ hG
  refine zi_as (y := nI 2) (zE_root hp20.1 (by decide) (by decide)) ?_
  exact hret _ _ _ _ _ _ _ _ _ hr (rfl) (⟨rfl, rfl⟩) hG hS (Nat.le_refl _) (Nat.le_refl _) d_Mo_numbers_23
abbrev rm_Mo_cutOver_f : Room := { frames := 4, cells := 0, slots := 0, locals := 100 }
set_option maxHeartbeats 4000000 in
set_option maxRecDepth 100000 in
/-- cutOver(root), of the new reference -/
theorem t_Mo_cutOver_f (l : Launch) (E : zc_E) (G : zg_G) (a m1 m3 m4 m6 m7 m8 m9 m10 m11 m12 m15 m18 rq dt : Nat) (th : Int32) (hma : G a = some (.inr (11, [.int th, .ref m1, .int (nI 0), .ref m3, .ref m4, .int 1, .ref m6, .ref m7, .ref m8, .ref m9, .ref m10, .ref m11, .ref m12, .int 0, .int 0, .ref m15, .int 0, .int 0, .ref m18, .null, .null]))) (hm3 : G m3 = some (.inl (E.2.1 0, 1, .inl (fun _ => 0)))) : zMi l E y_Mo_cutOver c_Mo_cutOver 4 (some .int) rm_Mo_cutOver_f [.ref a, .ref m3] G (fun (r : Int32) (G2 : zg_G) => r = -1 ∧ G2 = G) := by
  refine zMi.of (by decide) (Nat.le_of_ble_eq_true rfl) ?_
  intro p e s m args below meth c Q hZ hG hret ls hl
  obtain ⟨hx, hb, hr, hts, hown, hlocks, hml, hnm, hbase, hK, hN, hQ⟩ := hZ
  have hl : lv_has ls 4 [(0, .ref a), (1, .ref m3)] := hl
  have hS : zg_S (zc_b E) s.heap s.heap [] := va_S.rf
  refine lv_aload_n hx hb d_Mo_cutOver_0 rfl (lv_at hl 0 rfl) ?_
  refine zg_get (ci := 11) (C := "ZoneAnswersModel") (T := T_Mo) (N := 21) hx hb hts zi_Mo hown hK hG hma rfl 3 (by decide) (hts _ w_1284) (fun _ h9 => h9) rfl d_Mo_cutOver_1 ?_
  refine zk_i (va_runS (As := [.ref m3]) (rest := []) ⟨hx, hb, hml, hown, hts⟩ (t_Ns_labels l E G m3 [] (fun _ => 0) hm3 (fun j hj => by rw [show j = 0 by (have : np_len [] = 1 := rfl); omega]; rfl) ⟨fun l hl => absurd hl List.not_mem_nil, by decide⟩) (zcS 1 hts w_1460 w_1461 w_33 w_1462 (by decide +kernel) ⟨Nat.le_of_ble_eq_true rfl, Nat.le_of_ble_eq_true rfl⟩) (zc_pre hbase hK hN hQ hG hS) rfl rfl hl.1 rfl (lv_room (Nat.le_of_ble_eq_true rfl)) d_Mo_cutOver_4 ⟨(by decide), (by decide)⟩) hS (fun r4 G4 H locs hp4 hG hS => ?_)
  have hG : zP E G H := hp4.2 ▸ hG
  refine zi_as (y := nI 0) hp4.1 ?_
  refine lv_iconst (v := 1) hx hb d_Mo_cutOver_7 (by decide) ?_
  refine lv_iadd hx hb d_Mo_cutOver_8 ?_
  refine zi_as (y := nI (0 + 1)) (nI_add 0 1) ?_
  refine lv_istore_n (lv' := [(2, .int (nI (0 + 1))), (0, .ref a), (1, .ref m3)]) hx hb d_Mo_cutOver_9 rfl hl (by decide) rfl (fun ls hl => ?_)
  refine lv_iload_n hx hb d_Mo_cutOver_10 rfl (lv_at hl 0 rfl) ?_
  refine lv_aload_n hx hb d_Mo_cutOver_11 rfl (lv_at hl 2 rfl) ?_
  refine zk_i (va_runS (As := [.ref m3]) (rest := [.int (nI (0 + 1))]) ⟨hx, hb, hml, hown, hts⟩ (t_Ns_labels l E G m3 [] (fun _ => 0) hm3 (fun j hj => by rw [show j = 0 by (have : np_len [] = 1 := rfl); omega]; rfl) ⟨fun l hl => absurd hl List.not_mem_nil, by decide⟩) (zcS 1 hts w_1460 w_1461 w_33 w_1462 (by decide +kernel) ⟨Nat.le_of_ble_eq_true rfl, Nat.le_of_ble_eq_true rfl⟩) (zc_pre hbase hK hN hQ hG hS) rfl rfl hl.1 rfl (lv_room (Nat.le_of_ble_eq_true rfl)) d_Mo_cutOver_12 ⟨(by decide), (by decide)⟩) hS (fun r12 G12 H locs hp12 hG hS => ?_)
  have hG : zP E G H := hp12.2 ▸ hG
  refine zi_as (y := nI 0) hp12.1 ?_
  refine lv_icmp_gt (tgt := 41) hx hb d_Mo_cutOver_15 (by decide) (fun c15 => ?_) (fun c15 => ?_)
  · have b15 : 0 < (0 + 1) := (nI_ltI (a := 0) (b := (0 + 1)) (by omega) (by omega)).mp c15
    refine lv_iconst (v := -1) hx hb d_Mo_cutOver_41 (by decide) ?_
    exact hret _ _ _ _ _ _ _ _ _ hr (rfl) (⟨rfl, rfl⟩) hG hS (Nat.le_refl _) (Nat.le_refl _) d_Mo_cutOver_42
  · have b15 : ¬ 0 < (0 + 1) := fun q => c15 ((nI_ltI (a := 0) (b := (0 + 1)) (by omega) (by omega)).mpr q)
    exact absurd b15 (by decide)
abbrev rm_Mo_away_f : Room := { frames := 5, cells := 0, slots := 0, locals := 130 }
set_option maxHeartbeats 4000000 in
set_option maxRecDepth 100000 in
/-- away(root), of the new reference -/
theorem t_Mo_away_f (l : Launch) (E : zc_E) (G : zg_G) (a m1 m3 m4 m6 m7 m8 m9 m10 m11 m12 m15 m18 rq dt : Nat) (th : Int32) (hma : G a = some (.inr (11, [.int th, .ref m1, .int (nI 0), .ref m3, .ref m4, .int 1, .ref m6, .ref m7, .ref m8, .ref m9, .ref m10, .ref m11, .ref m12, .int 0, .int 0, .ref m15, .int 0, .int 0, .ref m18, .null, .null]))) (hm3 : G m3 = some (.inl (E.2.1 0, 1, .inl (fun _ => 0)))) : zMi l E y_Mo_away c_Mo_away 2 (some .boolean) rm_Mo_away_f [.ref a, .ref m3] G (fun (r : Int32) (G2 : zg_G) => r = 0 ∧ G2 = G) := by
  refine zMi.of (by decide) (Nat.le_of_ble_eq_true rfl) ?_
  intro p e s m args below meth c Q hZ hG hret ls hl
  obtain ⟨hx, hb, hr, hts, hown, hlocks, hml, hnm, hbase, hK, hN, hQ⟩ := hZ
  have hl : lv_has ls 2 [(0, .ref a), (1, .ref m3)] := hl
  have hS : zg_S (zc_b E) s.heap s.heap [] := va_S.rf
  refine lv_aload_n hx hb d_Mo_away_0 rfl (lv_at hl 0 rfl) ?_
  refine lv_aload_n hx hb d_Mo_away_1 rfl (lv_at hl 1 rfl) ?_
  refine zk_i (va_runV (As := [.ref m3]) (rest := []) ⟨hx, hb, hml, hown, hts⟩ (t_Mo_cutOver_f l E G a m1 m3 m4 m6 m7 m8 m9 m10 m11 m12 m15 m18 rq dt th hma hm3) (zcV 1 hts w_1456 w_1458 wp_37 w_30 w_1459 (by decide +kernel) ⟨Nat.le_of_ble_eq_true rfl, Nat.le_of_ble_eq_true rfl⟩) (zc_preV hbase hK hN hQ hG hS hma rfl) rfl rfl hl.1 rfl (lv_room (Nat.le_of_ble_eq_true rfl)) d_Mo_away_2 ⟨(by decide), (by decide)⟩) hS (fun r2 G2 H locs hp2 hG hS => ?_)
  have hG : zP E G H := hp2.2 ▸ hG
  refine zi_as (y := (-1)) hp2.1 ?_
  refine lv_if_le (tgt := 12) hx hb d_Mo_away_5 (by decide) (fun c5 => ?_) (fun c5 => ?_)
  · refine lv_iconst (v := 0) hx hb d_Mo_away_12 (by decide) ?_
    exact hret _ _ _ _ _ _ _ _ _ hr (rfl) (⟨rfl, rfl⟩) hG hS (Nat.le_refl _) (Nat.le_refl _) d_Mo_away_13
  · exact absurd c5 (by decide)
abbrev rm_Mo_cut_f : Room := { frames := 5, cells := 0, slots := 0, locals := 130 }
set_option maxHeartbeats 4000000 in
set_option maxRecDepth 100000 in
/-- cut(root, 0), of the new reference -/
theorem t_Mo_cut_f (l : Launch) (E : zc_E) (G : zg_G) (a m1 m3 m4 m6 m7 m8 m9 m10 m11 m12 m15 m18 rq dt : Nat) (th : Int32) (hma : G a = some (.inr (11, [.int th, .ref m1, .int (nI 0), .ref m3, .ref m4, .int 1, .ref m6, .ref m7, .ref m8, .ref m9, .ref m10, .ref m11, .ref m12, .int 0, .int 0, .ref m15, .int 0, .int 0, .ref m18, .null, .null]))) (hm3 : G m3 = some (.inl (E.2.1 0, 1, .inl (fun _ => 0)))) : zMi l E y_Mo_cut c_Mo_cut 3 (some .boolean) rm_Mo_cut_f [.ref a, .ref m3, .int (nI 0)] G (fun (r : Int32) (G2 : zg_G) => r = 0 ∧ G2 = G) := by
  refine zMi.of (by decide) (Nat.le_of_ble_eq_true rfl) ?_
  intro p e s m args below meth c Q hZ hG hret ls hl
  obtain ⟨hx, hb, hr, hts, hown, hlocks, hml, hnm, hbase, hK, hN, hQ⟩ := hZ
  have hl : lv_has ls 3 [(0, .ref a), (1, .ref m3), (2, .int (nI 0))] := hl
  have hS : zg_S (zc_b E) s.heap s.heap [] := va_S.rf
  refine lv_aload_n hx hb d_Mo_cut_0 rfl (lv_at hl 1 rfl) ?_
  refine lv_iload_n hx hb d_Mo_cut_1 rfl (lv_at hl 2 rfl) ?_
  refine lv_aload_n hx hb d_Mo_cut_2 rfl (lv_at hl 0 rfl) ?_
  refine zg_get (ci := 11) (C := "ZoneAnswersModel") (T := T_Mo) (N := 21) hx hb hts zi_Mo hown hK hG hma rfl 3 (by decide) (hts _ w_1284) (fun _ h9 => h9) rfl d_Mo_cut_3 ?_
  refine lv_iconst (v := 0) hx hb d_Mo_cut_6 (by decide) ?_
  refine zi_as (y := nI 0) (nI_0.symm) ?_
  refine zk_i (va_runS (As := [.ref m3, .int (nI 0), .ref m3, .int (nI 0)]) (rest := []) ⟨hx, hb, hml, hown, hts⟩ (t_Ns_ends l E G m3 1 (fun _ => 0) hm3 m3 1 (fun _ => 0) hm3 0 0 (by decide) (by decide) (by decide) (by decide)) (zcS 4 hts w_1412 w_1399 w_33 w_1400 (by decide +kernel) ⟨Nat.le_of_ble_eq_true rfl, Nat.le_of_ble_eq_true rfl⟩) (zc_pre hbase hK hN hQ hG hS) rfl rfl hl.1 rfl (lv_room (Nat.le_of_ble_eq_true rfl)) d_Mo_cut_7 ⟨(by decide), (by decide)⟩) hS (fun r7 G7 H locs hp7 hG hS => ?_)
  have hG : zP E G H := hp7.2 ▸ hG
  refine lv_if_ne (tgt := 27) hx hb d_Mo_cut_10 (by decide) (fun c10 => ?_) (fun c10 => ?_)
  · refine lv_iconst (v := 0) hx hb d_Mo_cut_27 (by decide) ?_
    exact hret _ _ _ _ _ _ _ _ _ hr (rfl) (⟨rfl, rfl⟩) hG hS (Nat.le_refl _) (Nat.le_refl _) d_Mo_cut_28
  · exact absurd c10 (fun z => hp7.1.z z ⟨rfl, fun j _ => rfl⟩)
abbrev rm_Mo_fresh_f : Room := { frames := 4, cells := 0, slots := 0, locals := 100 }
set_option maxHeartbeats 4000000 in
set_option maxRecDepth 100000 in
/-- fresh(0), of the new reference -/
theorem t_Mo_fresh_f (l : Launch) (E : zc_E) (G : zg_G) (a m1 m3 m4 m6 m7 m8 m9 m10 m11 m12 m15 m18 rq dt : Nat) (th : Int32) (hma : G a = some (.inr (11, [.int th, .ref m1, .int (nI 0), .ref m3, .ref m4, .int 1, .ref m6, .ref m7, .ref m8, .ref m9, .ref m10, .ref m11, .ref m12, .int 0, .int 0, .ref m15, .int 0, .int 0, .ref m18, .null, .null]))) (hm3 : G m3 = some (.inl (E.2.1 0, 1, .inl (fun _ => 0)))) (hm4 : G m4 = some (.inl (E.2.1 4, 2000, .inr (.inr (.inr (.inr (va_up (fun _ => none) 0 (some rq)))))))) (hrq : G rq = some (.inr (12, [.ref m3, .ref dt, .null, .int 6, .int 0]))) : zMi l E y_Mo_fresh c_Mo_fresh 7 (some .int) rm_Mo_fresh_f [.ref a, .int (nI 0)] G (fun (r : Int32) (G2 : zg_G) => r = nI 1 ∧ G2 = G) := by
  refine zMi.of (by decide) (Nat.le_of_ble_eq_true rfl) ?_
  intro p e s m args below meth c Q hZ hG hret ls hl
  obtain ⟨hx, hb, hr, hts, hown, hlocks, hml, hnm, hbase, hK, hN, hQ⟩ := hZ
  have hl : lv_has ls 7 [(0, .ref a), (1, .int (nI 0))] := hl
  have hS : zg_S (zc_b E) s.heap s.heap [] := va_S.rf
  refine lv_aload_n hx hb d_Mo_fresh_0 rfl (lv_at hl 0 rfl) ?_
  refine zg_get (ci := 11) (C := "ZoneAnswersModel") (T := T_Mo) (N := 21) hx hb hts zi_Mo hown hK hG hma rfl 4 (by decide) (hts _ w_1285) (fun _ h9 => h9) rfl d_Mo_fresh_1 ?_
  refine lv_iload_n hx hb d_Mo_fresh_4 rfl (lv_at hl 1 rfl) ?_
  refine zg_aldq hx hb hK hG 4 hm4 rfl (vp_in_nI (by omega) (by omega)) d_Mo_fresh_5 ?_
  refine zr_as (y := (va_up (fun _ => none) 0 (some rq)) 0) (by rw [zi_n _ (by omega)]) ?_
  refine zr_some (a := rq) (by first | rfl | simp [va_up]) ?_
  refine zg_get (ci := 12) (C := "ZoneAnswersModel$Rec") (T := T_Re) (N := 5) hx hb hts zi_Re hown hK hG hrq rfl 0 (by decide) (hts _ w_1265) (fun _ h9 => h9) rfl d_Mo_fresh_6 ?_
  refine lv_astore_n (lv' := [(2, .ref m3), (0, .ref a), (1, .int (nI 0))]) hx hb d_Mo_fresh_9 rfl hl (by decide) rfl (fun ls hl => ?_)
  refine lv_iconst (v := 0) hx hb d_Mo_fresh_10 (by decide) ?_
  refine zi_as (y := nI 0) (nI_0.symm) ?_
  refine lv_istore_n (lv' := [(3, .int (nI 0)), (2, .ref m3), (0, .ref a), (1, .int (nI 0))]) hx hb d_Mo_fresh_11 rfl hl (by decide) rfl (fun ls hl => ?_)
  refine lv_iconst (v := 0) hx hb d_Mo_fresh_12 (by decide) ?_
  refine zi_as (y := nI 0) (nI_0.symm) ?_
  refine lv_istore (lv' := [(4, .int (nI 0)), (3, .int (nI 0)), (2, .ref m3), (0, .ref a), (1, .int (nI 0))]) hx hb d_Mo_fresh_13 hl (by decide) rfl (fun ls hl => ?_)
  refine lv_aload_n hx hb d_Mo_fresh_15 rfl (lv_at hl 2 rfl) ?_
  refine zg_alen hx hb hK hG 0 hm3 rfl (v := nI 1) rfl d_Mo_fresh_16 ?_
  refine lv_iload hx hb d_Mo_fresh_17 (lv_at hl 0 rfl) ?_
  refine lv_isub hx hb d_Mo_fresh_19 ?_
  refine zi_as (y := nI (1 - 0)) (zi_sub (a := 1) (b := 0) (by omega)) ?_
  refine lv_aload_n hx hb d_Mo_fresh_20 rfl (lv_at hl 3 rfl) ?_
  refine zg_get (ci := 11) (C := "ZoneAnswersModel") (T := T_Mo) (N := 21) hx hb hts zi_Mo hown hK hG hma rfl 3 (by decide) (hts _ w_1284) (fun _ h9 => h9) rfl d_Mo_fresh_21 ?_
  refine zg_alen hx hb hK hG 0 hm3 rfl (v := nI 1) rfl d_Mo_fresh_24 ?_
  refine lv_icmp_lt (tgt := 104) hx hb d_Mo_fresh_25 (by decide) (fun c25 => ?_) (fun c25 => ?_)
  · have b25 : (1 - 0) < 1 := (nI_ltI (a := (1 - 0)) (b := 1) (by omega) (by omega)).mp c25
    exact absurd b25 (by decide)
  · have b25 : ¬ (1 - 0) < 1 := fun q => c25 ((nI_ltI (a := (1 - 0)) (b := 1) (by omega) (by omega)).mpr q)
    refine lv_iconst (v := 0) hx hb d_Mo_fresh_28 (by decide) ?_
    refine zi_as (y := nI 0) (nI_0.symm) ?_
    refine lv_istore (lv' := [(5, .int (nI 0)), (4, .int (nI 0)), (3, .int (nI 0)), (2, .ref m3), (0, .ref a), (1, .int (nI 0))]) hx hb d_Mo_fresh_29 hl (by decide) rfl (fun ls hl => ?_)
    refine lv_iconst (v := 0) hx hb d_Mo_fresh_31 (by decide) ?_
    refine zi_as (y := nI 0) (nI_0.symm) ?_
    refine lv_istore (lv' := [(6, .int (nI 0)), (5, .int (nI 0)), (4, .int (nI 0)), (3, .int (nI 0)), (2, .ref m3), (0, .ref a), (1, .int (nI 0))]) hx hb d_Mo_fresh_32 hl (by decide) rfl (fun ls hl => ?_)
    refine lv_iload hx hb d_Mo_fresh_34 (lv_at hl 0 rfl) ?_
    refine lv_iload_n hx hb d_Mo_fresh_36 rfl (lv_at hl 6 rfl) ?_
    refine lv_icmp_ge (tgt := 69) hx hb d_Mo_fresh_37 (by decide) (fun c37 => ?_) (fun c37 => ?_)
    · have b37 : 0 ≤ 0 := (nI_leI (a := 0) (b := 0) (by omega) (by omega)).mp c37
      refine lv_iload hx hb d_Mo_fresh_69 (lv_at hl 1 rfl) ?_
      refine lv_if_eq (tgt := 77) hx hb d_Mo_fresh_71 (by decide) (fun c71 => ?_) (fun c71 => ?_)
      · have b71 : 0 = 0 := (nI_eq (a := 0) (b := 0) (by omega) (by omega)).mp c71
        refine lv_iinc (v := nI (0 + 1)) (lv' := [(3, .int (nI (0 + 1))), (6, .int (nI 0)), (5, .int (nI 0)), (4, .int (nI 0)), (2, .ref m3), (0, .ref a), (1, .int (nI 0))]) hx hb d_Mo_fresh_77 hl (k := 3) rfl (nI_add 0 1) (by decide) rfl (fun ls hl => ?_)
        refine lv_aload_n hx hb d_Mo_fresh_80 rfl (lv_at hl 4 rfl) ?_
        refine lv_iload hx hb d_Mo_fresh_81 (lv_at hl 3 rfl) ?_
        refine zg_bald hx hb hK hG 0 hm3 rfl (vp_in_nI (by omega) (by omega)) d_Mo_fresh_83 ?_
        refine zi_as (y := 0) (rfl) ?_
        refine lv_if_ne (tgt := 90) hx hb d_Mo_fresh_84 (by decide) (fun c84 => ?_) (fun c84 => ?_)
        · have b84 : ¬ 0 = 0 := fun q => c84 ((nI_eq (a := 0) (b := 0) (by omega) (by omega)).mpr q)
          exact absurd b84 (by decide)
        · have b84 : 0 = 0 := (nI_eq (a := 0) (b := 0) (by omega) (by omega)).mp c84
          refine lv_goto (tgt := 104) hx hb d_Mo_fresh_87 (by decide) ?_
          refine lv_iload_n hx hb d_Mo_fresh_104 rfl (lv_at hl 0 rfl) ?_
          exact hret _ _ _ _ _ _ _ _ _ hr (rfl) (⟨by first | rfl | decide, rfl⟩) hG hS (Nat.le_refl _) (Nat.le_refl _) d_Mo_fresh_105
      · have b71 : ¬ 0 = 0 := fun q => c71 ((nI_eq (a := 0) (b := 0) (by omega) (by omega)).mpr q)
        exact absurd b71 (by decide)
    · have b37 : ¬ 0 ≤ 0 := fun q => c37 ((nI_leI (a := 0) (b := 0) (by omega) (by omega)).mpr q)
      exact absurd b37 (by decide)
abbrev rm_Mo_count_f : Room := { frames := 7, cells := 0, slots := 0, locals := 200 }
set_option maxHeartbeats 4000000 in
set_option maxRecDepth 100000 in
/-- count(w), of the new reference -/
theorem t_Mo_count_f (l : Launch) (E : zc_E) (G : zg_G) (a m1 m3 m4 m6 m7 m8 m9 m10 m11 m12 m15 m18 rq dt : Nat) (hM : zMod E G a m1 m3 m4 m6 m7 m8 m9 m10 m11 m12 m15 m18 rq dt) (w : Int32) : zMi l E y_Mo_count c_Mo_count 8 (some .int) rm_Mo_count_f [.ref a, .int w] G (fun (r : Int32) (G2 : zg_G) => r = zcnt w) := by
  refine zMi.of (by decide) (Nat.le_of_ble_eq_true rfl) ?_
  intro p e s m args below meth c Q hZ hG hret ls hl
  obtain ⟨hx, hb, hr, hts, hown, hlocks, hml, hnm, hbase, hK, hN, hQ⟩ := hZ
  have hl : lv_has ls 8 [(0, .ref a), (1, .int w)] := hl
  have hS : zg_S (zc_b E) s.heap s.heap [] := va_S.rf
  obtain ⟨hma, hm1, hm3, hm4, hrq, hdt⟩ := id hM
  have hx0 : zx (fun q => q = a) G G := zx.rf
  rcases zw8 w with h9 | h9 | h9 | h9 | h9 | h9 | h9 | h9 | h9
  · refine lv_aload_n hx hb d_Mo_count_0 rfl (lv_at hl 0 rfl) ?_
    refine lv_iconst (v := 0) hx hb d_Mo_count_1 (by decide) ?_
    refine zg_put (ci := 11) (v := .int 0) (ty := .int) (C := "ZoneAnswersModel") (T := T_Mo) (N := 21) hx hb hts zi_Mo t_Mo t_Mo_ok n_Mo hown hK hG hS hma rfl 0 (by decide) (hts _ w_1281) (fun _ h9 => h9) rfl (by decide +kernel) rfl rfl (Nat.le_of_ble_eq_true rfl) d_Mo_count_2 (fun H locs hG hS => ?_)
    obtain ⟨G1, eG1⟩ : ∃ z : zg_G, z = zg_up G a (.inr (11, [.int 0, .ref m1, .int (nI 0), .ref m3, .ref m4, .int 1, .ref m6, .ref m7, .ref m8, .ref m9, .ref m10, .ref m11, .ref m12, .int 0, .int 0, .ref m15, .int 0, .int 0, .ref m18, .null, .null])) := ⟨_, rfl⟩
    have hG : zP E G1 H := by rw [eG1]; exact hG
    have hx2 : zx (fun q => q = a) G G1 := hx0.tr (by rw [eG1]; exact zx.up (rfl))
    have k3 : G1 a = some (.inr (11, [.int 0, .ref m1, .int (nI 0), .ref m3, .ref m4, .int 1, .ref m6, .ref m7, .ref m8, .ref m9, .ref m10, .ref m11, .ref m12, .int 0, .int 0, .ref m15, .int 0, .int 0, .ref m18, .null, .null])) := by rw [eG1]; exact zg_up_self _ _ _
    have k4 : G1 m1 = some (.inl (E.2.1 0, 65536, .inl (fun _ => 0))) := by rw [eG1, zg_up_ne (zg_ne hm1 hma (by intro h; simp at h))]; exact hm1
    have k5 : G1 m3 = some (.inl (E.2.1 0, 1, .inl (fun _ => 0))) := by rw [eG1, zg_up_ne (zg_ne hm3 hma (by intro h; simp at h))]; exact hm3
    have k6 : G1 m4 = some (.inl (E.2.1 4, 2000, .inr (.inr (.inr (.inr (va_up (fun _ => none) 0 (some rq))))))) := by rw [eG1, zg_up_ne (zg_ne hm4 hma (by intro h; simp at h))]; exact hm4
    have k7 : G1 rq = some (.inr (12, [.ref m3, .ref dt, .null, .int 6, .int 0])) := by rw [eG1, zg_up_ne (zg_ne hrq hma (by intro h; simp at h))]; exact hrq
    have k8 : G1 dt = some (.inl (E.2.1 0, 22, .inl (upd (fun _ => 0) 5 (vp_nar .byte 1)))) := by rw [eG1, zg_up_ne (zg_ne hdt hma (by intro h; simp at h))]; exact hdt
    refine lv_iload_n hx hb d_Mo_count_5 rfl (lv_at hl 1 rfl) ?_
    refine lv_if_ne (tgt := 14) hx hb d_Mo_count_6 (by decide) (fun c6 => ?_) (fun c6 => ?_)
    · rw [h9] at c6
      exact absurd c6 (by decide)
    · refine lv_aload_n hx hb d_Mo_count_9 rfl (lv_at hl 0 rfl) ?_
      refine zg_get (ci := 11) (C := "ZoneAnswersModel") (T := T_Mo) (N := 21) hx hb hts zi_Mo hown hK hG k3 rfl 2 (by decide) (hts _ w_1283) (fun _ h9 => h9) rfl d_Mo_count_10 ?_
      exact hret _ _ _ _ _ _ _ _ _ hr (rfl) (by rw [h9]; decide +kernel) hG hS (by decide) (by decide) d_Mo_count_13
  · refine lv_aload_n hx hb d_Mo_count_0 rfl (lv_at hl 0 rfl) ?_
    refine lv_iconst (v := 0) hx hb d_Mo_count_1 (by decide) ?_
    refine zg_put (ci := 11) (v := .int 0) (ty := .int) (C := "ZoneAnswersModel") (T := T_Mo) (N := 21) hx hb hts zi_Mo t_Mo t_Mo_ok n_Mo hown hK hG hS hma rfl 0 (by decide) (hts _ w_1281) (fun _ h9 => h9) rfl (by decide +kernel) rfl rfl (Nat.le_of_ble_eq_true rfl) d_Mo_count_2 (fun H locs hG hS => ?_)
    obtain ⟨G9, eG9⟩ : ∃ z : zg_G, z = zg_up G a (.inr (11, [.int 0, .ref m1, .int (nI 0), .ref m3, .ref m4, .int 1, .ref m6, .ref m7, .ref m8, .ref m9, .ref m10, .ref m11, .ref m12, .int 0, .int 0, .ref m15, .int 0, .int 0, .ref m18, .null, .null])) := ⟨_, rfl⟩
    have hG : zP E G9 H := by rw [eG9]; exact hG
    have hx10 : zx (fun q => q = a) G G9 := hx0.tr (by rw [eG9]; exact zx.up (rfl))
    have k11 : G9 a = some (.inr (11, [.int 0, .ref m1, .int (nI 0), .ref m3, .ref m4, .int 1, .ref m6, .ref m7, .ref m8, .ref m9, .ref m10, .ref m11, .ref m12, .int 0, .int 0, .ref m15, .int 0, .int 0, .ref m18, .null, .null])) := by rw [eG9]; exact zg_up_self _ _ _
    have k12 : G9 m1 = some (.inl (E.2.1 0, 65536, .inl (fun _ => 0))) := by rw [eG9, zg_up_ne (zg_ne hm1 hma (by intro h; simp at h))]; exact hm1
    have k13 : G9 m3 = some (.inl (E.2.1 0, 1, .inl (fun _ => 0))) := by rw [eG9, zg_up_ne (zg_ne hm3 hma (by intro h; simp at h))]; exact hm3
    have k14 : G9 m4 = some (.inl (E.2.1 4, 2000, .inr (.inr (.inr (.inr (va_up (fun _ => none) 0 (some rq))))))) := by rw [eG9, zg_up_ne (zg_ne hm4 hma (by intro h; simp at h))]; exact hm4
    have k15 : G9 rq = some (.inr (12, [.ref m3, .ref dt, .null, .int 6, .int 0])) := by rw [eG9, zg_up_ne (zg_ne hrq hma (by intro h; simp at h))]; exact hrq
    have k16 : G9 dt = some (.inl (E.2.1 0, 22, .inl (upd (fun _ => 0) 5 (vp_nar .byte 1)))) := by rw [eG9, zg_up_ne (zg_ne hdt hma (by intro h; simp at h))]; exact hdt
    refine lv_iload_n hx hb d_Mo_count_5 rfl (lv_at hl 1 rfl) ?_
    refine lv_if_ne (tgt := 14) hx hb d_Mo_count_6 (by decide) (fun c6 => ?_) (fun c6 => ?_)
    · refine lv_iload_n hx hb d_Mo_count_14 rfl (lv_at hl 1 rfl) ?_
      refine lv_iconst (v := 1) hx hb d_Mo_count_15 (by decide) ?_
      refine lv_icmp_ne (tgt := 24) hx hb d_Mo_count_16 (by decide) (fun c16 => ?_) (fun c16 => ?_)
      · rw [h9] at c16
        exact absurd c16 (by decide)
      · refine lv_aload_n hx hb d_Mo_count_19 rfl (lv_at hl 0 rfl) ?_
        refine zg_get (ci := 11) (C := "ZoneAnswersModel") (T := T_Mo) (N := 21) hx hb hts zi_Mo hown hK hG k11 rfl 5 (by decide) (hts _ w_1286) (fun _ h9 => h9) rfl d_Mo_count_20 ?_
        exact hret _ _ _ _ _ _ _ _ _ hr (rfl) (by rw [h9]; decide +kernel) hG hS (by decide) (by decide) d_Mo_count_23
    · rw [h9] at c6
      exact absurd c6 (by decide)
  · refine lv_aload_n hx hb d_Mo_count_0 rfl (lv_at hl 0 rfl) ?_
    refine lv_iconst (v := 0) hx hb d_Mo_count_1 (by decide) ?_
    refine zg_put (ci := 11) (v := .int 0) (ty := .int) (C := "ZoneAnswersModel") (T := T_Mo) (N := 21) hx hb hts zi_Mo t_Mo t_Mo_ok n_Mo hown hK hG hS hma rfl 0 (by decide) (hts _ w_1281) (fun _ h9 => h9) rfl (by decide +kernel) rfl rfl (Nat.le_of_ble_eq_true rfl) d_Mo_count_2 (fun H locs hG hS => ?_)
    obtain ⟨G17, eG17⟩ : ∃ z : zg_G, z = zg_up G a (.inr (11, [.int 0, .ref m1, .int (nI 0), .ref m3, .ref m4, .int 1, .ref m6, .ref m7, .ref m8, .ref m9, .ref m10, .ref m11, .ref m12, .int 0, .int 0, .ref m15, .int 0, .int 0, .ref m18, .null, .null])) := ⟨_, rfl⟩
    have hG : zP E G17 H := by rw [eG17]; exact hG
    have hx18 : zx (fun q => q = a) G G17 := hx0.tr (by rw [eG17]; exact zx.up (rfl))
    have k19 : G17 a = some (.inr (11, [.int 0, .ref m1, .int (nI 0), .ref m3, .ref m4, .int 1, .ref m6, .ref m7, .ref m8, .ref m9, .ref m10, .ref m11, .ref m12, .int 0, .int 0, .ref m15, .int 0, .int 0, .ref m18, .null, .null])) := by rw [eG17]; exact zg_up_self _ _ _
    have k20 : G17 m1 = some (.inl (E.2.1 0, 65536, .inl (fun _ => 0))) := by rw [eG17, zg_up_ne (zg_ne hm1 hma (by intro h; simp at h))]; exact hm1
    have k21 : G17 m3 = some (.inl (E.2.1 0, 1, .inl (fun _ => 0))) := by rw [eG17, zg_up_ne (zg_ne hm3 hma (by intro h; simp at h))]; exact hm3
    have k22 : G17 m4 = some (.inl (E.2.1 4, 2000, .inr (.inr (.inr (.inr (va_up (fun _ => none) 0 (some rq))))))) := by rw [eG17, zg_up_ne (zg_ne hm4 hma (by intro h; simp at h))]; exact hm4
    have k23 : G17 rq = some (.inr (12, [.ref m3, .ref dt, .null, .int 6, .int 0])) := by rw [eG17, zg_up_ne (zg_ne hrq hma (by intro h; simp at h))]; exact hrq
    have k24 : G17 dt = some (.inl (E.2.1 0, 22, .inl (upd (fun _ => 0) 5 (vp_nar .byte 1)))) := by rw [eG17, zg_up_ne (zg_ne hdt hma (by intro h; simp at h))]; exact hdt
    refine lv_iload_n hx hb d_Mo_count_5 rfl (lv_at hl 1 rfl) ?_
    refine lv_if_ne (tgt := 14) hx hb d_Mo_count_6 (by decide) (fun c6 => ?_) (fun c6 => ?_)
    · refine lv_iload_n hx hb d_Mo_count_14 rfl (lv_at hl 1 rfl) ?_
      refine lv_iconst (v := 1) hx hb d_Mo_count_15 (by decide) ?_
      refine lv_icmp_ne (tgt := 24) hx hb d_Mo_count_16 (by decide) (fun c16 => ?_) (fun c16 => ?_)
      · refine lv_iload_n hx hb d_Mo_count_24 rfl (lv_at hl 1 rfl) ?_
        refine lv_bipush (v := 7) hx hb d_Mo_count_25 (by decide) ?_
        refine lv_icmp_ne (tgt := 48) hx hb d_Mo_count_27 (by decide) (fun c27 => ?_) (fun c27 => ?_)
        · refine lv_iload_n hx hb d_Mo_count_48 rfl (lv_at hl 1 rfl) ?_
          refine lv_if_lt (tgt := 58) hx hb d_Mo_count_49 (by decide) (fun c49 => ?_) (fun c49 => ?_)
          · rw [h9] at c49
            exact absurd c49 (by decide)
          · refine lv_iload_n hx hb d_Mo_count_52 rfl (lv_at hl 1 rfl) ?_
            refine lv_bipush (v := 7) hx hb d_Mo_count_53 (by decide) ?_
            refine lv_icmp_le (tgt := 60) hx hb d_Mo_count_55 (by decide) (fun c55 => ?_) (fun c55 => ?_)
            · refine lv_iconst (v := 0) hx hb d_Mo_count_60 (by decide) ?_
              refine zi_as (y := nI 0) (nI_0.symm) ?_
              refine lv_istore_n (lv' := [(2, .int (nI 0)), (0, .ref a), (1, .int w)]) hx hb d_Mo_count_61 rfl hl (by decide) rfl (fun ls hl => ?_)
              refine lv_iconst (v := 0) hx hb d_Mo_count_62 (by decide) ?_
              refine zi_as (y := nI 0) (nI_0.symm) ?_
              refine lv_istore_n (lv' := [(3, .int (nI 0)), (2, .int (nI 0)), (0, .ref a), (1, .int w)]) hx hb d_Mo_count_63 rfl hl (by decide) rfl (fun ls hl => ?_)
              refine lv_iload_n hx hb d_Mo_count_64 rfl (lv_at hl 0 rfl) ?_
              refine lv_aload_n hx hb d_Mo_count_65 rfl (lv_at hl 2 rfl) ?_
              refine zg_get (ci := 11) (C := "ZoneAnswersModel") (T := T_Mo) (N := 21) hx hb hts zi_Mo hown hK hG k19 rfl 5 (by decide) (hts _ w_1286) (fun _ h9 => h9) rfl d_Mo_count_66 ?_
              refine lv_icmp_ge (tgt := 253) hx hb d_Mo_count_69 (by decide) (fun c69 => ?_) (fun c69 => ?_)
              · have b69 : 1 ≤ 0 := (nI_leI (a := 1) (b := 0) (by omega) (by omega)).mp c69
                exact absurd b69 (by decide)
              · have b69 : ¬ 1 ≤ 0 := fun q => c69 ((nI_leI (a := 1) (b := 0) (by omega) (by omega)).mpr q)
                refine lv_iconst (v := 0) hx hb d_Mo_count_72 (by decide) ?_
                refine zi_as (y := nI 0) (nI_0.symm) ?_
                refine lv_istore (lv' := [(4, .int (nI 0)), (3, .int (nI 0)), (2, .int (nI 0)), (0, .ref a), (1, .int w)]) hx hb d_Mo_count_73 hl (by decide) rfl (fun ls hl => ?_)
                refine lv_iconst (v := 0) hx hb d_Mo_count_75 (by decide) ?_
                refine zi_as (y := nI 0) (nI_0.symm) ?_
                refine lv_istore (lv' := [(5, .int (nI 0)), (4, .int (nI 0)), (3, .int (nI 0)), (2, .int (nI 0)), (0, .ref a), (1, .int w)]) hx hb d_Mo_count_76 hl (by decide) rfl (fun ls hl => ?_)
                refine lv_iconst (v := 0) hx hb d_Mo_count_78 (by decide) ?_
                refine zi_as (y := nI 0) (nI_0.symm) ?_
                refine lv_istore (lv' := [(6, .int (nI 0)), (5, .int (nI 0)), (4, .int (nI 0)), (3, .int (nI 0)), (2, .int (nI 0)), (0, .ref a), (1, .int w)]) hx hb d_Mo_count_79 hl (by decide) rfl (fun ls hl => ?_)
                refine lv_iload hx hb d_Mo_count_81 (lv_at hl 0 rfl) ?_
                refine lv_iload_n hx hb d_Mo_count_83 rfl (lv_at hl 3 rfl) ?_
                refine lv_icmp_ge (tgt := 161) hx hb d_Mo_count_84 (by decide) (fun c84 => ?_) (fun c84 => ?_)
                · have b84 : 0 ≤ 0 := (nI_leI (a := 0) (b := 0) (by omega) (by omega)).mp c84
                  refine lv_iload_n hx hb d_Mo_count_161 rfl (lv_at hl 6 rfl) ?_
                  refine lv_iconst (v := 2) hx hb d_Mo_count_162 (by decide) ?_
                  refine lv_icmp_ne (tgt := 174) hx hb d_Mo_count_163 (by decide) (fun c163 => ?_) (fun c163 => ?_)
                  · rw [h9] at c163
                    exact absurd c163 (by decide)
                  · refine lv_iload hx hb d_Mo_count_166 (lv_at hl 2 rfl) ?_
                    refine lv_if_ne (tgt := 174) hx hb d_Mo_count_168 (by decide) (fun c168 => ?_) (fun c168 => ?_)
                    · have b168 : ¬ 0 = 0 := fun q => c168 ((nI_eq (a := 0) (b := 0) (by omega) (by omega)).mpr q)
                      exact absurd b168 (by decide)
                    · have b168 : 0 = 0 := (nI_eq (a := 0) (b := 0) (by omega) (by omega)).mp c168
                      refine lv_iinc (v := nI (0 + 1)) (lv' := [(2, .int (nI (0 + 1))), (6, .int (nI 0)), (5, .int (nI 0)), (4, .int (nI 0)), (3, .int (nI 0)), (0, .ref a), (1, .int w)]) hx hb d_Mo_count_171 hl (k := 4) rfl (nI_add 0 1) (by decide) rfl (fun ls hl => ?_)
                      refine lv_iload hx hb d_Mo_count_174 (lv_at hl 2 rfl) ?_
                      refine lv_if_eq (tgt := 182) hx hb d_Mo_count_176 (by decide) (fun c176 => ?_) (fun c176 => ?_)
                      · have b176 : 0 = 0 := (nI_eq (a := 0) (b := 0) (by omega) (by omega)).mp c176
                        refine lv_iload_n hx hb d_Mo_count_182 rfl (lv_at hl 6 rfl) ?_
                        refine lv_iconst (v := 3) hx hb d_Mo_count_183 (by decide) ?_
                        refine lv_icmp_eq (tgt := 231) hx hb d_Mo_count_184 (by decide) (fun c184 => ?_) (fun c184 => ?_)
                        · rw [h9] at c184
                          exact absurd c184 (by decide)
                        · refine lv_iload_n hx hb d_Mo_count_187 rfl (lv_at hl 6 rfl) ?_
                          refine lv_iconst (v := 5) hx hb d_Mo_count_188 (by decide) ?_
                          refine lv_icmp_ne (tgt := 208) hx hb d_Mo_count_189 (by decide) (fun c189 => ?_) (fun c189 => ?_)
                          · refine lv_iload_n hx hb d_Mo_count_208 rfl (lv_at hl 6 rfl) ?_
                            refine lv_bipush (v := 6) hx hb d_Mo_count_209 (by decide) ?_
                            refine lv_icmp_ne (tgt := 234) hx hb d_Mo_count_211 (by decide) (fun c211 => ?_) (fun c211 => ?_)
                            · refine lv_iload_n hx hb d_Mo_count_234 rfl (lv_at hl 6 rfl) ?_
                              refine lv_iconst (v := 4) hx hb d_Mo_count_235 (by decide) ?_
                              refine lv_icmp_ne (tgt := 247) hx hb d_Mo_count_236 (by decide) (fun c236 => ?_) (fun c236 => ?_)
                              · refine lv_iinc (v := nI (0 + 1)) (lv' := [(3, .int (nI (0 + 1))), (2, .int (nI (0 + 1))), (6, .int (nI 0)), (5, .int (nI 0)), (4, .int (nI 0)), (0, .ref a), (1, .int w)]) hx hb d_Mo_count_247 hl (k := 4) rfl (nI_add 0 1) (by decide) rfl (fun ls hl => ?_)
                                refine lv_goto (tgt := 64) hx hb d_Mo_count_250 (by decide) ?_
                                refine lv_iload_n hx hb d_Mo_count_64 rfl (lv_at hl 0 rfl) ?_
                                refine lv_aload_n hx hb d_Mo_count_65 rfl (lv_at hl 5 rfl) ?_
                                refine zg_get (ci := 11) (C := "ZoneAnswersModel") (T := T_Mo) (N := 21) hx hb hts zi_Mo hown hK hG k19 rfl 5 (by decide) (hts _ w_1286) (fun _ h9 => h9) rfl d_Mo_count_66 ?_
                                refine lv_icmp_ge (tgt := 253) hx hb d_Mo_count_69 (by decide) (fun c69 => ?_) (fun c69 => ?_)
                                · have b69 : 1 ≤ (0 + 1) := (nI_leI (a := 1) (b := (0 + 1)) (by omega) (by omega)).mp c69
                                  refine lv_iload_n hx hb d_Mo_count_253 rfl (lv_at hl 1 rfl) ?_
                                  exact hret _ _ _ _ _ _ _ _ _ hr (rfl) (by rw [h9]; decide +kernel) hG hS (by decide) (by decide) d_Mo_count_254
                                · have b69 : ¬ 1 ≤ (0 + 1) := fun q => c69 ((nI_leI (a := 1) (b := (0 + 1)) (by omega) (by omega)).mpr q)
                                  exact absurd b69 (by decide)
                              · rw [h9] at c236
                                exact absurd c236 (by decide)
                            · rw [h9] at c211
                              exact absurd c211 (by decide)
                          · rw [h9] at c189
                            exact absurd c189 (by decide)
                      · have b176 : ¬ 0 = 0 := fun q => c176 ((nI_eq (a := 0) (b := 0) (by omega) (by omega)).mpr q)
                        exact absurd b176 (by decide)
                · have b84 : ¬ 0 ≤ 0 := fun q => c84 ((nI_leI (a := 0) (b := 0) (by omega) (by omega)).mpr q)
                  exact absurd b84 (by decide)
            · rw [h9] at c55
              exact absurd c55 (by decide)
        · rw [h9] at c27
          exact absurd c27 (by decide)
      · rw [h9] at c16
        exact absurd c16 (by decide)
    · rw [h9] at c6
      exact absurd c6 (by decide)
  · refine lv_aload_n hx hb d_Mo_count_0 rfl (lv_at hl 0 rfl) ?_
    refine lv_iconst (v := 0) hx hb d_Mo_count_1 (by decide) ?_
    refine zg_put (ci := 11) (v := .int 0) (ty := .int) (C := "ZoneAnswersModel") (T := T_Mo) (N := 21) hx hb hts zi_Mo t_Mo t_Mo_ok n_Mo hown hK hG hS hma rfl 0 (by decide) (hts _ w_1281) (fun _ h9 => h9) rfl (by decide +kernel) rfl rfl (Nat.le_of_ble_eq_true rfl) d_Mo_count_2 (fun H locs hG hS => ?_)
    obtain ⟨G25, eG25⟩ : ∃ z : zg_G, z = zg_up G a (.inr (11, [.int 0, .ref m1, .int (nI 0), .ref m3, .ref m4, .int 1, .ref m6, .ref m7, .ref m8, .ref m9, .ref m10, .ref m11, .ref m12, .int 0, .int 0, .ref m15, .int 0, .int 0, .ref m18, .null, .null])) := ⟨_, rfl⟩
    have hG : zP E G25 H := by rw [eG25]; exact hG
    have hx26 : zx (fun q => q = a) G G25 := hx0.tr (by rw [eG25]; exact zx.up (rfl))
    have k27 : G25 a = some (.inr (11, [.int 0, .ref m1, .int (nI 0), .ref m3, .ref m4, .int 1, .ref m6, .ref m7, .ref m8, .ref m9, .ref m10, .ref m11, .ref m12, .int 0, .int 0, .ref m15, .int 0, .int 0, .ref m18, .null, .null])) := by rw [eG25]; exact zg_up_self _ _ _
    have k28 : G25 m1 = some (.inl (E.2.1 0, 65536, .inl (fun _ => 0))) := by rw [eG25, zg_up_ne (zg_ne hm1 hma (by intro h; simp at h))]; exact hm1
    have k29 : G25 m3 = some (.inl (E.2.1 0, 1, .inl (fun _ => 0))) := by rw [eG25, zg_up_ne (zg_ne hm3 hma (by intro h; simp at h))]; exact hm3
    have k30 : G25 m4 = some (.inl (E.2.1 4, 2000, .inr (.inr (.inr (.inr (va_up (fun _ => none) 0 (some rq))))))) := by rw [eG25, zg_up_ne (zg_ne hm4 hma (by intro h; simp at h))]; exact hm4
    have k31 : G25 rq = some (.inr (12, [.ref m3, .ref dt, .null, .int 6, .int 0])) := by rw [eG25, zg_up_ne (zg_ne hrq hma (by intro h; simp at h))]; exact hrq
    have k32 : G25 dt = some (.inl (E.2.1 0, 22, .inl (upd (fun _ => 0) 5 (vp_nar .byte 1)))) := by rw [eG25, zg_up_ne (zg_ne hdt hma (by intro h; simp at h))]; exact hdt
    refine lv_iload_n hx hb d_Mo_count_5 rfl (lv_at hl 1 rfl) ?_
    refine lv_if_ne (tgt := 14) hx hb d_Mo_count_6 (by decide) (fun c6 => ?_) (fun c6 => ?_)
    · refine lv_iload_n hx hb d_Mo_count_14 rfl (lv_at hl 1 rfl) ?_
      refine lv_iconst (v := 1) hx hb d_Mo_count_15 (by decide) ?_
      refine lv_icmp_ne (tgt := 24) hx hb d_Mo_count_16 (by decide) (fun c16 => ?_) (fun c16 => ?_)
      · refine lv_iload_n hx hb d_Mo_count_24 rfl (lv_at hl 1 rfl) ?_
        refine lv_bipush (v := 7) hx hb d_Mo_count_25 (by decide) ?_
        refine lv_icmp_ne (tgt := 48) hx hb d_Mo_count_27 (by decide) (fun c27 => ?_) (fun c27 => ?_)
        · refine lv_iload_n hx hb d_Mo_count_48 rfl (lv_at hl 1 rfl) ?_
          refine lv_if_lt (tgt := 58) hx hb d_Mo_count_49 (by decide) (fun c49 => ?_) (fun c49 => ?_)
          · rw [h9] at c49
            exact absurd c49 (by decide)
          · refine lv_iload_n hx hb d_Mo_count_52 rfl (lv_at hl 1 rfl) ?_
            refine lv_bipush (v := 7) hx hb d_Mo_count_53 (by decide) ?_
            refine lv_icmp_le (tgt := 60) hx hb d_Mo_count_55 (by decide) (fun c55 => ?_) (fun c55 => ?_)
            · refine lv_iconst (v := 0) hx hb d_Mo_count_60 (by decide) ?_
              refine zi_as (y := nI 0) (nI_0.symm) ?_
              refine lv_istore_n (lv' := [(2, .int (nI 0)), (0, .ref a), (1, .int w)]) hx hb d_Mo_count_61 rfl hl (by decide) rfl (fun ls hl => ?_)
              refine lv_iconst (v := 0) hx hb d_Mo_count_62 (by decide) ?_
              refine zi_as (y := nI 0) (nI_0.symm) ?_
              refine lv_istore_n (lv' := [(3, .int (nI 0)), (2, .int (nI 0)), (0, .ref a), (1, .int w)]) hx hb d_Mo_count_63 rfl hl (by decide) rfl (fun ls hl => ?_)
              refine lv_iload_n hx hb d_Mo_count_64 rfl (lv_at hl 0 rfl) ?_
              refine lv_aload_n hx hb d_Mo_count_65 rfl (lv_at hl 2 rfl) ?_
              refine zg_get (ci := 11) (C := "ZoneAnswersModel") (T := T_Mo) (N := 21) hx hb hts zi_Mo hown hK hG k27 rfl 5 (by decide) (hts _ w_1286) (fun _ h9 => h9) rfl d_Mo_count_66 ?_
              refine lv_icmp_ge (tgt := 253) hx hb d_Mo_count_69 (by decide) (fun c69 => ?_) (fun c69 => ?_)
              · have b69 : 1 ≤ 0 := (nI_leI (a := 1) (b := 0) (by omega) (by omega)).mp c69
                exact absurd b69 (by decide)
              · have b69 : ¬ 1 ≤ 0 := fun q => c69 ((nI_leI (a := 1) (b := 0) (by omega) (by omega)).mpr q)
                refine lv_iconst (v := 0) hx hb d_Mo_count_72 (by decide) ?_
                refine zi_as (y := nI 0) (nI_0.symm) ?_
                refine lv_istore (lv' := [(4, .int (nI 0)), (3, .int (nI 0)), (2, .int (nI 0)), (0, .ref a), (1, .int w)]) hx hb d_Mo_count_73 hl (by decide) rfl (fun ls hl => ?_)
                refine lv_iconst (v := 0) hx hb d_Mo_count_75 (by decide) ?_
                refine zi_as (y := nI 0) (nI_0.symm) ?_
                refine lv_istore (lv' := [(5, .int (nI 0)), (4, .int (nI 0)), (3, .int (nI 0)), (2, .int (nI 0)), (0, .ref a), (1, .int w)]) hx hb d_Mo_count_76 hl (by decide) rfl (fun ls hl => ?_)
                refine lv_iconst (v := 0) hx hb d_Mo_count_78 (by decide) ?_
                refine zi_as (y := nI 0) (nI_0.symm) ?_
                refine lv_istore (lv' := [(6, .int (nI 0)), (5, .int (nI 0)), (4, .int (nI 0)), (3, .int (nI 0)), (2, .int (nI 0)), (0, .ref a), (1, .int w)]) hx hb d_Mo_count_79 hl (by decide) rfl (fun ls hl => ?_)
                refine lv_iload hx hb d_Mo_count_81 (lv_at hl 0 rfl) ?_
                refine lv_iload_n hx hb d_Mo_count_83 rfl (lv_at hl 3 rfl) ?_
                refine lv_icmp_ge (tgt := 161) hx hb d_Mo_count_84 (by decide) (fun c84 => ?_) (fun c84 => ?_)
                · have b84 : 0 ≤ 0 := (nI_leI (a := 0) (b := 0) (by omega) (by omega)).mp c84
                  refine lv_iload_n hx hb d_Mo_count_161 rfl (lv_at hl 6 rfl) ?_
                  refine lv_iconst (v := 2) hx hb d_Mo_count_162 (by decide) ?_
                  refine lv_icmp_ne (tgt := 174) hx hb d_Mo_count_163 (by decide) (fun c163 => ?_) (fun c163 => ?_)
                  · refine lv_iload hx hb d_Mo_count_174 (lv_at hl 1 rfl) ?_
                    refine lv_if_eq (tgt := 182) hx hb d_Mo_count_176 (by decide) (fun c176 => ?_) (fun c176 => ?_)
                    · have b176 : 0 = 0 := (nI_eq (a := 0) (b := 0) (by omega) (by omega)).mp c176
                      refine lv_iload_n hx hb d_Mo_count_182 rfl (lv_at hl 6 rfl) ?_
                      refine lv_iconst (v := 3) hx hb d_Mo_count_183 (by decide) ?_
                      refine lv_icmp_eq (tgt := 231) hx hb d_Mo_count_184 (by decide) (fun c184 => ?_) (fun c184 => ?_)
                      · refine lv_iinc (v := nI (0 + 1)) (lv' := [(2, .int (nI (0 + 1))), (6, .int (nI 0)), (5, .int (nI 0)), (4, .int (nI 0)), (3, .int (nI 0)), (0, .ref a), (1, .int w)]) hx hb d_Mo_count_231 hl (k := 4) rfl (nI_add 0 1) (by decide) rfl (fun ls hl => ?_)
                        refine lv_iload_n hx hb d_Mo_count_234 rfl (lv_at hl 6 rfl) ?_
                        refine lv_iconst (v := 4) hx hb d_Mo_count_235 (by decide) ?_
                        refine lv_icmp_ne (tgt := 247) hx hb d_Mo_count_236 (by decide) (fun c236 => ?_) (fun c236 => ?_)
                        · refine lv_iinc (v := nI (0 + 1)) (lv' := [(3, .int (nI (0 + 1))), (2, .int (nI (0 + 1))), (6, .int (nI 0)), (5, .int (nI 0)), (4, .int (nI 0)), (0, .ref a), (1, .int w)]) hx hb d_Mo_count_247 hl (k := 4) rfl (nI_add 0 1) (by decide) rfl (fun ls hl => ?_)
                          refine lv_goto (tgt := 64) hx hb d_Mo_count_250 (by decide) ?_
                          refine lv_iload_n hx hb d_Mo_count_64 rfl (lv_at hl 0 rfl) ?_
                          refine lv_aload_n hx hb d_Mo_count_65 rfl (lv_at hl 5 rfl) ?_
                          refine zg_get (ci := 11) (C := "ZoneAnswersModel") (T := T_Mo) (N := 21) hx hb hts zi_Mo hown hK hG k27 rfl 5 (by decide) (hts _ w_1286) (fun _ h9 => h9) rfl d_Mo_count_66 ?_
                          refine lv_icmp_ge (tgt := 253) hx hb d_Mo_count_69 (by decide) (fun c69 => ?_) (fun c69 => ?_)
                          · have b69 : 1 ≤ (0 + 1) := (nI_leI (a := 1) (b := (0 + 1)) (by omega) (by omega)).mp c69
                            refine lv_iload_n hx hb d_Mo_count_253 rfl (lv_at hl 1 rfl) ?_
                            exact hret _ _ _ _ _ _ _ _ _ hr (rfl) (by rw [h9]; decide +kernel) hG hS (by decide) (by decide) d_Mo_count_254
                          · have b69 : ¬ 1 ≤ (0 + 1) := fun q => c69 ((nI_leI (a := 1) (b := (0 + 1)) (by omega) (by omega)).mpr q)
                            exact absurd b69 (by decide)
                        · rw [h9] at c236
                          exact absurd c236 (by decide)
                      · rw [h9] at c184
                        exact absurd c184 (by decide)
                    · have b176 : ¬ 0 = 0 := fun q => c176 ((nI_eq (a := 0) (b := 0) (by omega) (by omega)).mpr q)
                      exact absurd b176 (by decide)
                  · rw [h9] at c163
                    exact absurd c163 (by decide)
                · have b84 : ¬ 0 ≤ 0 := fun q => c84 ((nI_leI (a := 0) (b := 0) (by omega) (by omega)).mpr q)
                  exact absurd b84 (by decide)
            · rw [h9] at c55
              exact absurd c55 (by decide)
        · rw [h9] at c27
          exact absurd c27 (by decide)
      · rw [h9] at c16
        exact absurd c16 (by decide)
    · rw [h9] at c6
      exact absurd c6 (by decide)
  · refine lv_aload_n hx hb d_Mo_count_0 rfl (lv_at hl 0 rfl) ?_
    refine lv_iconst (v := 0) hx hb d_Mo_count_1 (by decide) ?_
    refine zg_put (ci := 11) (v := .int 0) (ty := .int) (C := "ZoneAnswersModel") (T := T_Mo) (N := 21) hx hb hts zi_Mo t_Mo t_Mo_ok n_Mo hown hK hG hS hma rfl 0 (by decide) (hts _ w_1281) (fun _ h9 => h9) rfl (by decide +kernel) rfl rfl (Nat.le_of_ble_eq_true rfl) d_Mo_count_2 (fun H locs hG hS => ?_)
    obtain ⟨G33, eG33⟩ : ∃ z : zg_G, z = zg_up G a (.inr (11, [.int 0, .ref m1, .int (nI 0), .ref m3, .ref m4, .int 1, .ref m6, .ref m7, .ref m8, .ref m9, .ref m10, .ref m11, .ref m12, .int 0, .int 0, .ref m15, .int 0, .int 0, .ref m18, .null, .null])) := ⟨_, rfl⟩
    have hG : zP E G33 H := by rw [eG33]; exact hG
    have hx34 : zx (fun q => q = a) G G33 := hx0.tr (by rw [eG33]; exact zx.up (rfl))
    have k35 : G33 a = some (.inr (11, [.int 0, .ref m1, .int (nI 0), .ref m3, .ref m4, .int 1, .ref m6, .ref m7, .ref m8, .ref m9, .ref m10, .ref m11, .ref m12, .int 0, .int 0, .ref m15, .int 0, .int 0, .ref m18, .null, .null])) := by rw [eG33]; exact zg_up_self _ _ _
    have k36 : G33 m1 = some (.inl (E.2.1 0, 65536, .inl (fun _ => 0))) := by rw [eG33, zg_up_ne (zg_ne hm1 hma (by intro h; simp at h))]; exact hm1
    have k37 : G33 m3 = some (.inl (E.2.1 0, 1, .inl (fun _ => 0))) := by rw [eG33, zg_up_ne (zg_ne hm3 hma (by intro h; simp at h))]; exact hm3
    have k38 : G33 m4 = some (.inl (E.2.1 4, 2000, .inr (.inr (.inr (.inr (va_up (fun _ => none) 0 (some rq))))))) := by rw [eG33, zg_up_ne (zg_ne hm4 hma (by intro h; simp at h))]; exact hm4
    have k39 : G33 rq = some (.inr (12, [.ref m3, .ref dt, .null, .int 6, .int 0])) := by rw [eG33, zg_up_ne (zg_ne hrq hma (by intro h; simp at h))]; exact hrq
    have k40 : G33 dt = some (.inl (E.2.1 0, 22, .inl (upd (fun _ => 0) 5 (vp_nar .byte 1)))) := by rw [eG33, zg_up_ne (zg_ne hdt hma (by intro h; simp at h))]; exact hdt
    refine lv_iload_n hx hb d_Mo_count_5 rfl (lv_at hl 1 rfl) ?_
    refine lv_if_ne (tgt := 14) hx hb d_Mo_count_6 (by decide) (fun c6 => ?_) (fun c6 => ?_)
    · refine lv_iload_n hx hb d_Mo_count_14 rfl (lv_at hl 1 rfl) ?_
      refine lv_iconst (v := 1) hx hb d_Mo_count_15 (by decide) ?_
      refine lv_icmp_ne (tgt := 24) hx hb d_Mo_count_16 (by decide) (fun c16 => ?_) (fun c16 => ?_)
      · refine lv_iload_n hx hb d_Mo_count_24 rfl (lv_at hl 1 rfl) ?_
        refine lv_bipush (v := 7) hx hb d_Mo_count_25 (by decide) ?_
        refine lv_icmp_ne (tgt := 48) hx hb d_Mo_count_27 (by decide) (fun c27 => ?_) (fun c27 => ?_)
        · refine lv_iload_n hx hb d_Mo_count_48 rfl (lv_at hl 1 rfl) ?_
          refine lv_if_lt (tgt := 58) hx hb d_Mo_count_49 (by decide) (fun c49 => ?_) (fun c49 => ?_)
          · rw [h9] at c49
            exact absurd c49 (by decide)
          · refine lv_iload_n hx hb d_Mo_count_52 rfl (lv_at hl 1 rfl) ?_
            refine lv_bipush (v := 7) hx hb d_Mo_count_53 (by decide) ?_
            refine lv_icmp_le (tgt := 60) hx hb d_Mo_count_55 (by decide) (fun c55 => ?_) (fun c55 => ?_)
            · refine lv_iconst (v := 0) hx hb d_Mo_count_60 (by decide) ?_
              refine zi_as (y := nI 0) (nI_0.symm) ?_
              refine lv_istore_n (lv' := [(2, .int (nI 0)), (0, .ref a), (1, .int w)]) hx hb d_Mo_count_61 rfl hl (by decide) rfl (fun ls hl => ?_)
              refine lv_iconst (v := 0) hx hb d_Mo_count_62 (by decide) ?_
              refine zi_as (y := nI 0) (nI_0.symm) ?_
              refine lv_istore_n (lv' := [(3, .int (nI 0)), (2, .int (nI 0)), (0, .ref a), (1, .int w)]) hx hb d_Mo_count_63 rfl hl (by decide) rfl (fun ls hl => ?_)
              refine lv_iload_n hx hb d_Mo_count_64 rfl (lv_at hl 0 rfl) ?_
              refine lv_aload_n hx hb d_Mo_count_65 rfl (lv_at hl 2 rfl) ?_
              refine zg_get (ci := 11) (C := "ZoneAnswersModel") (T := T_Mo) (N := 21) hx hb hts zi_Mo hown hK hG k35 rfl 5 (by decide) (hts _ w_1286) (fun _ h9 => h9) rfl d_Mo_count_66 ?_
              refine lv_icmp_ge (tgt := 253) hx hb d_Mo_count_69 (by decide) (fun c69 => ?_) (fun c69 => ?_)
              · have b69 : 1 ≤ 0 := (nI_leI (a := 1) (b := 0) (by omega) (by omega)).mp c69
                exact absurd b69 (by decide)
              · have b69 : ¬ 1 ≤ 0 := fun q => c69 ((nI_leI (a := 1) (b := 0) (by omega) (by omega)).mpr q)
                refine lv_iconst (v := 0) hx hb d_Mo_count_72 (by decide) ?_
                refine zi_as (y := nI 0) (nI_0.symm) ?_
                refine lv_istore (lv' := [(4, .int (nI 0)), (3, .int (nI 0)), (2, .int (nI 0)), (0, .ref a), (1, .int w)]) hx hb d_Mo_count_73 hl (by decide) rfl (fun ls hl => ?_)
                refine lv_iconst (v := 0) hx hb d_Mo_count_75 (by decide) ?_
                refine zi_as (y := nI 0) (nI_0.symm) ?_
                refine lv_istore (lv' := [(5, .int (nI 0)), (4, .int (nI 0)), (3, .int (nI 0)), (2, .int (nI 0)), (0, .ref a), (1, .int w)]) hx hb d_Mo_count_76 hl (by decide) rfl (fun ls hl => ?_)
                refine lv_iconst (v := 0) hx hb d_Mo_count_78 (by decide) ?_
                refine zi_as (y := nI 0) (nI_0.symm) ?_
                refine lv_istore (lv' := [(6, .int (nI 0)), (5, .int (nI 0)), (4, .int (nI 0)), (3, .int (nI 0)), (2, .int (nI 0)), (0, .ref a), (1, .int w)]) hx hb d_Mo_count_79 hl (by decide) rfl (fun ls hl => ?_)
                refine lv_iload hx hb d_Mo_count_81 (lv_at hl 0 rfl) ?_
                refine lv_iload_n hx hb d_Mo_count_83 rfl (lv_at hl 3 rfl) ?_
                refine lv_icmp_ge (tgt := 161) hx hb d_Mo_count_84 (by decide) (fun c84 => ?_) (fun c84 => ?_)
                · have b84 : 0 ≤ 0 := (nI_leI (a := 0) (b := 0) (by omega) (by omega)).mp c84
                  refine lv_iload_n hx hb d_Mo_count_161 rfl (lv_at hl 6 rfl) ?_
                  refine lv_iconst (v := 2) hx hb d_Mo_count_162 (by decide) ?_
                  refine lv_icmp_ne (tgt := 174) hx hb d_Mo_count_163 (by decide) (fun c163 => ?_) (fun c163 => ?_)
                  · refine lv_iload hx hb d_Mo_count_174 (lv_at hl 1 rfl) ?_
                    refine lv_if_eq (tgt := 182) hx hb d_Mo_count_176 (by decide) (fun c176 => ?_) (fun c176 => ?_)
                    · have b176 : 0 = 0 := (nI_eq (a := 0) (b := 0) (by omega) (by omega)).mp c176
                      refine lv_iload_n hx hb d_Mo_count_182 rfl (lv_at hl 6 rfl) ?_
                      refine lv_iconst (v := 3) hx hb d_Mo_count_183 (by decide) ?_
                      refine lv_icmp_eq (tgt := 231) hx hb d_Mo_count_184 (by decide) (fun c184 => ?_) (fun c184 => ?_)
                      · rw [h9] at c184
                        exact absurd c184 (by decide)
                      · refine lv_iload_n hx hb d_Mo_count_187 rfl (lv_at hl 6 rfl) ?_
                        refine lv_iconst (v := 5) hx hb d_Mo_count_188 (by decide) ?_
                        refine lv_icmp_ne (tgt := 208) hx hb d_Mo_count_189 (by decide) (fun c189 => ?_) (fun c189 => ?_)
                        · refine lv_iload_n hx hb d_Mo_count_208 rfl (lv_at hl 6 rfl) ?_
                          refine lv_bipush (v := 6) hx hb d_Mo_count_209 (by decide) ?_
                          refine lv_icmp_ne (tgt := 234) hx hb d_Mo_count_211 (by decide) (fun c211 => ?_) (fun c211 => ?_)
                          · refine lv_iload_n hx hb d_Mo_count_234 rfl (lv_at hl 6 rfl) ?_
                            refine lv_iconst (v := 4) hx hb d_Mo_count_235 (by decide) ?_
                            refine lv_icmp_ne (tgt := 247) hx hb d_Mo_count_236 (by decide) (fun c236 => ?_) (fun c236 => ?_)
                            · rw [h9] at c236
                              exact absurd c236 (by decide)
                            · refine lv_iload_n hx hb d_Mo_count_239 rfl (lv_at hl 4 rfl) ?_
                              refine lv_aload_n hx hb d_Mo_count_240 rfl (lv_at hl 5 rfl) ?_
                              refine lv_iload_n hx hb d_Mo_count_241 rfl (lv_at hl 3 rfl) ?_
                              refine zk_i (va_runV (As := [.int (nI 0)]) (rest := [.int (nI 0)]) ⟨hx, hb, hml, hown, hts⟩ (t_Mo_fresh_f l E G33 a m1 m3 m4 m6 m7 m8 m9 m10 m11 m12 m15 m18 rq dt 0 k35 k37 k38 k39) (zcV 1 hts w_1600 w_1602 wp_61 w_30 w_1603 (by decide +kernel) ⟨Nat.le_of_ble_eq_true rfl, Nat.le_of_ble_eq_true rfl⟩) (zc_preV hbase hK hN hQ hG hS k35 rfl) rfl rfl hl.1 rfl (lv_room (Nat.le_of_ble_eq_true rfl)) d_Mo_count_242 ⟨(by decide), (by decide)⟩) hS (fun r242 G242 H locs hp242 hG hS => ?_)
                              have hG : zP E G33 H := hp242.2 ▸ hG
                              refine zi_as (y := nI 1) hp242.1 ?_
                              refine lv_iadd hx hb d_Mo_count_245 ?_
                              refine zi_as (y := nI (0 + 1)) (nI_add 0 1) ?_
                              refine lv_istore_n (lv' := [(2, .int (nI (0 + 1))), (6, .int (nI 0)), (5, .int (nI 0)), (4, .int (nI 0)), (3, .int (nI 0)), (0, .ref a), (1, .int w)]) hx hb d_Mo_count_246 rfl hl (by decide) rfl (fun ls hl => ?_)
                              refine lv_iinc (v := nI (0 + 1)) (lv' := [(3, .int (nI (0 + 1))), (2, .int (nI (0 + 1))), (6, .int (nI 0)), (5, .int (nI 0)), (4, .int (nI 0)), (0, .ref a), (1, .int w)]) hx hb d_Mo_count_247 hl (k := 4) rfl (nI_add 0 1) (by decide) rfl (fun ls hl => ?_)
                              refine lv_goto (tgt := 64) hx hb d_Mo_count_250 (by decide) ?_
                              refine lv_iload_n hx hb d_Mo_count_64 rfl (lv_at hl 0 rfl) ?_
                              refine lv_aload_n hx hb d_Mo_count_65 rfl (lv_at hl 5 rfl) ?_
                              refine zg_get (ci := 11) (C := "ZoneAnswersModel") (T := T_Mo) (N := 21) hx hb hts zi_Mo hown hK hG k35 rfl 5 (by decide) (hts _ w_1286) (fun _ h9 => h9) rfl d_Mo_count_66 ?_
                              refine lv_icmp_ge (tgt := 253) hx hb d_Mo_count_69 (by decide) (fun c69 => ?_) (fun c69 => ?_)
                              · have b69 : 1 ≤ (0 + 1) := (nI_leI (a := 1) (b := (0 + 1)) (by omega) (by omega)).mp c69
                                refine lv_iload_n hx hb d_Mo_count_253 rfl (lv_at hl 1 rfl) ?_
                                exact hret _ _ _ _ _ _ _ _ _ hr (rfl) (by rw [h9]; decide +kernel) hG hS (by decide) (by decide) d_Mo_count_254
                              · have b69 : ¬ 1 ≤ (0 + 1) := fun q => c69 ((nI_leI (a := 1) (b := (0 + 1)) (by omega) (by omega)).mpr q)
                                exact absurd b69 (by decide)
                          · rw [h9] at c211
                            exact absurd c211 (by decide)
                        · rw [h9] at c189
                          exact absurd c189 (by decide)
                    · have b176 : ¬ 0 = 0 := fun q => c176 ((nI_eq (a := 0) (b := 0) (by omega) (by omega)).mpr q)
                      exact absurd b176 (by decide)
                  · rw [h9] at c163
                    exact absurd c163 (by decide)
                · have b84 : ¬ 0 ≤ 0 := fun q => c84 ((nI_leI (a := 0) (b := 0) (by omega) (by omega)).mpr q)
                  exact absurd b84 (by decide)
            · rw [h9] at c55
              exact absurd c55 (by decide)
        · rw [h9] at c27
          exact absurd c27 (by decide)
      · rw [h9] at c16
        exact absurd c16 (by decide)
    · rw [h9] at c6
      exact absurd c6 (by decide)
  · refine lv_aload_n hx hb d_Mo_count_0 rfl (lv_at hl 0 rfl) ?_
    refine lv_iconst (v := 0) hx hb d_Mo_count_1 (by decide) ?_
    refine zg_put (ci := 11) (v := .int 0) (ty := .int) (C := "ZoneAnswersModel") (T := T_Mo) (N := 21) hx hb hts zi_Mo t_Mo t_Mo_ok n_Mo hown hK hG hS hma rfl 0 (by decide) (hts _ w_1281) (fun _ h9 => h9) rfl (by decide +kernel) rfl rfl (Nat.le_of_ble_eq_true rfl) d_Mo_count_2 (fun H locs hG hS => ?_)
    obtain ⟨G41, eG41⟩ : ∃ z : zg_G, z = zg_up G a (.inr (11, [.int 0, .ref m1, .int (nI 0), .ref m3, .ref m4, .int 1, .ref m6, .ref m7, .ref m8, .ref m9, .ref m10, .ref m11, .ref m12, .int 0, .int 0, .ref m15, .int 0, .int 0, .ref m18, .null, .null])) := ⟨_, rfl⟩
    have hG : zP E G41 H := by rw [eG41]; exact hG
    have hx42 : zx (fun q => q = a) G G41 := hx0.tr (by rw [eG41]; exact zx.up (rfl))
    have k43 : G41 a = some (.inr (11, [.int 0, .ref m1, .int (nI 0), .ref m3, .ref m4, .int 1, .ref m6, .ref m7, .ref m8, .ref m9, .ref m10, .ref m11, .ref m12, .int 0, .int 0, .ref m15, .int 0, .int 0, .ref m18, .null, .null])) := by rw [eG41]; exact zg_up_self _ _ _
    have k44 : G41 m1 = some (.inl (E.2.1 0, 65536, .inl (fun _ => 0))) := by rw [eG41, zg_up_ne (zg_ne hm1 hma (by intro h; simp at h))]; exact hm1
    have k45 : G41 m3 = some (.inl (E.2.1 0, 1, .inl (fun _ => 0))) := by rw [eG41, zg_up_ne (zg_ne hm3 hma (by intro h; simp at h))]; exact hm3
    have k46 : G41 m4 = some (.inl (E.2.1 4, 2000, .inr (.inr (.inr (.inr (va_up (fun _ => none) 0 (some rq))))))) := by rw [eG41, zg_up_ne (zg_ne hm4 hma (by intro h; simp at h))]; exact hm4
    have k47 : G41 rq = some (.inr (12, [.ref m3, .ref dt, .null, .int 6, .int 0])) := by rw [eG41, zg_up_ne (zg_ne hrq hma (by intro h; simp at h))]; exact hrq
    have k48 : G41 dt = some (.inl (E.2.1 0, 22, .inl (upd (fun _ => 0) 5 (vp_nar .byte 1)))) := by rw [eG41, zg_up_ne (zg_ne hdt hma (by intro h; simp at h))]; exact hdt
    refine lv_iload_n hx hb d_Mo_count_5 rfl (lv_at hl 1 rfl) ?_
    refine lv_if_ne (tgt := 14) hx hb d_Mo_count_6 (by decide) (fun c6 => ?_) (fun c6 => ?_)
    · refine lv_iload_n hx hb d_Mo_count_14 rfl (lv_at hl 1 rfl) ?_
      refine lv_iconst (v := 1) hx hb d_Mo_count_15 (by decide) ?_
      refine lv_icmp_ne (tgt := 24) hx hb d_Mo_count_16 (by decide) (fun c16 => ?_) (fun c16 => ?_)
      · refine lv_iload_n hx hb d_Mo_count_24 rfl (lv_at hl 1 rfl) ?_
        refine lv_bipush (v := 7) hx hb d_Mo_count_25 (by decide) ?_
        refine lv_icmp_ne (tgt := 48) hx hb d_Mo_count_27 (by decide) (fun c27 => ?_) (fun c27 => ?_)
        · refine lv_iload_n hx hb d_Mo_count_48 rfl (lv_at hl 1 rfl) ?_
          refine lv_if_lt (tgt := 58) hx hb d_Mo_count_49 (by decide) (fun c49 => ?_) (fun c49 => ?_)
          · rw [h9] at c49
            exact absurd c49 (by decide)
          · refine lv_iload_n hx hb d_Mo_count_52 rfl (lv_at hl 1 rfl) ?_
            refine lv_bipush (v := 7) hx hb d_Mo_count_53 (by decide) ?_
            refine lv_icmp_le (tgt := 60) hx hb d_Mo_count_55 (by decide) (fun c55 => ?_) (fun c55 => ?_)
            · refine lv_iconst (v := 0) hx hb d_Mo_count_60 (by decide) ?_
              refine zi_as (y := nI 0) (nI_0.symm) ?_
              refine lv_istore_n (lv' := [(2, .int (nI 0)), (0, .ref a), (1, .int w)]) hx hb d_Mo_count_61 rfl hl (by decide) rfl (fun ls hl => ?_)
              refine lv_iconst (v := 0) hx hb d_Mo_count_62 (by decide) ?_
              refine zi_as (y := nI 0) (nI_0.symm) ?_
              refine lv_istore_n (lv' := [(3, .int (nI 0)), (2, .int (nI 0)), (0, .ref a), (1, .int w)]) hx hb d_Mo_count_63 rfl hl (by decide) rfl (fun ls hl => ?_)
              refine lv_iload_n hx hb d_Mo_count_64 rfl (lv_at hl 0 rfl) ?_
              refine lv_aload_n hx hb d_Mo_count_65 rfl (lv_at hl 2 rfl) ?_
              refine zg_get (ci := 11) (C := "ZoneAnswersModel") (T := T_Mo) (N := 21) hx hb hts zi_Mo hown hK hG k43 rfl 5 (by decide) (hts _ w_1286) (fun _ h9 => h9) rfl d_Mo_count_66 ?_
              refine lv_icmp_ge (tgt := 253) hx hb d_Mo_count_69 (by decide) (fun c69 => ?_) (fun c69 => ?_)
              · have b69 : 1 ≤ 0 := (nI_leI (a := 1) (b := 0) (by omega) (by omega)).mp c69
                exact absurd b69 (by decide)
              · have b69 : ¬ 1 ≤ 0 := fun q => c69 ((nI_leI (a := 1) (b := 0) (by omega) (by omega)).mpr q)
                refine lv_iconst (v := 0) hx hb d_Mo_count_72 (by decide) ?_
                refine zi_as (y := nI 0) (nI_0.symm) ?_
                refine lv_istore (lv' := [(4, .int (nI 0)), (3, .int (nI 0)), (2, .int (nI 0)), (0, .ref a), (1, .int w)]) hx hb d_Mo_count_73 hl (by decide) rfl (fun ls hl => ?_)
                refine lv_iconst (v := 0) hx hb d_Mo_count_75 (by decide) ?_
                refine zi_as (y := nI 0) (nI_0.symm) ?_
                refine lv_istore (lv' := [(5, .int (nI 0)), (4, .int (nI 0)), (3, .int (nI 0)), (2, .int (nI 0)), (0, .ref a), (1, .int w)]) hx hb d_Mo_count_76 hl (by decide) rfl (fun ls hl => ?_)
                refine lv_iconst (v := 0) hx hb d_Mo_count_78 (by decide) ?_
                refine zi_as (y := nI 0) (nI_0.symm) ?_
                refine lv_istore (lv' := [(6, .int (nI 0)), (5, .int (nI 0)), (4, .int (nI 0)), (3, .int (nI 0)), (2, .int (nI 0)), (0, .ref a), (1, .int w)]) hx hb d_Mo_count_79 hl (by decide) rfl (fun ls hl => ?_)
                refine lv_iload hx hb d_Mo_count_81 (lv_at hl 0 rfl) ?_
                refine lv_iload_n hx hb d_Mo_count_83 rfl (lv_at hl 3 rfl) ?_
                refine lv_icmp_ge (tgt := 161) hx hb d_Mo_count_84 (by decide) (fun c84 => ?_) (fun c84 => ?_)
                · have b84 : 0 ≤ 0 := (nI_leI (a := 0) (b := 0) (by omega) (by omega)).mp c84
                  refine lv_iload_n hx hb d_Mo_count_161 rfl (lv_at hl 6 rfl) ?_
                  refine lv_iconst (v := 2) hx hb d_Mo_count_162 (by decide) ?_
                  refine lv_icmp_ne (tgt := 174) hx hb d_Mo_count_163 (by decide) (fun c163 => ?_) (fun c163 => ?_)
                  · refine lv_iload hx hb d_Mo_count_174 (lv_at hl 1 rfl) ?_
                    refine lv_if_eq (tgt := 182) hx hb d_Mo_count_176 (by decide) (fun c176 => ?_) (fun c176 => ?_)
                    · have b176 : 0 = 0 := (nI_eq (a := 0) (b := 0) (by omega) (by omega)).mp c176
                      refine lv_iload_n hx hb d_Mo_count_182 rfl (lv_at hl 6 rfl) ?_
                      refine lv_iconst (v := 3) hx hb d_Mo_count_183 (by decide) ?_
                      refine lv_icmp_eq (tgt := 231) hx hb d_Mo_count_184 (by decide) (fun c184 => ?_) (fun c184 => ?_)
                      · rw [h9] at c184
                        exact absurd c184 (by decide)
                      · refine lv_iload_n hx hb d_Mo_count_187 rfl (lv_at hl 6 rfl) ?_
                        refine lv_iconst (v := 5) hx hb d_Mo_count_188 (by decide) ?_
                        refine lv_icmp_ne (tgt := 208) hx hb d_Mo_count_189 (by decide) (fun c189 => ?_) (fun c189 => ?_)
                        · rw [h9] at c189
                          exact absurd c189 (by decide)
                        · refine lv_aload_n hx hb d_Mo_count_192 rfl (lv_at hl 5 rfl) ?_
                          refine lv_aload_n hx hb d_Mo_count_193 rfl (lv_at hl 5 rfl) ?_
                          refine zg_get (ci := 11) (C := "ZoneAnswersModel") (T := T_Mo) (N := 21) hx hb hts zi_Mo hown hK hG k43 rfl 4 (by decide) (hts _ w_1285) (fun _ h9 => h9) rfl d_Mo_count_194 ?_
                          refine lv_iload_n hx hb d_Mo_count_197 rfl (lv_at hl 3 rfl) ?_
                          refine zg_aldq hx hb hK hG 4 k46 rfl (vp_in_nI (by omega) (by omega)) d_Mo_count_198 ?_
                          refine zr_as (y := (va_up (fun _ => none) 0 (some rq)) 0) (by rw [zi_n _ (by omega)]) ?_
                          refine zr_some (a := rq) (by first | rfl | simp [va_up]) ?_
                          refine zg_get (ci := 12) (C := "ZoneAnswersModel$Rec") (T := T_Re) (N := 5) hx hb hts zi_Re hown hK hG k47 rfl 0 (by decide) (hts _ w_1265) (fun _ h9 => h9) rfl d_Mo_count_199 ?_
                          refine zk_i (va_runV (As := [.ref m3]) (rest := []) ⟨hx, hb, hml, hown, hts⟩ (t_Mo_away_f l E G41 a m1 m3 m4 m6 m7 m8 m9 m10 m11 m12 m15 m18 rq dt 0 k43 k45) (zcV 1 hts w_1512 w_1514 wp_46 w_30 w_1515 (by decide +kernel) ⟨Nat.le_of_ble_eq_true rfl, Nat.le_of_ble_eq_true rfl⟩) (zc_preV hbase hK hN hQ hG hS k43 rfl) rfl rfl hl.1 rfl (lv_room (Nat.le_of_ble_eq_true rfl)) d_Mo_count_202 ⟨(by decide), (by decide)⟩) hS (fun r202 G202 H locs hp202 hG hS => ?_)
                          have hG : zP E G41 H := hp202.2 ▸ hG
                          refine zi_as (y := 0) hp202.1 ?_
                          refine lv_if_eq (tgt := 231) hx hb d_Mo_count_205 (by decide) (fun c205 => ?_) (fun c205 => ?_)
                          · have b205 : 0 = 0 := (nI_eq (a := 0) (b := 0) (by omega) (by omega)).mp c205
                            refine lv_iinc (v := nI (0 + 1)) (lv' := [(2, .int (nI (0 + 1))), (6, .int (nI 0)), (5, .int (nI 0)), (4, .int (nI 0)), (3, .int (nI 0)), (0, .ref a), (1, .int w)]) hx hb d_Mo_count_231 hl (k := 4) rfl (nI_add 0 1) (by decide) rfl (fun ls hl => ?_)
                            refine lv_iload_n hx hb d_Mo_count_234 rfl (lv_at hl 6 rfl) ?_
                            refine lv_iconst (v := 4) hx hb d_Mo_count_235 (by decide) ?_
                            refine lv_icmp_ne (tgt := 247) hx hb d_Mo_count_236 (by decide) (fun c236 => ?_) (fun c236 => ?_)
                            · refine lv_iinc (v := nI (0 + 1)) (lv' := [(3, .int (nI (0 + 1))), (2, .int (nI (0 + 1))), (6, .int (nI 0)), (5, .int (nI 0)), (4, .int (nI 0)), (0, .ref a), (1, .int w)]) hx hb d_Mo_count_247 hl (k := 4) rfl (nI_add 0 1) (by decide) rfl (fun ls hl => ?_)
                              refine lv_goto (tgt := 64) hx hb d_Mo_count_250 (by decide) ?_
                              refine lv_iload_n hx hb d_Mo_count_64 rfl (lv_at hl 0 rfl) ?_
                              refine lv_aload_n hx hb d_Mo_count_65 rfl (lv_at hl 5 rfl) ?_
                              refine zg_get (ci := 11) (C := "ZoneAnswersModel") (T := T_Mo) (N := 21) hx hb hts zi_Mo hown hK hG k43 rfl 5 (by decide) (hts _ w_1286) (fun _ h9 => h9) rfl d_Mo_count_66 ?_
                              refine lv_icmp_ge (tgt := 253) hx hb d_Mo_count_69 (by decide) (fun c69 => ?_) (fun c69 => ?_)
                              · have b69 : 1 ≤ (0 + 1) := (nI_leI (a := 1) (b := (0 + 1)) (by omega) (by omega)).mp c69
                                refine lv_iload_n hx hb d_Mo_count_253 rfl (lv_at hl 1 rfl) ?_
                                exact hret _ _ _ _ _ _ _ _ _ hr (rfl) (by rw [h9]; decide +kernel) hG hS (by decide) (by decide) d_Mo_count_254
                              · have b69 : ¬ 1 ≤ (0 + 1) := fun q => c69 ((nI_leI (a := 1) (b := (0 + 1)) (by omega) (by omega)).mpr q)
                                exact absurd b69 (by decide)
                            · rw [h9] at c236
                              exact absurd c236 (by decide)
                          · have b205 : ¬ 0 = 0 := fun q => c205 ((nI_eq (a := 0) (b := 0) (by omega) (by omega)).mpr q)
                            exact absurd b205 (by decide)
                    · have b176 : ¬ 0 = 0 := fun q => c176 ((nI_eq (a := 0) (b := 0) (by omega) (by omega)).mpr q)
                      exact absurd b176 (by decide)
                  · rw [h9] at c163
                    exact absurd c163 (by decide)
                · have b84 : ¬ 0 ≤ 0 := fun q => c84 ((nI_leI (a := 0) (b := 0) (by omega) (by omega)).mpr q)
                  exact absurd b84 (by decide)
            · rw [h9] at c55
              exact absurd c55 (by decide)
        · rw [h9] at c27
          exact absurd c27 (by decide)
      · rw [h9] at c16
        exact absurd c16 (by decide)
    · rw [h9] at c6
      exact absurd c6 (by decide)
  · refine lv_aload_n hx hb d_Mo_count_0 rfl (lv_at hl 0 rfl) ?_
    refine lv_iconst (v := 0) hx hb d_Mo_count_1 (by decide) ?_
    refine zg_put (ci := 11) (v := .int 0) (ty := .int) (C := "ZoneAnswersModel") (T := T_Mo) (N := 21) hx hb hts zi_Mo t_Mo t_Mo_ok n_Mo hown hK hG hS hma rfl 0 (by decide) (hts _ w_1281) (fun _ h9 => h9) rfl (by decide +kernel) rfl rfl (Nat.le_of_ble_eq_true rfl) d_Mo_count_2 (fun H locs hG hS => ?_)
    obtain ⟨G49, eG49⟩ : ∃ z : zg_G, z = zg_up G a (.inr (11, [.int 0, .ref m1, .int (nI 0), .ref m3, .ref m4, .int 1, .ref m6, .ref m7, .ref m8, .ref m9, .ref m10, .ref m11, .ref m12, .int 0, .int 0, .ref m15, .int 0, .int 0, .ref m18, .null, .null])) := ⟨_, rfl⟩
    have hG : zP E G49 H := by rw [eG49]; exact hG
    have hx50 : zx (fun q => q = a) G G49 := hx0.tr (by rw [eG49]; exact zx.up (rfl))
    have k51 : G49 a = some (.inr (11, [.int 0, .ref m1, .int (nI 0), .ref m3, .ref m4, .int 1, .ref m6, .ref m7, .ref m8, .ref m9, .ref m10, .ref m11, .ref m12, .int 0, .int 0, .ref m15, .int 0, .int 0, .ref m18, .null, .null])) := by rw [eG49]; exact zg_up_self _ _ _
    have k52 : G49 m1 = some (.inl (E.2.1 0, 65536, .inl (fun _ => 0))) := by rw [eG49, zg_up_ne (zg_ne hm1 hma (by intro h; simp at h))]; exact hm1
    have k53 : G49 m3 = some (.inl (E.2.1 0, 1, .inl (fun _ => 0))) := by rw [eG49, zg_up_ne (zg_ne hm3 hma (by intro h; simp at h))]; exact hm3
    have k54 : G49 m4 = some (.inl (E.2.1 4, 2000, .inr (.inr (.inr (.inr (va_up (fun _ => none) 0 (some rq))))))) := by rw [eG49, zg_up_ne (zg_ne hm4 hma (by intro h; simp at h))]; exact hm4
    have k55 : G49 rq = some (.inr (12, [.ref m3, .ref dt, .null, .int 6, .int 0])) := by rw [eG49, zg_up_ne (zg_ne hrq hma (by intro h; simp at h))]; exact hrq
    have k56 : G49 dt = some (.inl (E.2.1 0, 22, .inl (upd (fun _ => 0) 5 (vp_nar .byte 1)))) := by rw [eG49, zg_up_ne (zg_ne hdt hma (by intro h; simp at h))]; exact hdt
    refine lv_iload_n hx hb d_Mo_count_5 rfl (lv_at hl 1 rfl) ?_
    refine lv_if_ne (tgt := 14) hx hb d_Mo_count_6 (by decide) (fun c6 => ?_) (fun c6 => ?_)
    · refine lv_iload_n hx hb d_Mo_count_14 rfl (lv_at hl 1 rfl) ?_
      refine lv_iconst (v := 1) hx hb d_Mo_count_15 (by decide) ?_
      refine lv_icmp_ne (tgt := 24) hx hb d_Mo_count_16 (by decide) (fun c16 => ?_) (fun c16 => ?_)
      · refine lv_iload_n hx hb d_Mo_count_24 rfl (lv_at hl 1 rfl) ?_
        refine lv_bipush (v := 7) hx hb d_Mo_count_25 (by decide) ?_
        refine lv_icmp_ne (tgt := 48) hx hb d_Mo_count_27 (by decide) (fun c27 => ?_) (fun c27 => ?_)
        · refine lv_iload_n hx hb d_Mo_count_48 rfl (lv_at hl 1 rfl) ?_
          refine lv_if_lt (tgt := 58) hx hb d_Mo_count_49 (by decide) (fun c49 => ?_) (fun c49 => ?_)
          · rw [h9] at c49
            exact absurd c49 (by decide)
          · refine lv_iload_n hx hb d_Mo_count_52 rfl (lv_at hl 1 rfl) ?_
            refine lv_bipush (v := 7) hx hb d_Mo_count_53 (by decide) ?_
            refine lv_icmp_le (tgt := 60) hx hb d_Mo_count_55 (by decide) (fun c55 => ?_) (fun c55 => ?_)
            · refine lv_iconst (v := 0) hx hb d_Mo_count_60 (by decide) ?_
              refine zi_as (y := nI 0) (nI_0.symm) ?_
              refine lv_istore_n (lv' := [(2, .int (nI 0)), (0, .ref a), (1, .int w)]) hx hb d_Mo_count_61 rfl hl (by decide) rfl (fun ls hl => ?_)
              refine lv_iconst (v := 0) hx hb d_Mo_count_62 (by decide) ?_
              refine zi_as (y := nI 0) (nI_0.symm) ?_
              refine lv_istore_n (lv' := [(3, .int (nI 0)), (2, .int (nI 0)), (0, .ref a), (1, .int w)]) hx hb d_Mo_count_63 rfl hl (by decide) rfl (fun ls hl => ?_)
              refine lv_iload_n hx hb d_Mo_count_64 rfl (lv_at hl 0 rfl) ?_
              refine lv_aload_n hx hb d_Mo_count_65 rfl (lv_at hl 2 rfl) ?_
              refine zg_get (ci := 11) (C := "ZoneAnswersModel") (T := T_Mo) (N := 21) hx hb hts zi_Mo hown hK hG k51 rfl 5 (by decide) (hts _ w_1286) (fun _ h9 => h9) rfl d_Mo_count_66 ?_
              refine lv_icmp_ge (tgt := 253) hx hb d_Mo_count_69 (by decide) (fun c69 => ?_) (fun c69 => ?_)
              · have b69 : 1 ≤ 0 := (nI_leI (a := 1) (b := 0) (by omega) (by omega)).mp c69
                exact absurd b69 (by decide)
              · have b69 : ¬ 1 ≤ 0 := fun q => c69 ((nI_leI (a := 1) (b := 0) (by omega) (by omega)).mpr q)
                refine lv_iconst (v := 0) hx hb d_Mo_count_72 (by decide) ?_
                refine zi_as (y := nI 0) (nI_0.symm) ?_
                refine lv_istore (lv' := [(4, .int (nI 0)), (3, .int (nI 0)), (2, .int (nI 0)), (0, .ref a), (1, .int w)]) hx hb d_Mo_count_73 hl (by decide) rfl (fun ls hl => ?_)
                refine lv_iconst (v := 0) hx hb d_Mo_count_75 (by decide) ?_
                refine zi_as (y := nI 0) (nI_0.symm) ?_
                refine lv_istore (lv' := [(5, .int (nI 0)), (4, .int (nI 0)), (3, .int (nI 0)), (2, .int (nI 0)), (0, .ref a), (1, .int w)]) hx hb d_Mo_count_76 hl (by decide) rfl (fun ls hl => ?_)
                refine lv_iconst (v := 0) hx hb d_Mo_count_78 (by decide) ?_
                refine zi_as (y := nI 0) (nI_0.symm) ?_
                refine lv_istore (lv' := [(6, .int (nI 0)), (5, .int (nI 0)), (4, .int (nI 0)), (3, .int (nI 0)), (2, .int (nI 0)), (0, .ref a), (1, .int w)]) hx hb d_Mo_count_79 hl (by decide) rfl (fun ls hl => ?_)
                refine lv_iload hx hb d_Mo_count_81 (lv_at hl 0 rfl) ?_
                refine lv_iload_n hx hb d_Mo_count_83 rfl (lv_at hl 3 rfl) ?_
                refine lv_icmp_ge (tgt := 161) hx hb d_Mo_count_84 (by decide) (fun c84 => ?_) (fun c84 => ?_)
                · have b84 : 0 ≤ 0 := (nI_leI (a := 0) (b := 0) (by omega) (by omega)).mp c84
                  refine lv_iload_n hx hb d_Mo_count_161 rfl (lv_at hl 6 rfl) ?_
                  refine lv_iconst (v := 2) hx hb d_Mo_count_162 (by decide) ?_
                  refine lv_icmp_ne (tgt := 174) hx hb d_Mo_count_163 (by decide) (fun c163 => ?_) (fun c163 => ?_)
                  · refine lv_iload hx hb d_Mo_count_174 (lv_at hl 1 rfl) ?_
                    refine lv_if_eq (tgt := 182) hx hb d_Mo_count_176 (by decide) (fun c176 => ?_) (fun c176 => ?_)
                    · have b176 : 0 = 0 := (nI_eq (a := 0) (b := 0) (by omega) (by omega)).mp c176
                      refine lv_iload_n hx hb d_Mo_count_182 rfl (lv_at hl 6 rfl) ?_
                      refine lv_iconst (v := 3) hx hb d_Mo_count_183 (by decide) ?_
                      refine lv_icmp_eq (tgt := 231) hx hb d_Mo_count_184 (by decide) (fun c184 => ?_) (fun c184 => ?_)
                      · rw [h9] at c184
                        exact absurd c184 (by decide)
                      · refine lv_iload_n hx hb d_Mo_count_187 rfl (lv_at hl 6 rfl) ?_
                        refine lv_iconst (v := 5) hx hb d_Mo_count_188 (by decide) ?_
                        refine lv_icmp_ne (tgt := 208) hx hb d_Mo_count_189 (by decide) (fun c189 => ?_) (fun c189 => ?_)
                        · refine lv_iload_n hx hb d_Mo_count_208 rfl (lv_at hl 6 rfl) ?_
                          refine lv_bipush (v := 6) hx hb d_Mo_count_209 (by decide) ?_
                          refine lv_icmp_ne (tgt := 234) hx hb d_Mo_count_211 (by decide) (fun c211 => ?_) (fun c211 => ?_)
                          · rw [h9] at c211
                            exact absurd c211 (by decide)
                          · refine lv_aload_n hx hb d_Mo_count_214 rfl (lv_at hl 5 rfl) ?_
                            refine lv_aload_n hx hb d_Mo_count_215 rfl (lv_at hl 5 rfl) ?_
                            refine zg_get (ci := 11) (C := "ZoneAnswersModel") (T := T_Mo) (N := 21) hx hb hts zi_Mo hown hK hG k51 rfl 4 (by decide) (hts _ w_1285) (fun _ h9 => h9) rfl d_Mo_count_216 ?_
                            refine lv_iload_n hx hb d_Mo_count_219 rfl (lv_at hl 3 rfl) ?_
                            refine zg_aldq hx hb hK hG 4 k54 rfl (vp_in_nI (by omega) (by omega)) d_Mo_count_220 ?_
                            refine zr_as (y := (va_up (fun _ => none) 0 (some rq)) 0) (by rw [zi_n _ (by omega)]) ?_
                            refine zr_some (a := rq) (by first | rfl | simp [va_up]) ?_
                            refine zg_get (ci := 12) (C := "ZoneAnswersModel$Rec") (T := T_Re) (N := 5) hx hb hts zi_Re hown hK hG k55 rfl 0 (by decide) (hts _ w_1265) (fun _ h9 => h9) rfl d_Mo_count_221 ?_
                            refine lv_iconst (v := 0) hx hb d_Mo_count_224 (by decide) ?_
                            refine zi_as (y := nI 0) (nI_0.symm) ?_
                            refine zk_i (va_runV (As := [.ref m3, .int (nI 0)]) (rest := []) ⟨hx, hb, hml, hown, hts⟩ (t_Mo_cut_f l E G49 a m1 m3 m4 m6 m7 m8 m9 m10 m11 m12 m15 m18 rq dt 0 k51 k53) (zcV 2 hts w_1467 w_1469 wp_38 w_30 w_1470 (by decide +kernel) ⟨Nat.le_of_ble_eq_true rfl, Nat.le_of_ble_eq_true rfl⟩) (zc_preV hbase hK hN hQ hG hS k51 rfl) rfl rfl hl.1 rfl (lv_room (Nat.le_of_ble_eq_true rfl)) d_Mo_count_225 ⟨(by decide), (by decide)⟩) hS (fun r225 G225 H locs hp225 hG hS => ?_)
                            have hG : zP E G49 H := hp225.2 ▸ hG
                            refine zi_as (y := 0) hp225.1 ?_
                            refine lv_if_eq (tgt := 234) hx hb d_Mo_count_228 (by decide) (fun c228 => ?_) (fun c228 => ?_)
                            · have b228 : 0 = 0 := (nI_eq (a := 0) (b := 0) (by omega) (by omega)).mp c228
                              refine lv_iload_n hx hb d_Mo_count_234 rfl (lv_at hl 6 rfl) ?_
                              refine lv_iconst (v := 4) hx hb d_Mo_count_235 (by decide) ?_
                              refine lv_icmp_ne (tgt := 247) hx hb d_Mo_count_236 (by decide) (fun c236 => ?_) (fun c236 => ?_)
                              · refine lv_iinc (v := nI (0 + 1)) (lv' := [(3, .int (nI (0 + 1))), (6, .int (nI 0)), (5, .int (nI 0)), (4, .int (nI 0)), (2, .int (nI 0)), (0, .ref a), (1, .int w)]) hx hb d_Mo_count_247 hl (k := 3) rfl (nI_add 0 1) (by decide) rfl (fun ls hl => ?_)
                                refine lv_goto (tgt := 64) hx hb d_Mo_count_250 (by decide) ?_
                                refine lv_iload_n hx hb d_Mo_count_64 rfl (lv_at hl 0 rfl) ?_
                                refine lv_aload_n hx hb d_Mo_count_65 rfl (lv_at hl 5 rfl) ?_
                                refine zg_get (ci := 11) (C := "ZoneAnswersModel") (T := T_Mo) (N := 21) hx hb hts zi_Mo hown hK hG k51 rfl 5 (by decide) (hts _ w_1286) (fun _ h9 => h9) rfl d_Mo_count_66 ?_
                                refine lv_icmp_ge (tgt := 253) hx hb d_Mo_count_69 (by decide) (fun c69 => ?_) (fun c69 => ?_)
                                · have b69 : 1 ≤ (0 + 1) := (nI_leI (a := 1) (b := (0 + 1)) (by omega) (by omega)).mp c69
                                  refine lv_iload_n hx hb d_Mo_count_253 rfl (lv_at hl 4 rfl) ?_
                                  exact hret _ _ _ _ _ _ _ _ _ hr (rfl) (by rw [h9]; decide +kernel) hG hS (by decide) (by decide) d_Mo_count_254
                                · have b69 : ¬ 1 ≤ (0 + 1) := fun q => c69 ((nI_leI (a := 1) (b := (0 + 1)) (by omega) (by omega)).mpr q)
                                  exact absurd b69 (by decide)
                              · rw [h9] at c236
                                exact absurd c236 (by decide)
                            · have b228 : ¬ 0 = 0 := fun q => c228 ((nI_eq (a := 0) (b := 0) (by omega) (by omega)).mpr q)
                              exact absurd b228 (by decide)
                        · rw [h9] at c189
                          exact absurd c189 (by decide)
                    · have b176 : ¬ 0 = 0 := fun q => c176 ((nI_eq (a := 0) (b := 0) (by omega) (by omega)).mpr q)
                      exact absurd b176 (by decide)
                  · rw [h9] at c163
                    exact absurd c163 (by decide)
                · have b84 : ¬ 0 ≤ 0 := fun q => c84 ((nI_leI (a := 0) (b := 0) (by omega) (by omega)).mpr q)
                  exact absurd b84 (by decide)
            · rw [h9] at c55
              exact absurd c55 (by decide)
        · rw [h9] at c27
          exact absurd c27 (by decide)
      · rw [h9] at c16
        exact absurd c16 (by decide)
    · rw [h9] at c6
      exact absurd c6 (by decide)
  · refine lv_aload_n hx hb d_Mo_count_0 rfl (lv_at hl 0 rfl) ?_
    refine lv_iconst (v := 0) hx hb d_Mo_count_1 (by decide) ?_
    refine zg_put (ci := 11) (v := .int 0) (ty := .int) (C := "ZoneAnswersModel") (T := T_Mo) (N := 21) hx hb hts zi_Mo t_Mo t_Mo_ok n_Mo hown hK hG hS hma rfl 0 (by decide) (hts _ w_1281) (fun _ h9 => h9) rfl (by decide +kernel) rfl rfl (Nat.le_of_ble_eq_true rfl) d_Mo_count_2 (fun H locs hG hS => ?_)
    obtain ⟨G57, eG57⟩ : ∃ z : zg_G, z = zg_up G a (.inr (11, [.int 0, .ref m1, .int (nI 0), .ref m3, .ref m4, .int 1, .ref m6, .ref m7, .ref m8, .ref m9, .ref m10, .ref m11, .ref m12, .int 0, .int 0, .ref m15, .int 0, .int 0, .ref m18, .null, .null])) := ⟨_, rfl⟩
    have hG : zP E G57 H := by rw [eG57]; exact hG
    have hx58 : zx (fun q => q = a) G G57 := hx0.tr (by rw [eG57]; exact zx.up (rfl))
    have k59 : G57 a = some (.inr (11, [.int 0, .ref m1, .int (nI 0), .ref m3, .ref m4, .int 1, .ref m6, .ref m7, .ref m8, .ref m9, .ref m10, .ref m11, .ref m12, .int 0, .int 0, .ref m15, .int 0, .int 0, .ref m18, .null, .null])) := by rw [eG57]; exact zg_up_self _ _ _
    have k60 : G57 m1 = some (.inl (E.2.1 0, 65536, .inl (fun _ => 0))) := by rw [eG57, zg_up_ne (zg_ne hm1 hma (by intro h; simp at h))]; exact hm1
    have k61 : G57 m3 = some (.inl (E.2.1 0, 1, .inl (fun _ => 0))) := by rw [eG57, zg_up_ne (zg_ne hm3 hma (by intro h; simp at h))]; exact hm3
    have k62 : G57 m4 = some (.inl (E.2.1 4, 2000, .inr (.inr (.inr (.inr (va_up (fun _ => none) 0 (some rq))))))) := by rw [eG57, zg_up_ne (zg_ne hm4 hma (by intro h; simp at h))]; exact hm4
    have k63 : G57 rq = some (.inr (12, [.ref m3, .ref dt, .null, .int 6, .int 0])) := by rw [eG57, zg_up_ne (zg_ne hrq hma (by intro h; simp at h))]; exact hrq
    have k64 : G57 dt = some (.inl (E.2.1 0, 22, .inl (upd (fun _ => 0) 5 (vp_nar .byte 1)))) := by rw [eG57, zg_up_ne (zg_ne hdt hma (by intro h; simp at h))]; exact hdt
    refine lv_iload_n hx hb d_Mo_count_5 rfl (lv_at hl 1 rfl) ?_
    refine lv_if_ne (tgt := 14) hx hb d_Mo_count_6 (by decide) (fun c6 => ?_) (fun c6 => ?_)
    · refine lv_iload_n hx hb d_Mo_count_14 rfl (lv_at hl 1 rfl) ?_
      refine lv_iconst (v := 1) hx hb d_Mo_count_15 (by decide) ?_
      refine lv_icmp_ne (tgt := 24) hx hb d_Mo_count_16 (by decide) (fun c16 => ?_) (fun c16 => ?_)
      · refine lv_iload_n hx hb d_Mo_count_24 rfl (lv_at hl 1 rfl) ?_
        refine lv_bipush (v := 7) hx hb d_Mo_count_25 (by decide) ?_
        refine lv_icmp_ne (tgt := 48) hx hb d_Mo_count_27 (by decide) (fun c27 => ?_) (fun c27 => ?_)
        · rw [h9] at c27
          exact absurd c27 (by decide)
        · refine lv_aload_n hx hb d_Mo_count_30 rfl (lv_at hl 0 rfl) ?_
          refine zg_get (ci := 11) (C := "ZoneAnswersModel") (T := T_Mo) (N := 21) hx hb hts zi_Mo hown hK hG k59 rfl 4 (by decide) (hts _ w_1285) (fun _ h9 => h9) rfl d_Mo_count_31 ?_
          refine lv_iconst (v := 0) hx hb d_Mo_count_34 (by decide) ?_
          refine zi_as (y := nI 0) (nI_0.symm) ?_
          refine zg_aldq hx hb hK hG 4 k62 rfl (vp_in_nI (by omega) (by omega)) d_Mo_count_35 ?_
          refine zr_as (y := (va_up (fun _ => none) 0 (some rq)) 0) (by rw [zi_n _ (by omega)]) ?_
          refine zr_some (a := rq) (by first | rfl | simp [va_up]) ?_
          refine zg_get (ci := 12) (C := "ZoneAnswersModel$Rec") (T := T_Re) (N := 5) hx hb hts zi_Re hown hK hG k63 rfl 1 (by decide) (hts _ w_1266) (fun _ h9 => h9) rfl d_Mo_count_36 ?_
          refine lv_aload_n hx hb d_Mo_count_39 rfl (lv_at hl 0 rfl) ?_
          refine zk_i (va_runV (As := []) (rest := [.ref dt]) ⟨hx, hb, hml, hown, hts⟩ (t_Mo_numbers_f l E G57 a m1 m3 m4 m6 m7 m8 m9 m10 m11 m12 m15 m18 rq dt 0 k59 k62 k63 k64) (zcV 0 hts w_1441 w_1443 wp_35 w_30 w_1444 (by decide +kernel) ⟨Nat.le_of_ble_eq_true rfl, Nat.le_of_ble_eq_true rfl⟩) (zc_preV hbase hK hN hQ hG hS k59 rfl) rfl rfl hl.1 rfl (lv_room (Nat.le_of_ble_eq_true rfl)) d_Mo_count_40 ⟨(by decide), (by decide)⟩) hS (fun r40 G40 H locs hp40 hG hS => ?_)
          have hG : zP E G57 H := hp40.2 ▸ hG
          refine zi_as (y := nI 2) hp40.1 ?_
          refine zk_l (va_runS (As := [.ref dt, .int (nI 2)]) (rest := []) ⟨hx, hb, hml, hown, hts⟩ (t_Mo_four l E G57 dt 22 (upd (fun _ => 0) 5 (vp_nar .byte 1)) k64 (zf_fitu zf_fit0) (by decide) 2 (by decide)) (zcS 2 hts w_1445 w_1446 w_30 w_1447 (by decide +kernel) ⟨Nat.le_of_ble_eq_true rfl, Nat.le_of_ble_eq_true rfl⟩) (zc_pre hbase hK hN hQ hG hS) rfl rfl hl.1 rfl (lv_room (Nat.le_of_ble_eq_true rfl)) d_Mo_count_43 ⟨(by decide), (by decide)⟩) hS (fun r43 G43 H locs hp43 hG hS => ?_)
          have hG : zP E G57 H := hp43.2 ▸ hG
          refine zl_as (y := zl4 (upd (fun _ => 0) 5 (vp_nar .byte 1)) 2) hp43.1 ?_
          refine lv_l2i hx hb d_Mo_count_46 rfl ?_
          exact hret _ _ _ _ _ _ _ _ _ hr (rfl) (by rw [h9]; decide +kernel) hG hS (by decide) (by decide) d_Mo_count_47
      · rw [h9] at c16
        exact absurd c16 (by decide)
    · rw [h9] at c6
      exact absurd c6 (by decide)
  · refine lv_aload_n hx hb d_Mo_count_0 rfl (lv_at hl 0 rfl) ?_
    refine lv_iconst (v := 0) hx hb d_Mo_count_1 (by decide) ?_
    refine zg_put (ci := 11) (v := .int 0) (ty := .int) (C := "ZoneAnswersModel") (T := T_Mo) (N := 21) hx hb hts zi_Mo t_Mo t_Mo_ok n_Mo hown hK hG hS hma rfl 0 (by decide) (hts _ w_1281) (fun _ h9 => h9) rfl (by decide +kernel) rfl rfl (Nat.le_of_ble_eq_true rfl) d_Mo_count_2 (fun H locs hG hS => ?_)
    obtain ⟨G65, eG65⟩ : ∃ z : zg_G, z = zg_up G a (.inr (11, [.int 0, .ref m1, .int (nI 0), .ref m3, .ref m4, .int 1, .ref m6, .ref m7, .ref m8, .ref m9, .ref m10, .ref m11, .ref m12, .int 0, .int 0, .ref m15, .int 0, .int 0, .ref m18, .null, .null])) := ⟨_, rfl⟩
    have hG : zP E G65 H := by rw [eG65]; exact hG
    have hx66 : zx (fun q => q = a) G G65 := hx0.tr (by rw [eG65]; exact zx.up (rfl))
    have k67 : G65 a = some (.inr (11, [.int 0, .ref m1, .int (nI 0), .ref m3, .ref m4, .int 1, .ref m6, .ref m7, .ref m8, .ref m9, .ref m10, .ref m11, .ref m12, .int 0, .int 0, .ref m15, .int 0, .int 0, .ref m18, .null, .null])) := by rw [eG65]; exact zg_up_self _ _ _
    have k68 : G65 m1 = some (.inl (E.2.1 0, 65536, .inl (fun _ => 0))) := by rw [eG65, zg_up_ne (zg_ne hm1 hma (by intro h; simp at h))]; exact hm1
    have k69 : G65 m3 = some (.inl (E.2.1 0, 1, .inl (fun _ => 0))) := by rw [eG65, zg_up_ne (zg_ne hm3 hma (by intro h; simp at h))]; exact hm3
    have k70 : G65 m4 = some (.inl (E.2.1 4, 2000, .inr (.inr (.inr (.inr (va_up (fun _ => none) 0 (some rq))))))) := by rw [eG65, zg_up_ne (zg_ne hm4 hma (by intro h; simp at h))]; exact hm4
    have k71 : G65 rq = some (.inr (12, [.ref m3, .ref dt, .null, .int 6, .int 0])) := by rw [eG65, zg_up_ne (zg_ne hrq hma (by intro h; simp at h))]; exact hrq
    have k72 : G65 dt = some (.inl (E.2.1 0, 22, .inl (upd (fun _ => 0) 5 (vp_nar .byte 1)))) := by rw [eG65, zg_up_ne (zg_ne hdt hma (by intro h; simp at h))]; exact hdt
    refine lv_iload_n hx hb d_Mo_count_5 rfl (lv_at hl 1 rfl) ?_
    refine lv_if_ne (tgt := 14) hx hb d_Mo_count_6 (by decide) (fun c6 => ?_) (fun c6 => ?_)
    · refine lv_iload_n hx hb d_Mo_count_14 rfl (lv_at hl 1 rfl) ?_
      refine lv_iconst (v := 1) hx hb d_Mo_count_15 (by decide) ?_
      refine lv_icmp_ne (tgt := 24) hx hb d_Mo_count_16 (by decide) (fun c16 => ?_) (fun c16 => ?_)
      · refine lv_iload_n hx hb d_Mo_count_24 rfl (lv_at hl 1 rfl) ?_
        refine lv_bipush (v := 7) hx hb d_Mo_count_25 (by decide) ?_
        refine lv_icmp_ne (tgt := 48) hx hb d_Mo_count_27 (by decide) (fun c27 => ?_) (fun c27 => ?_)
        · refine lv_iload_n hx hb d_Mo_count_48 rfl (lv_at hl 1 rfl) ?_
          refine lv_if_lt (tgt := 58) hx hb d_Mo_count_49 (by decide) (fun c49 => ?_) (fun c49 => ?_)
          · refine lv_iconst (v := -1) hx hb d_Mo_count_58 (by decide) ?_
            exact hret _ _ _ _ _ _ _ _ _ hr (rfl) (by unfold zcnt; rw [if_neg (fun q => absurd h9 (by rw [q]; decide)), if_neg (fun q => absurd h9 (by rw [q]; decide)), if_neg (fun q => absurd h9 (by rw [q]; decide)), if_neg (fun q => absurd h9 (by rw [q]; decide)), if_neg (fun q => absurd h9 (by rw [q]; decide)), if_neg (fun q => absurd h9 (by rw [q]; decide)), if_neg (fun q => absurd h9 (by rw [q]; decide)), if_neg (fun q => absurd h9 (by rw [q]; decide))]) hG hS (by decide) (by decide) d_Mo_count_59
          · refine lv_iload_n hx hb d_Mo_count_52 rfl (lv_at hl 1 rfl) ?_
            refine lv_bipush (v := 7) hx hb d_Mo_count_53 (by decide) ?_
            refine lv_icmp_le (tgt := 60) hx hb d_Mo_count_55 (by decide) (fun c55 => ?_) (fun c55 => ?_)
            · exact absurd h9 (fun q => q.elim (fun z => absurd z c49) (fun z => absurd c55 (Int32.not_le.mpr z)))
            · refine lv_iconst (v := -1) hx hb d_Mo_count_58 (by decide) ?_
              exact hret _ _ _ _ _ _ _ _ _ hr (rfl) (by unfold zcnt; rw [if_neg (fun q => absurd h9 (by rw [q]; decide)), if_neg (fun q => absurd h9 (by rw [q]; decide)), if_neg (fun q => absurd h9 (by rw [q]; decide)), if_neg (fun q => absurd h9 (by rw [q]; decide)), if_neg (fun q => absurd h9 (by rw [q]; decide)), if_neg (fun q => absurd h9 (by rw [q]; decide)), if_neg (fun q => absurd h9 (by rw [q]; decide)), if_neg (fun q => absurd h9 (by rw [q]; decide))]) hG hS (by decide) (by decide) d_Mo_count_59
        · rw [c27] at h9
          exact absurd h9 (by decide)
      · rw [c16] at h9
        exact absurd h9 (by decide)
    · rw [c6] at h9
      exact absurd h9 (by decide)
abbrev rm_Mo_serial_f : Room := { frames := 4, cells := 1, slots := 22, locals := 110 }
set_option maxHeartbeats 4000000 in
set_option maxRecDepth 100000 in
/-- serial(y), of the new reference -/
theorem t_Mo_serial_f (l : Launch) (E : zc_E) (G : zg_G) (a m1 m3 m4 m6 m7 m8 m9 m10 m11 m12 m15 m18 rq dt : Nat) (hM : zMod E G a m1 m3 m4 m6 m7 m8 m9 m10 m11 m12 m15 m18 rq dt) (y : Int32) : zMi l E y_Mo_serial c_Mo_serial 6 (some .int) rm_Mo_serial_f [.ref a, .int y] G (fun (r : Int32) (G2 : zg_G) => r = 1) := by
  refine zMi.of (by decide) (Nat.le_of_ble_eq_true rfl) ?_
  intro p e s m args below meth c Q hZ hG hret ls hl
  obtain ⟨hx, hb, hr, hts, hown, hlocks, hml, hnm, hbase, hK, hN, hQ⟩ := hZ
  have hl : lv_has ls 6 [(0, .ref a), (1, .int y)] := hl
  have hS : zg_S (zc_b E) s.heap s.heap [] := va_S.rf
  obtain ⟨hma, hm1, hm3, hm4, hrq, hdt⟩ := id hM
  have hx0 : zx (fun q => q = a ∨ q = rq) G G := zx.rf
  refine lv_aload_n hx hb d_Mo_serial_0 rfl (lv_at hl 0 rfl) ?_
  refine lv_iconst (v := 0) hx hb d_Mo_serial_1 (by decide) ?_
  refine zg_put (ci := 11) (v := .int 0) (ty := .int) (C := "ZoneAnswersModel") (T := T_Mo) (N := 21) hx hb hts zi_Mo t_Mo t_Mo_ok n_Mo hown hK hG hS hma rfl 0 (by decide) (hts _ w_1281) (fun _ h9 => h9) rfl (by decide +kernel) rfl rfl (Nat.le_of_ble_eq_true rfl) d_Mo_serial_2 (fun H locs hG hS => ?_)
  obtain ⟨G1, eG1⟩ : ∃ z : zg_G, z = zg_up G a (.inr (11, [.int 0, .ref m1, .int (nI 0), .ref m3, .ref m4, .int 1, .ref m6, .ref m7, .ref m8, .ref m9, .ref m10, .ref m11, .ref m12, .int 0, .int 0, .ref m15, .int 0, .int 0, .ref m18, .null, .null])) := ⟨_, rfl⟩
  have hG : zP E G1 H := by rw [eG1]; exact hG
  have hx2 : zx (fun q => q = a ∨ q = rq) G G1 := hx0.tr (by rw [eG1]; exact zx.up (Or.inl rfl))
  have k3 : G1 a = some (.inr (11, [.int 0, .ref m1, .int (nI 0), .ref m3, .ref m4, .int 1, .ref m6, .ref m7, .ref m8, .ref m9, .ref m10, .ref m11, .ref m12, .int 0, .int 0, .ref m15, .int 0, .int 0, .ref m18, .null, .null])) := by rw [eG1]; exact zg_up_self _ _ _
  have k4 : G1 m1 = some (.inl (E.2.1 0, 65536, .inl (fun _ => 0))) := by rw [eG1, zg_up_ne (zg_ne hm1 hma (by intro h; simp at h))]; exact hm1
  have k5 : G1 m3 = some (.inl (E.2.1 0, 1, .inl (fun _ => 0))) := by rw [eG1, zg_up_ne (zg_ne hm3 hma (by intro h; simp at h))]; exact hm3
  have k6 : G1 m4 = some (.inl (E.2.1 4, 2000, .inr (.inr (.inr (.inr (va_up (fun _ => none) 0 (some rq))))))) := by rw [eG1, zg_up_ne (zg_ne hm4 hma (by intro h; simp at h))]; exact hm4
  have k7 : G1 rq = some (.inr (12, [.ref m3, .ref dt, .null, .int 6, .int 0])) := by rw [eG1, zg_up_ne (zg_ne hrq hma (by intro h; simp at h))]; exact hrq
  have k8 : G1 dt = some (.inl (E.2.1 0, 22, .inl (upd (fun _ => 0) 5 (vp_nar .byte 1)))) := by rw [eG1, zg_up_ne (zg_ne hdt hma (by intro h; simp at h))]; exact hdt
  refine lv_aload_n hx hb d_Mo_serial_5 rfl (lv_at hl 0 rfl) ?_
  refine zg_get (ci := 11) (C := "ZoneAnswersModel") (T := T_Mo) (N := 21) hx hb hts zi_Mo hown hK hG k3 rfl 4 (by decide) (hts _ w_1285) (fun _ h9 => h9) rfl d_Mo_serial_6 ?_
  refine lv_iconst (v := 0) hx hb d_Mo_serial_9 (by decide) ?_
  refine zi_as (y := nI 0) (nI_0.symm) ?_
  refine zg_aldq hx hb hK hG 4 k6 rfl (vp_in_nI (by omega) (by omega)) d_Mo_serial_10 ?_
  refine zr_as (y := (va_up (fun _ => none) 0 (some rq)) 0) (by rw [zi_n _ (by omega)]) ?_
  refine zr_some (a := rq) (by first | rfl | simp [va_up]) ?_
  refine zg_get (ci := 12) (C := "ZoneAnswersModel$Rec") (T := T_Re) (N := 5) hx hb hts zi_Re hown hK hG k7 rfl 1 (by decide) (hts _ w_1266) (fun _ h9 => h9) rfl d_Mo_serial_11 ?_
  refine lv_iconst (v := 0) hx hb d_Mo_serial_14 (by decide) ?_
  refine zi_as (y := nI 0) (nI_0.symm) ?_
  refine lv_aload_n hx hb d_Mo_serial_15 rfl (lv_at hl 0 rfl) ?_
  refine zg_get (ci := 11) (C := "ZoneAnswersModel") (T := T_Mo) (N := 21) hx hb hts zi_Mo hown hK hG k3 rfl 4 (by decide) (hts _ w_1285) (fun _ h9 => h9) rfl d_Mo_serial_16 ?_
  refine lv_iconst (v := 0) hx hb d_Mo_serial_19 (by decide) ?_
  refine zi_as (y := nI 0) (nI_0.symm) ?_
  refine zg_aldq hx hb hK hG 4 k6 rfl (vp_in_nI (by omega) (by omega)) d_Mo_serial_20 ?_
  refine zr_as (y := (va_up (fun _ => none) 0 (some rq)) 0) (by rw [zi_n _ (by omega)]) ?_
  refine zr_some (a := rq) (by first | rfl | simp [va_up]) ?_
  refine zg_get (ci := 12) (C := "ZoneAnswersModel$Rec") (T := T_Re) (N := 5) hx hb hts zi_Re hown hK hG k7 rfl 1 (by decide) (hts _ w_1266) (fun _ h9 => h9) rfl d_Mo_serial_21 ?_
  refine zg_alen hx hb hK hG 0 k8 rfl (v := nI 22) rfl d_Mo_serial_24 ?_
  have hGo25 := hG
  refine zk_q (va_runS (As := [.ref dt, .int (nI 0), .int (nI 22)]) (rest := []) ⟨hx, hb, hml, hown, hts⟩ (t_Ns_cut l E G1 dt 22 (upd (fun _ => 0) 5 (vp_nar .byte 1)) k8 (zf_fitu zf_fit0) (by decide) 0 22 (by decide) (by decide)) (zcS 3 hts w_1391 w_1373 w_33 w_1374 (by decide +kernel) ⟨Nat.le_of_ble_eq_true rfl, Nat.le_of_ble_eq_true rfl⟩) (zc_pre hbase hK hN hQ hG hS) rfl rfl hl.1 rfl (lv_room (Nat.le_of_ble_eq_true rfl)) d_Mo_serial_25 ⟨(by decide), (by decide)⟩) hS (fun r25 G25 H locs hp25 hG hS => ?_)
  obtain ⟨q25, f25, er25, nq25, hx25, hq25, hft25, hlo25⟩ := hp25
  refine zr_some (a := q25) er25 ?_
  have nf25 : G q25 = none := zx.fr hx2 nq25 (fun h => by rcases h with h | h <;> (have n9 := nq25; rw [h] at n9; first | (rw [k3] at n9; cases n9) | (rw [k7] at n9; cases n9)))
  have k9 : G25 a = some (.inr (11, [.int 0, .ref m1, .int (nI 0), .ref m3, .ref m4, .int 1, .ref m6, .ref m7, .ref m8, .ref m9, .ref m10, .ref m11, .ref m12, .int 0, .int 0, .ref m15, .int 0, .int 0, .ref m18, .null, .null])) := hx25.o k3
  have ne_q25_a : a ≠ q25 := zg_fr nq25 k3
  have k10 : G25 m1 = some (.inl (E.2.1 0, 65536, .inl (fun _ => 0))) := hx25.o k4
  have ne_q25_m1 : m1 ≠ q25 := zg_fr nq25 k4
  have k11 : G25 m3 = some (.inl (E.2.1 0, 1, .inl (fun _ => 0))) := hx25.o k5
  have ne_q25_m3 : m3 ≠ q25 := zg_fr nq25 k5
  have k12 : G25 m4 = some (.inl (E.2.1 4, 2000, .inr (.inr (.inr (.inr (va_up (fun _ => none) 0 (some rq))))))) := hx25.o k6
  have ne_q25_m4 : m4 ≠ q25 := zg_fr nq25 k6
  have k13 : G25 rq = some (.inr (12, [.ref m3, .ref dt, .null, .int 6, .int 0])) := hx25.o k7
  have ne_q25_rq : rq ≠ q25 := zg_fr nq25 k7
  have k14 : G25 dt = some (.inl (E.2.1 0, 22, .inl (upd (fun _ => 0) 5 (vp_nar .byte 1)))) := hx25.o k8
  have ne_q25_dt : dt ≠ q25 := zg_fr nq25 k8
  have hx15 : zx (fun q => q = a ∨ q = rq) G G25 := hx2.tr (hx25.w (fun _ z => z.elim))
  refine lv_astore_n (lv' := [(2, .ref q25), (0, .ref a), (1, .int y)]) hx hb d_Mo_serial_28 rfl hl (by decide) rfl (fun ls hl => ?_)
  refine lv_aload_n hx hb d_Mo_serial_29 rfl (lv_at hl 1 rfl) ?_
  refine zk_i (va_runV (As := []) (rest := []) ⟨hx, hb, hml, hown, hts⟩ (t_Mo_numbers_f l E G25 a m1 m3 m4 m6 m7 m8 m9 m10 m11 m12 m15 m18 rq dt 0 k9 k12 k13 k14) (zcV 0 hts w_1441 w_1443 wp_35 w_30 w_1444 (by decide +kernel) ⟨Nat.le_of_ble_eq_true rfl, Nat.le_of_ble_eq_true rfl⟩) (zc_preV hbase hK hN hQ hG hS k9 rfl) rfl rfl hl.1 rfl (lv_room (Nat.le_of_ble_eq_true rfl)) d_Mo_serial_30 ⟨(by decide), (by decide)⟩) hS (fun r30 G30 H locs hp30 hG hS => ?_)
  have hG : zP E G25 H := hp30.2 ▸ hG
  refine zi_as (y := nI 2) hp30.1 ?_
  refine lv_istore_n (lv' := [(3, .int (nI 2)), (2, .ref q25), (0, .ref a), (1, .int y)]) hx hb d_Mo_serial_33 rfl hl (by decide) rfl (fun ls hl => ?_)
  refine lv_aload_n hx hb d_Mo_serial_34 rfl (lv_at hl 1 rfl) ?_
  refine lv_iload_n hx hb d_Mo_serial_35 rfl (lv_at hl 0 rfl) ?_
  refine zk_l (va_runS (As := [.ref q25, .int (nI 2)]) (rest := []) ⟨hx, hb, hml, hown, hts⟩ (t_Mo_four l E G25 q25 22 f25 hq25 hft25 (by decide) 2 (by decide)) (zcS 2 hts w_1445 w_1446 w_30 w_1447 (by decide +kernel) ⟨Nat.le_of_ble_eq_true rfl, Nat.le_of_ble_eq_true rfl⟩) (zc_pre hbase hK hN hQ hG hS) rfl rfl hl.1 rfl (lv_room (Nat.le_of_ble_eq_true rfl)) d_Mo_serial_36 ⟨(by decide), (by decide)⟩) hS (fun r36 G36 H locs hp36 hG hS => ?_)
  have hG : zP E G25 H := hp36.2 ▸ hG
  refine zl_as (y := zl4 f25 2) hp36.1 ?_
  refine lv_l2i hx hb d_Mo_serial_39 rfl ?_
  refine lv_istore (lv' := [(4, .int ((zl4 f25 2).toInt32)), (3, .int (nI 2)), (2, .ref q25), (0, .ref a), (1, .int y)]) hx hb d_Mo_serial_40 hl (by decide) rfl (fun ls hl => ?_)
  refine lv_iconst (v := 0) hx hb d_Mo_serial_42 (by decide) ?_
  refine zi_as (y := nI 0) (nI_0.symm) ?_
  refine lv_istore (lv' := [(5, .int (nI 0)), (4, .int ((zl4 f25 2).toInt32)), (3, .int (nI 2)), (2, .ref q25), (0, .ref a), (1, .int y)]) hx hb d_Mo_serial_43 hl (by decide) rfl (fun ls hl => ?_)
  refine lv_iload hx hb d_Mo_serial_45 (lv_at hl 0 rfl) ?_
  refine lv_iconst (v := 4) hx hb d_Mo_serial_47 (by decide) ?_
  refine lv_icmp_ge (tgt := 74) hx hb d_Mo_serial_48 (by decide) (fun c48 => ?_) (fun c48 => ?_)
  · have b48 : 4 ≤ 0 := (nI_leI (a := 4) (b := 0) (by omega) (by omega)).mp c48
    exact absurd b48 (by decide)
  · have b48 : ¬ 4 ≤ 0 := fun q => c48 ((nI_leI (a := 4) (b := 0) (by omega) (by omega)).mpr q)
    refine lv_aload_n hx hb d_Mo_serial_51 rfl (lv_at hl 3 rfl) ?_
    refine lv_iload_n hx hb d_Mo_serial_52 rfl (lv_at hl 2 rfl) ?_
    refine lv_iload hx hb d_Mo_serial_53 (lv_at hl 0 rfl) ?_
    refine lv_iadd hx hb d_Mo_serial_55 ?_
    refine zi_as (y := nI (2 + 0)) (nI_add 2 0) ?_
    refine lv_iload_n hx hb d_Mo_serial_56 rfl (lv_at hl 5 rfl) ?_
    refine lv_bipush (v := 24) hx hb d_Mo_serial_57 (by decide) ?_
    refine lv_bipush (v := 8) hx hb d_Mo_serial_59 (by decide) ?_
    refine lv_iload hx hb d_Mo_serial_61 (lv_at hl 0 rfl) ?_
    refine lv_imul hx hb d_Mo_serial_63 ?_
    refine zi_as (y := nI (8 * 0)) (pk_mul 8 0) ?_
    refine lv_isub hx hb d_Mo_serial_64 ?_
    refine zi_as (y := nI (24 - (8 * 0))) (zi_sub (a := 24) (b := 8 * 0) (by omega)) ?_
    refine lv_ishr hx hb d_Mo_serial_65 ?_
    refine lv_i2b hx hb d_Mo_serial_66 rfl ?_
    refine zg_bast hx hb hK hG hS 0 hq25 rfl (vp_in_nI (by omega) (by omega)) d_Mo_serial_67 (fun H locs hG hS => ?_)
    rw [zi_n (2 + 0) (by omega)] at hG
    obtain ⟨G16, eG16⟩ : ∃ z : zg_G, z = zg_up G25 q25 (.inl (E.2.1 0, 22, .inl (upd f25 (2 + 0) (vp_nar .byte ((y >>> ((nI (24 - (8 * 0))) &&& 31)).toInt8.toInt32))))) := ⟨_, rfl⟩
    have hG : zP E G16 H := by rw [eG16]; exact hG
    have hx17 : zx (fun q => q = a ∨ q = rq) G G16 := by rw [eG16]; exact hx15.upn nf25
    have k18 : G16 a = some (.inr (11, [.int 0, .ref m1, .int (nI 0), .ref m3, .ref m4, .int 1, .ref m6, .ref m7, .ref m8, .ref m9, .ref m10, .ref m11, .ref m12, .int 0, .int 0, .ref m15, .int 0, .int 0, .ref m18, .null, .null])) := by rw [eG16, zg_up_ne (ne_q25_a)]; exact k9
    have k19 : G16 m1 = some (.inl (E.2.1 0, 65536, .inl (fun _ => 0))) := by rw [eG16, zg_up_ne (ne_q25_m1)]; exact k10
    have k20 : G16 m3 = some (.inl (E.2.1 0, 1, .inl (fun _ => 0))) := by rw [eG16, zg_up_ne (ne_q25_m3)]; exact k11
    have k21 : G16 m4 = some (.inl (E.2.1 4, 2000, .inr (.inr (.inr (.inr (va_up (fun _ => none) 0 (some rq))))))) := by rw [eG16, zg_up_ne (ne_q25_m4)]; exact k12
    have k22 : G16 rq = some (.inr (12, [.ref m3, .ref dt, .null, .int 6, .int 0])) := by rw [eG16, zg_up_ne (ne_q25_rq)]; exact k13
    have k23 : G16 dt = some (.inl (E.2.1 0, 22, .inl (upd (fun _ => 0) 5 (vp_nar .byte 1)))) := by rw [eG16, zg_up_ne (ne_q25_dt)]; exact k14
    have k24 : G16 q25 = some (.inl (E.2.1 0, 22, .inl (upd f25 (2 + 0) (vp_nar .byte ((y >>> ((nI (24 - (8 * 0))) &&& 31)).toInt8.toInt32))))) := by rw [eG16]; exact zg_up_self _ _ _
    refine lv_iinc (v := nI (0 + 1)) (lv' := [(5, .int (nI (0 + 1))), (4, .int ((zl4 f25 2).toInt32)), (3, .int (nI 2)), (2, .ref q25), (0, .ref a), (1, .int y)]) hx hb d_Mo_serial_68 hl (k := 0) rfl (nI_add 0 1) (by decide) rfl (fun ls hl => ?_)
    refine lv_goto (tgt := 45) hx hb d_Mo_serial_71 (by decide) ?_
    refine lv_iload hx hb d_Mo_serial_45 (lv_at hl 0 rfl) ?_
    refine lv_iconst (v := 4) hx hb d_Mo_serial_47 (by decide) ?_
    refine lv_icmp_ge (tgt := 74) hx hb d_Mo_serial_48 (by decide) (fun c48 => ?_) (fun c48 => ?_)
    · have b48 : 4 ≤ (0 + 1) := (nI_leI (a := 4) (b := (0 + 1)) (by omega) (by omega)).mp c48
      exact absurd b48 (by decide)
    · have b48 : ¬ 4 ≤ (0 + 1) := fun q => c48 ((nI_leI (a := 4) (b := (0 + 1)) (by omega) (by omega)).mpr q)
      refine lv_aload_n hx hb d_Mo_serial_51 rfl (lv_at hl 3 rfl) ?_
      refine lv_iload_n hx hb d_Mo_serial_52 rfl (lv_at hl 2 rfl) ?_
      refine lv_iload hx hb d_Mo_serial_53 (lv_at hl 0 rfl) ?_
      refine lv_iadd hx hb d_Mo_serial_55 ?_
      refine zi_as (y := nI (2 + (0 + 1))) (nI_add 2 (0 + 1)) ?_
      refine lv_iload_n hx hb d_Mo_serial_56 rfl (lv_at hl 5 rfl) ?_
      refine lv_bipush (v := 24) hx hb d_Mo_serial_57 (by decide) ?_
      refine lv_bipush (v := 8) hx hb d_Mo_serial_59 (by decide) ?_
      refine lv_iload hx hb d_Mo_serial_61 (lv_at hl 0 rfl) ?_
      refine lv_imul hx hb d_Mo_serial_63 ?_
      refine zi_as (y := nI (8 * (0 + 1))) (pk_mul 8 (0 + 1)) ?_
      refine lv_isub hx hb d_Mo_serial_64 ?_
      refine zi_as (y := nI (24 - (8 * (0 + 1)))) (zi_sub (a := 24) (b := 8 * (0 + 1)) (by omega)) ?_
      refine lv_ishr hx hb d_Mo_serial_65 ?_
      refine lv_i2b hx hb d_Mo_serial_66 rfl ?_
      refine zg_bast hx hb hK hG hS 0 k24 rfl (vp_in_nI (by omega) (by omega)) d_Mo_serial_67 (fun H locs hG hS => ?_)
      rw [zi_n (2 + (0 + 1)) (by omega)] at hG
      obtain ⟨G25, eG25⟩ : ∃ z : zg_G, z = zg_up G16 q25 (.inl (E.2.1 0, 22, .inl (upd (upd f25 (2 + 0) (vp_nar .byte ((y >>> ((nI (24 - (8 * 0))) &&& 31)).toInt8.toInt32))) (2 + (0 + 1)) (vp_nar .byte ((y >>> ((nI (24 - (8 * (0 + 1)))) &&& 31)).toInt8.toInt32))))) := ⟨_, rfl⟩
      have hG : zP E G25 H := by rw [eG25]; exact hG
      have hx26 : zx (fun q => q = a ∨ q = rq) G G25 := by rw [eG25]; exact hx17.upn nf25
      have k27 : G25 a = some (.inr (11, [.int 0, .ref m1, .int (nI 0), .ref m3, .ref m4, .int 1, .ref m6, .ref m7, .ref m8, .ref m9, .ref m10, .ref m11, .ref m12, .int 0, .int 0, .ref m15, .int 0, .int 0, .ref m18, .null, .null])) := by rw [eG25, zg_up_ne (ne_q25_a)]; exact k18
      have k28 : G25 m1 = some (.inl (E.2.1 0, 65536, .inl (fun _ => 0))) := by rw [eG25, zg_up_ne (ne_q25_m1)]; exact k19
      have k29 : G25 m3 = some (.inl (E.2.1 0, 1, .inl (fun _ => 0))) := by rw [eG25, zg_up_ne (ne_q25_m3)]; exact k20
      have k30 : G25 m4 = some (.inl (E.2.1 4, 2000, .inr (.inr (.inr (.inr (va_up (fun _ => none) 0 (some rq))))))) := by rw [eG25, zg_up_ne (ne_q25_m4)]; exact k21
      have k31 : G25 rq = some (.inr (12, [.ref m3, .ref dt, .null, .int 6, .int 0])) := by rw [eG25, zg_up_ne (ne_q25_rq)]; exact k22
      have k32 : G25 dt = some (.inl (E.2.1 0, 22, .inl (upd (fun _ => 0) 5 (vp_nar .byte 1)))) := by rw [eG25, zg_up_ne (ne_q25_dt)]; exact k23
      have k33 : G25 q25 = some (.inl (E.2.1 0, 22, .inl (upd (upd f25 (2 + 0) (vp_nar .byte ((y >>> ((nI (24 - (8 * 0))) &&& 31)).toInt8.toInt32))) (2 + (0 + 1)) (vp_nar .byte ((y >>> ((nI (24 - (8 * (0 + 1)))) &&& 31)).toInt8.toInt32))))) := by rw [eG25]; exact zg_up_self _ _ _
      refine lv_iinc (v := nI (0 + 1 + 1)) (lv' := [(5, .int (nI (0 + 1 + 1))), (4, .int ((zl4 f25 2).toInt32)), (3, .int (nI 2)), (2, .ref q25), (0, .ref a), (1, .int y)]) hx hb d_Mo_serial_68 hl (k := 0) rfl (nI_add (0 + 1) 1) (by decide) rfl (fun ls hl => ?_)
      refine lv_goto (tgt := 45) hx hb d_Mo_serial_71 (by decide) ?_
      refine lv_iload hx hb d_Mo_serial_45 (lv_at hl 0 rfl) ?_
      refine lv_iconst (v := 4) hx hb d_Mo_serial_47 (by decide) ?_
      refine lv_icmp_ge (tgt := 74) hx hb d_Mo_serial_48 (by decide) (fun c48 => ?_) (fun c48 => ?_)
      · have b48 : 4 ≤ (0 + 1 + 1) := (nI_leI (a := 4) (b := (0 + 1 + 1)) (by omega) (by omega)).mp c48
        exact absurd b48 (by decide)
      · have b48 : ¬ 4 ≤ (0 + 1 + 1) := fun q => c48 ((nI_leI (a := 4) (b := (0 + 1 + 1)) (by omega) (by omega)).mpr q)
        refine lv_aload_n hx hb d_Mo_serial_51 rfl (lv_at hl 3 rfl) ?_
        refine lv_iload_n hx hb d_Mo_serial_52 rfl (lv_at hl 2 rfl) ?_
        refine lv_iload hx hb d_Mo_serial_53 (lv_at hl 0 rfl) ?_
        refine lv_iadd hx hb d_Mo_serial_55 ?_
        refine zi_as (y := nI (2 + (0 + 1 + 1))) (nI_add 2 (0 + 1 + 1)) ?_
        refine lv_iload_n hx hb d_Mo_serial_56 rfl (lv_at hl 5 rfl) ?_
        refine lv_bipush (v := 24) hx hb d_Mo_serial_57 (by decide) ?_
        refine lv_bipush (v := 8) hx hb d_Mo_serial_59 (by decide) ?_
        refine lv_iload hx hb d_Mo_serial_61 (lv_at hl 0 rfl) ?_
        refine lv_imul hx hb d_Mo_serial_63 ?_
        refine zi_as (y := nI (8 * (0 + 1 + 1))) (pk_mul 8 (0 + 1 + 1)) ?_
        refine lv_isub hx hb d_Mo_serial_64 ?_
        refine zi_as (y := nI (24 - (8 * (0 + 1 + 1)))) (zi_sub (a := 24) (b := 8 * (0 + 1 + 1)) (by omega)) ?_
        refine lv_ishr hx hb d_Mo_serial_65 ?_
        refine lv_i2b hx hb d_Mo_serial_66 rfl ?_
        refine zg_bast hx hb hK hG hS 0 k33 rfl (vp_in_nI (by omega) (by omega)) d_Mo_serial_67 (fun H locs hG hS => ?_)
        rw [zi_n (2 + (0 + 1 + 1)) (by omega)] at hG
        obtain ⟨G34, eG34⟩ : ∃ z : zg_G, z = zg_up G25 q25 (.inl (E.2.1 0, 22, .inl (upd (upd (upd f25 (2 + 0) (vp_nar .byte ((y >>> ((nI (24 - (8 * 0))) &&& 31)).toInt8.toInt32))) (2 + (0 + 1)) (vp_nar .byte ((y >>> ((nI (24 - (8 * (0 + 1)))) &&& 31)).toInt8.toInt32))) (2 + (0 + 1 + 1)) (vp_nar .byte ((y >>> ((nI (24 - (8 * (0 + 1 + 1)))) &&& 31)).toInt8.toInt32))))) := ⟨_, rfl⟩
        have hG : zP E G34 H := by rw [eG34]; exact hG
        have hx35 : zx (fun q => q = a ∨ q = rq) G G34 := by rw [eG34]; exact hx26.upn nf25
        have k36 : G34 a = some (.inr (11, [.int 0, .ref m1, .int (nI 0), .ref m3, .ref m4, .int 1, .ref m6, .ref m7, .ref m8, .ref m9, .ref m10, .ref m11, .ref m12, .int 0, .int 0, .ref m15, .int 0, .int 0, .ref m18, .null, .null])) := by rw [eG34, zg_up_ne (ne_q25_a)]; exact k27
        have k37 : G34 m1 = some (.inl (E.2.1 0, 65536, .inl (fun _ => 0))) := by rw [eG34, zg_up_ne (ne_q25_m1)]; exact k28
        have k38 : G34 m3 = some (.inl (E.2.1 0, 1, .inl (fun _ => 0))) := by rw [eG34, zg_up_ne (ne_q25_m3)]; exact k29
        have k39 : G34 m4 = some (.inl (E.2.1 4, 2000, .inr (.inr (.inr (.inr (va_up (fun _ => none) 0 (some rq))))))) := by rw [eG34, zg_up_ne (ne_q25_m4)]; exact k30
        have k40 : G34 rq = some (.inr (12, [.ref m3, .ref dt, .null, .int 6, .int 0])) := by rw [eG34, zg_up_ne (ne_q25_rq)]; exact k31
        have k41 : G34 dt = some (.inl (E.2.1 0, 22, .inl (upd (fun _ => 0) 5 (vp_nar .byte 1)))) := by rw [eG34, zg_up_ne (ne_q25_dt)]; exact k32
        have k42 : G34 q25 = some (.inl (E.2.1 0, 22, .inl (upd (upd (upd f25 (2 + 0) (vp_nar .byte ((y >>> ((nI (24 - (8 * 0))) &&& 31)).toInt8.toInt32))) (2 + (0 + 1)) (vp_nar .byte ((y >>> ((nI (24 - (8 * (0 + 1)))) &&& 31)).toInt8.toInt32))) (2 + (0 + 1 + 1)) (vp_nar .byte ((y >>> ((nI (24 - (8 * (0 + 1 + 1)))) &&& 31)).toInt8.toInt32))))) := by rw [eG34]; exact zg_up_self _ _ _
        refine lv_iinc (v := nI (0 + 1 + 1 + 1)) (lv' := [(5, .int (nI (0 + 1 + 1 + 1))), (4, .int ((zl4 f25 2).toInt32)), (3, .int (nI 2)), (2, .ref q25), (0, .ref a), (1, .int y)]) hx hb d_Mo_serial_68 hl (k := 0) rfl (nI_add (0 + 1 + 1) 1) (by decide) rfl (fun ls hl => ?_)
        refine lv_goto (tgt := 45) hx hb d_Mo_serial_71 (by decide) ?_
        refine lv_iload hx hb d_Mo_serial_45 (lv_at hl 0 rfl) ?_
        refine lv_iconst (v := 4) hx hb d_Mo_serial_47 (by decide) ?_
        refine lv_icmp_ge (tgt := 74) hx hb d_Mo_serial_48 (by decide) (fun c48 => ?_) (fun c48 => ?_)
        · have b48 : 4 ≤ (0 + 1 + 1 + 1) := (nI_leI (a := 4) (b := (0 + 1 + 1 + 1)) (by omega) (by omega)).mp c48
          exact absurd b48 (by decide)
        · have b48 : ¬ 4 ≤ (0 + 1 + 1 + 1) := fun q => c48 ((nI_leI (a := 4) (b := (0 + 1 + 1 + 1)) (by omega) (by omega)).mpr q)
          refine lv_aload_n hx hb d_Mo_serial_51 rfl (lv_at hl 3 rfl) ?_
          refine lv_iload_n hx hb d_Mo_serial_52 rfl (lv_at hl 2 rfl) ?_
          refine lv_iload hx hb d_Mo_serial_53 (lv_at hl 0 rfl) ?_
          refine lv_iadd hx hb d_Mo_serial_55 ?_
          refine zi_as (y := nI (2 + (0 + 1 + 1 + 1))) (nI_add 2 (0 + 1 + 1 + 1)) ?_
          refine lv_iload_n hx hb d_Mo_serial_56 rfl (lv_at hl 5 rfl) ?_
          refine lv_bipush (v := 24) hx hb d_Mo_serial_57 (by decide) ?_
          refine lv_bipush (v := 8) hx hb d_Mo_serial_59 (by decide) ?_
          refine lv_iload hx hb d_Mo_serial_61 (lv_at hl 0 rfl) ?_
          refine lv_imul hx hb d_Mo_serial_63 ?_
          refine zi_as (y := nI (8 * (0 + 1 + 1 + 1))) (pk_mul 8 (0 + 1 + 1 + 1)) ?_
          refine lv_isub hx hb d_Mo_serial_64 ?_
          refine zi_as (y := nI (24 - (8 * (0 + 1 + 1 + 1)))) (zi_sub (a := 24) (b := 8 * (0 + 1 + 1 + 1)) (by omega)) ?_
          refine lv_ishr hx hb d_Mo_serial_65 ?_
          refine lv_i2b hx hb d_Mo_serial_66 rfl ?_
          refine zg_bast hx hb hK hG hS 0 k42 rfl (vp_in_nI (by omega) (by omega)) d_Mo_serial_67 (fun H locs hG hS => ?_)
          rw [zi_n (2 + (0 + 1 + 1 + 1)) (by omega)] at hG
          obtain ⟨G43, eG43⟩ : ∃ z : zg_G, z = zg_up G34 q25 (.inl (E.2.1 0, 22, .inl (upd (upd (upd (upd f25 (2 + 0) (vp_nar .byte ((y >>> ((nI (24 - (8 * 0))) &&& 31)).toInt8.toInt32))) (2 + (0 + 1)) (vp_nar .byte ((y >>> ((nI (24 - (8 * (0 + 1)))) &&& 31)).toInt8.toInt32))) (2 + (0 + 1 + 1)) (vp_nar .byte ((y >>> ((nI (24 - (8 * (0 + 1 + 1)))) &&& 31)).toInt8.toInt32))) (2 + (0 + 1 + 1 + 1)) (vp_nar .byte ((y >>> ((nI (24 - (8 * (0 + 1 + 1 + 1)))) &&& 31)).toInt8.toInt32))))) := ⟨_, rfl⟩
          have hG : zP E G43 H := by rw [eG43]; exact hG
          have hx44 : zx (fun q => q = a ∨ q = rq) G G43 := by rw [eG43]; exact hx35.upn nf25
          have k45 : G43 a = some (.inr (11, [.int 0, .ref m1, .int (nI 0), .ref m3, .ref m4, .int 1, .ref m6, .ref m7, .ref m8, .ref m9, .ref m10, .ref m11, .ref m12, .int 0, .int 0, .ref m15, .int 0, .int 0, .ref m18, .null, .null])) := by rw [eG43, zg_up_ne (ne_q25_a)]; exact k36
          have k46 : G43 m1 = some (.inl (E.2.1 0, 65536, .inl (fun _ => 0))) := by rw [eG43, zg_up_ne (ne_q25_m1)]; exact k37
          have k47 : G43 m3 = some (.inl (E.2.1 0, 1, .inl (fun _ => 0))) := by rw [eG43, zg_up_ne (ne_q25_m3)]; exact k38
          have k48 : G43 m4 = some (.inl (E.2.1 4, 2000, .inr (.inr (.inr (.inr (va_up (fun _ => none) 0 (some rq))))))) := by rw [eG43, zg_up_ne (ne_q25_m4)]; exact k39
          have k49 : G43 rq = some (.inr (12, [.ref m3, .ref dt, .null, .int 6, .int 0])) := by rw [eG43, zg_up_ne (ne_q25_rq)]; exact k40
          have k50 : G43 dt = some (.inl (E.2.1 0, 22, .inl (upd (fun _ => 0) 5 (vp_nar .byte 1)))) := by rw [eG43, zg_up_ne (ne_q25_dt)]; exact k41
          have k51 : G43 q25 = some (.inl (E.2.1 0, 22, .inl (upd (upd (upd (upd f25 (2 + 0) (vp_nar .byte ((y >>> ((nI (24 - (8 * 0))) &&& 31)).toInt8.toInt32))) (2 + (0 + 1)) (vp_nar .byte ((y >>> ((nI (24 - (8 * (0 + 1)))) &&& 31)).toInt8.toInt32))) (2 + (0 + 1 + 1)) (vp_nar .byte ((y >>> ((nI (24 - (8 * (0 + 1 + 1)))) &&& 31)).toInt8.toInt32))) (2 + (0 + 1 + 1 + 1)) (vp_nar .byte ((y >>> ((nI (24 - (8 * (0 + 1 + 1 + 1)))) &&& 31)).toInt8.toInt32))))) := by rw [eG43]; exact zg_up_self _ _ _
          refine lv_iinc (v := nI (0 + 1 + 1 + 1 + 1)) (lv' := [(5, .int (nI (0 + 1 + 1 + 1 + 1))), (4, .int ((zl4 f25 2).toInt32)), (3, .int (nI 2)), (2, .ref q25), (0, .ref a), (1, .int y)]) hx hb d_Mo_serial_68 hl (k := 0) rfl (nI_add (0 + 1 + 1 + 1) 1) (by decide) rfl (fun ls hl => ?_)
          refine lv_goto (tgt := 45) hx hb d_Mo_serial_71 (by decide) ?_
          refine lv_iload hx hb d_Mo_serial_45 (lv_at hl 0 rfl) ?_
          refine lv_iconst (v := 4) hx hb d_Mo_serial_47 (by decide) ?_
          refine lv_icmp_ge (tgt := 74) hx hb d_Mo_serial_48 (by decide) (fun c48 => ?_) (fun c48 => ?_)
          · have b48 : 4 ≤ (0 + 1 + 1 + 1 + 1) := (nI_leI (a := 4) (b := (0 + 1 + 1 + 1 + 1)) (by omega) (by omega)).mp c48
            refine lv_aload_n hx hb d_Mo_serial_74 rfl (lv_at hl 4 rfl) ?_
            refine zg_get (ci := 11) (C := "ZoneAnswersModel") (T := T_Mo) (N := 21) hx hb hts zi_Mo hown hK hG k45 rfl 4 (by decide) (hts _ w_1285) (fun _ h9 => h9) rfl d_Mo_serial_75 ?_
            refine lv_iconst (v := 0) hx hb d_Mo_serial_78 (by decide) ?_
            refine zi_as (y := nI 0) (nI_0.symm) ?_
            refine zg_aldq hx hb hK hG 4 k48 rfl (vp_in_nI (by omega) (by omega)) d_Mo_serial_79 ?_
            refine zr_as (y := (va_up (fun _ => none) 0 (some rq)) 0) (by rw [zi_n _ (by omega)]) ?_
            refine zr_some (a := rq) (by first | rfl | simp [va_up]) ?_
            refine lv_aload_n hx hb d_Mo_serial_80 rfl (lv_at hl 3 rfl) ?_
            refine zg_put (ci := 12) (v := .ref q25) (ty := .array .byte) (C := "ZoneAnswersModel$Rec") (T := T_Re) (N := 5) hx hb hts zi_Re t_Re t_Re_ok n_Re hown hK hG hS k49 rfl 1 (by decide) (hts _ w_1266) (fun _ h9 => h9) rfl (by decide +kernel) rfl rfl (Nat.le_of_ble_eq_true rfl) d_Mo_serial_81 (fun H locs hG hS => ?_)
            obtain ⟨G52, eG52⟩ : ∃ z : zg_G, z = zg_up G43 rq (.inr (12, [.ref m3, .ref q25, .null, .int 6, .int 0])) := ⟨_, rfl⟩
            have hG : zP E G52 H := by rw [eG52]; exact hG
            have hx53 : zx (fun q => q = a ∨ q = rq) G G52 := hx44.tr (by rw [eG52]; exact zx.up (Or.inr rfl))
            have k54 : G52 a = some (.inr (11, [.int 0, .ref m1, .int (nI 0), .ref m3, .ref m4, .int 1, .ref m6, .ref m7, .ref m8, .ref m9, .ref m10, .ref m11, .ref m12, .int 0, .int 0, .ref m15, .int 0, .int 0, .ref m18, .null, .null])) := by rw [eG52, zg_up_ne (zg_ne k45 k49 (by intro h; simp at h))]; exact k45
            have k55 : G52 m1 = some (.inl (E.2.1 0, 65536, .inl (fun _ => 0))) := by rw [eG52, zg_up_ne (zg_ne k46 k49 (by intro h; simp at h))]; exact k46
            have k56 : G52 m3 = some (.inl (E.2.1 0, 1, .inl (fun _ => 0))) := by rw [eG52, zg_up_ne (zg_ne k47 k49 (by intro h; simp at h))]; exact k47
            have k57 : G52 m4 = some (.inl (E.2.1 4, 2000, .inr (.inr (.inr (.inr (va_up (fun _ => none) 0 (some rq))))))) := by rw [eG52, zg_up_ne (zg_ne k48 k49 (by intro h; simp at h))]; exact k48
            have k58 : G52 rq = some (.inr (12, [.ref m3, .ref q25, .null, .int 6, .int 0])) := by rw [eG52]; exact zg_up_self _ _ _
            have k59 : G52 dt = some (.inl (E.2.1 0, 22, .inl (upd (fun _ => 0) 5 (vp_nar .byte 1)))) := by rw [eG52, zg_up_ne (zg_ne k50 k49 (by intro h; simp at h))]; exact k50
            have k60 : G52 q25 = some (.inl (E.2.1 0, 22, .inl (upd (upd (upd (upd f25 (2 + 0) (vp_nar .byte ((y >>> ((nI (24 - (8 * 0))) &&& 31)).toInt8.toInt32))) (2 + (0 + 1)) (vp_nar .byte ((y >>> ((nI (24 - (8 * (0 + 1)))) &&& 31)).toInt8.toInt32))) (2 + (0 + 1 + 1)) (vp_nar .byte ((y >>> ((nI (24 - (8 * (0 + 1 + 1)))) &&& 31)).toInt8.toInt32))) (2 + (0 + 1 + 1 + 1)) (vp_nar .byte ((y >>> ((nI (24 - (8 * (0 + 1 + 1 + 1)))) &&& 31)).toInt8.toInt32))))) := by rw [eG52, zg_up_ne (Ne.symm ne_q25_rq)]; exact k51
            refine lv_iload hx hb d_Mo_serial_84 (lv_at hl 1 rfl) ?_
            exact hret _ _ _ _ _ _ _ _ _ hr (rfl) (by show (zl4 f25 2).toInt32 = 1; unfold zl4; rw [hlo25 (2 + 0) (by decide), hlo25 (2 + 1) (by decide), hlo25 (2 + 2) (by decide), hlo25 (2 + 3) (by decide)]; decide +kernel) hG hS (by decide) (by decide) d_Mo_serial_86
          · have b48 : ¬ 4 ≤ (0 + 1 + 1 + 1 + 1) := fun q => c48 ((nI_leI (a := 4) (b := (0 + 1 + 1 + 1 + 1)) (by omega) (by omega)).mpr q)
            exact absurd b48 (by decide)
