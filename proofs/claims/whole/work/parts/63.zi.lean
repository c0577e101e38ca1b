set_option maxRecDepth 100000 in
theorem zt_nse : (Bundle.ownAtoms0 "ZoneAnswers" 124 "java/util/NoSuchElementException" zt_up).all zt_ok = true := by decide +kernel
theorem zNm_e {F : Nat → Int32} {N : Nat} (h : N = 0) : ¬ ∃ ls, zNm F N ls := by
  rintro ⟨ls, -, h2, -⟩
  have : 1 ≤ np_len ls := by unfold np_len; omega
  omega
theorem zE_e {F : Nat → Int32} {N x : Nat} {r : Int32} (h : zE F N x r) (h0 : N = 0) : r = -1 := by
  rcases h with ⟨ls, q, -⟩ | ⟨-, q⟩
  · exact absurd ⟨ls, q⟩ (zNm_e h0)
  · exact q
theorem zsec (x : Int32) : x = 1 ∨ x = 2 ∨ x = 3 ∨ (¬ x = 1 ∧ ¬ x = 2 ∧ ¬ x = 3) := by
  by_cases h1 : x = 1
  · exact Or.inl h1
  · by_cases h2 : x = 2
    · exact Or.inr (Or.inl h2)
    · by_cases h3 : x = 3
      · exact Or.inr (Or.inr (Or.inl h3))
      · exact Or.inr (Or.inr (Or.inr ⟨h1, h2, h3⟩))
theorem w_35 : (.initialized "java/util/NoSuchElementException" : Cond) ∈ zw := zw_at 35 (by decide +kernel) (by decide +kernel)
theorem w_854 : (.methodLink "ZoneAnswers" 80 ⟨"ZoneAnswers", "recordName", "(I)LZoneAnswers$Name;"⟩ : Cond) ∈ zw := zw_at 854 (by decide +kernel) (by decide +kernel)
theorem w_856 : (.instanceMethod ⟨"ZoneAnswers", "recordName", "(I)LZoneAnswers$Name;"⟩ : Cond) ∈ zw := zw_at 856 (by decide +kernel) (by decide +kernel)
theorem w_857 : (.code ⟨"ZoneAnswers", "recordName", "(I)LZoneAnswers$Name;"⟩ prog_1_method_16_code 4 (some (.object "ZoneAnswers$Name")) : Cond) ∈ zw := zw_at 857 (by decide +kernel) (by decide +kernel)
theorem w_944 : (.classLink "ZoneAnswers" 122 "java/util/NoSuchElementException" : Cond) ∈ zw := zw_at 944 (by decide +kernel) (by decide +kernel)
theorem w_945 : (.instantiable "java/util/NoSuchElementException" 6 : Cond) ∈ zw := zw_at 945 (by decide +kernel) (by decide +kernel)
theorem w_991 : (.methodLink "ZoneAnswers" 133 ⟨"ZoneAnswers", "tapeName", "()LZoneAnswers$Name;"⟩ : Cond) ∈ zw := zw_at 991 (by decide +kernel) (by decide +kernel)
theorem w_993 : (.instanceMethod ⟨"ZoneAnswers", "tapeName", "()LZoneAnswers$Name;"⟩ : Cond) ∈ zw := zw_at 993 (by decide +kernel) (by decide +kernel)
theorem w_994 : (.code ⟨"ZoneAnswers", "tapeName", "()LZoneAnswers$Name;"⟩ prog_1_method_15_code 2 (some (.object "ZoneAnswers$Name")) : Cond) ∈ zw := zw_at 994 (by decide +kernel) (by decide +kernel)
theorem w_1189 : (.instanceMethod ⟨"ZoneAnswers$Section", "size", "()I"⟩ : Cond) ∈ zw := zw_at 1189 (by decide +kernel) (by decide +kernel)
theorem w_1190 : (.selects "ZoneAnswers$Section" ⟨"ZoneAnswers$Section", "size", "()I"⟩ ⟨"ZoneAnswers$Section", "size", "()I"⟩ : Cond) ∈ zw := zw_at 1190 (by decide +kernel) (by decide +kernel)
theorem w_1191 : (.code ⟨"ZoneAnswers$Section", "size", "()I"⟩ prog_7_method_3_code 1 (some .int) : Cond) ∈ zw := zw_at 1191 (by decide +kernel) (by decide +kernel)
theorem w_1193 : (.instanceMethod ⟨"ZoneAnswers$Section", "row", "(I)LZoneAnswers$Told;"⟩ : Cond) ∈ zw := zw_at 1193 (by decide +kernel) (by decide +kernel)
theorem w_1194 : (.selects "ZoneAnswers$Section" ⟨"ZoneAnswers$Section", "row", "(I)LZoneAnswers$Told;"⟩ ⟨"ZoneAnswers$Section", "row", "(I)LZoneAnswers$Told;"⟩ : Cond) ∈ zw := zw_at 1194 (by decide +kernel) (by decide +kernel)
theorem w_1195 : (.code ⟨"ZoneAnswers$Section", "row", "(I)LZoneAnswers$Told;"⟩ prog_7_method_4_code 2 (some (.object "ZoneAnswers$Told")) : Cond) ∈ zw := zw_at 1195 (by decide +kernel) (by decide +kernel)
theorem w_1204 : (.methodLink "ZoneAnswers" 165 ⟨"ZoneAnswers$Answer", "section", "(I)LZoneAnswers$Section;"⟩ : Cond) ∈ zw := zw_at 1204 (by decide +kernel) (by decide +kernel)
theorem w_1205 : (.instanceMethod ⟨"ZoneAnswers$Answer", "section", "(I)LZoneAnswers$Section;"⟩ : Cond) ∈ zw := zw_at 1205 (by decide +kernel) (by decide +kernel)
theorem w_1206 : (.selects "ZoneAnswers$Answer" ⟨"ZoneAnswers$Answer", "section", "(I)LZoneAnswers$Section;"⟩ ⟨"ZoneAnswers$Answer", "section", "(I)LZoneAnswers$Section;"⟩ : Cond) ∈ zw := zw_at 1206 (by decide +kernel) (by decide +kernel)
theorem w_1207 : (.code ⟨"ZoneAnswers$Answer", "section", "(I)LZoneAnswers$Section;"⟩ prog_2_method_2_code 2 (some (.object "ZoneAnswers$Section")) : Cond) ∈ zw := zw_at 1207 (by decide +kernel) (by decide +kernel)
theorem w_1208 : (.methodLink "ZoneAnswers" 169 ⟨"ZoneAnswers$Section", "size", "()I"⟩ : Cond) ∈ zw := zw_at 1208 (by decide +kernel) (by decide +kernel)
theorem w_1216 : (.methodLink "ZoneAnswers" 172 ⟨"ZoneAnswers", "row", "(II)LZoneAnswers$Told;"⟩ : Cond) ∈ zw := zw_at 1216 (by decide +kernel) (by decide +kernel)
theorem w_1218 : (.instanceMethod ⟨"ZoneAnswers", "row", "(II)LZoneAnswers$Told;"⟩ : Cond) ∈ zw := zw_at 1218 (by decide +kernel) (by decide +kernel)
theorem w_1219 : (.code ⟨"ZoneAnswers", "row", "(II)LZoneAnswers$Told;"⟩ prog_1_method_17_code 4 (some (.object "ZoneAnswers$Told")) : Cond) ∈ zw := zw_at 1219 (by decide +kernel) (by decide +kernel)
theorem w_1220 : (.methodLink "ZoneAnswers" 234 ⟨"ZoneAnswers$Section", "row", "(I)LZoneAnswers$Told;"⟩ : Cond) ∈ zw := zw_at 1220 (by decide +kernel) (by decide +kernel)
theorem wp_10 : (.selects "ZoneAnswers" ⟨"ZoneAnswers", "recordName", "(I)LZoneAnswers$Name;"⟩ ⟨"ZoneAnswers", "recordName", "(I)LZoneAnswers$Name;"⟩ : Cond) ∈ zw := zw_pv 10 (y := ⟨"ZoneAnswers", "recordName", "(I)LZoneAnswers$Name;"⟩) rfl (by decide +kernel)
theorem wp_14 : (.selects "ZoneAnswers" ⟨"ZoneAnswers", "tapeName", "()LZoneAnswers$Name;"⟩ ⟨"ZoneAnswers", "tapeName", "()LZoneAnswers$Name;"⟩ : Cond) ∈ zw := zw_pv 14 (y := ⟨"ZoneAnswers", "tapeName", "()LZoneAnswers$Name;"⟩) rfl (by decide +kernel)
theorem wp_24 : (.selects "ZoneAnswers" ⟨"ZoneAnswers", "row", "(II)LZoneAnswers$Told;"⟩ ⟨"ZoneAnswers", "row", "(II)LZoneAnswers$Told;"⟩ : Cond) ∈ zw := zw_pv 24 (y := ⟨"ZoneAnswers", "row", "(II)LZoneAnswers$Told;"⟩) rfl (by decide +kernel)
abbrev c_ZA_origin : ByteArray := prog_1_method_4_code
abbrev y_ZA_origin : MethodName := ⟨"ZoneAnswers", "origin", "(IIIII)V"⟩
theorem d_ZA_origin_0 : decode c_ZA_origin 0 = .ok (.aload_n 0, 1) := by decide +kernel
theorem d_ZA_origin_1 : decode c_ZA_origin 1 = .ok (.getfield 10, 3) := by decide +kernel
theorem d_ZA_origin_4 : decode c_ZA_origin 4 = .ok (.iconst 0, 1) := by decide +kernel
theorem d_ZA_origin_5 : decode c_ZA_origin 5 = .ok (.invokevirtual 62, 3) := by decide +kernel
theorem d_ZA_origin_8 : decode c_ZA_origin 8 = .ok (.istore 6, 2) := by decide +kernel
theorem d_ZA_origin_10 : decode c_ZA_origin 10 = .ok (.aload_n 0, 1) := by decide +kernel
theorem d_ZA_origin_11 : decode c_ZA_origin 11 = .ok (.getfield 10, 3) := by decide +kernel
theorem d_ZA_origin_14 : decode c_ZA_origin 14 = .ok (.iload 6, 2) := by decide +kernel
theorem d_ZA_origin_16 : decode c_ZA_origin 16 = .ok (.invokevirtual 62, 3) := by decide +kernel
theorem d_ZA_origin_19 : decode c_ZA_origin 19 = .ok (.istore 7, 2) := by decide +kernel
theorem d_ZA_origin_21 : decode c_ZA_origin 21 = .ok (.aload_n 0, 1) := by decide +kernel
theorem d_ZA_origin_22 : decode c_ZA_origin 22 = .ok (.getfield 10, 3) := by decide +kernel
theorem d_ZA_origin_25 : decode c_ZA_origin 25 = .ok (.iload 7, 2) := by decide +kernel
theorem d_ZA_origin_27 : decode c_ZA_origin 27 = .ok (.invokevirtual 62, 3) := by decide +kernel
theorem d_ZA_origin_30 : decode c_ZA_origin 30 = .ok (.istore 8, 2) := by decide +kernel
theorem d_ZA_origin_32 : decode c_ZA_origin 32 = .ok (.iload_n 1, 1) := by decide +kernel
theorem d_ZA_origin_33 : decode c_ZA_origin 33 = .ok (.ifCond .lt 20, 3) := by decide +kernel
theorem d_ZA_origin_36 : decode c_ZA_origin 36 = .ok (.iload 8, 2) := by decide +kernel
theorem d_ZA_origin_38 : decode c_ZA_origin 38 = .ok (.ifCond .lt 15, 3) := by decide +kernel
theorem d_ZA_origin_41 : decode c_ZA_origin 41 = .ok (.iload 8, 2) := by decide +kernel
theorem d_ZA_origin_43 : decode c_ZA_origin 43 = .ok (.aload_n 0, 1) := by decide +kernel
theorem d_ZA_origin_44 : decode c_ZA_origin 44 = .ok (.getfield 10, 3) := by decide +kernel
theorem d_ZA_origin_47 : decode c_ZA_origin 47 = .ok (.invokevirtual 52, 3) := by decide +kernel
theorem d_ZA_origin_50 : decode c_ZA_origin 50 = .ok (.if_icmp .eq 11, 3) := by decide +kernel
theorem d_ZA_origin_53 : decode c_ZA_origin 53 = .ok (.new 56, 3) := by decide +kernel
theorem d_ZA_origin_56 : decode c_ZA_origin 56 = .ok (.dup, 1) := by decide +kernel
theorem d_ZA_origin_57 : decode c_ZA_origin 57 = .ok (.invokespecial 58, 3) := by decide +kernel
theorem d_ZA_origin_60 : decode c_ZA_origin 60 = .ok (.athrow, 1) := by decide +kernel
theorem d_ZA_origin_61 : decode c_ZA_origin 61 = .ok (.iload 8, 2) := by decide +kernel
theorem d_ZA_origin_63 : decode c_ZA_origin 63 = .ok (.iload 6, 2) := by decide +kernel
theorem d_ZA_origin_65 : decode c_ZA_origin 65 = .ok (.isub, 1) := by decide +kernel
theorem d_ZA_origin_66 : decode c_ZA_origin 66 = .ok (.istore 9, 2) := by decide +kernel
theorem d_ZA_origin_68 : decode c_ZA_origin 68 = .ok (.aload_n 0, 1) := by decide +kernel
theorem d_ZA_origin_69 : decode c_ZA_origin 69 = .ok (.getfield 10, 3) := by decide +kernel
theorem d_ZA_origin_72 : decode c_ZA_origin 72 = .ok (.iload 6, 2) := by decide +kernel
theorem d_ZA_origin_74 : decode c_ZA_origin 74 = .ok (.iload 8, 2) := by decide +kernel
theorem d_ZA_origin_76 : decode c_ZA_origin 76 = .ok (.invokevirtual 66, 3) := by decide +kernel
theorem d_ZA_origin_79 : decode c_ZA_origin 79 = .ok (.iload 9, 2) := by decide +kernel
theorem d_ZA_origin_81 : decode c_ZA_origin 81 = .ok (.bipush 20, 2) := by decide +kernel
theorem d_ZA_origin_83 : decode c_ZA_origin 83 = .ok (.iadd, 1) := by decide +kernel
theorem d_ZA_origin_84 : decode c_ZA_origin 84 = .ok (.invokestatic 70, 3) := by decide +kernel
theorem d_ZA_origin_87 : decode c_ZA_origin 87 = .ok (.astore 10, 2) := by decide +kernel
theorem d_ZA_origin_89 : decode c_ZA_origin 89 = .ok (.aload 10, 2) := by decide +kernel
theorem d_ZA_origin_91 : decode c_ZA_origin 91 = .ok (.iload 9, 2) := by decide +kernel
theorem d_ZA_origin_93 : decode c_ZA_origin 93 = .ok (.iconst 4, 1) := by decide +kernel
theorem d_ZA_origin_94 : decode c_ZA_origin 94 = .ok (.iadd, 1) := by decide +kernel
theorem d_ZA_origin_95 : decode c_ZA_origin 95 = .ok (.iload_n 2, 1) := by decide +kernel
theorem d_ZA_origin_96 : decode c_ZA_origin 96 = .ok (.invokestatic 76, 3) := by decide +kernel
theorem d_ZA_origin_99 : decode c_ZA_origin 99 = .ok (.aload 10, 2) := by decide +kernel
theorem d_ZA_origin_101 : decode c_ZA_origin 101 = .ok (.iload 9, 2) := by decide +kernel
theorem d_ZA_origin_103 : decode c_ZA_origin 103 = .ok (.bipush 8, 2) := by decide +kernel
theorem d_ZA_origin_105 : decode c_ZA_origin 105 = .ok (.iadd, 1) := by decide +kernel
theorem d_ZA_origin_106 : decode c_ZA_origin 106 = .ok (.iload_n 3, 1) := by decide +kernel
theorem d_ZA_origin_107 : decode c_ZA_origin 107 = .ok (.invokestatic 76, 3) := by decide +kernel
theorem d_ZA_origin_110 : decode c_ZA_origin 110 = .ok (.aload 10, 2) := by decide +kernel
theorem d_ZA_origin_112 : decode c_ZA_origin 112 = .ok (.iload 9, 2) := by decide +kernel
theorem d_ZA_origin_114 : decode c_ZA_origin 114 = .ok (.bipush 12, 2) := by decide +kernel
theorem d_ZA_origin_116 : decode c_ZA_origin 116 = .ok (.iadd, 1) := by decide +kernel
theorem d_ZA_origin_117 : decode c_ZA_origin 117 = .ok (.iload 4, 2) := by decide +kernel
theorem d_ZA_origin_119 : decode c_ZA_origin 119 = .ok (.invokestatic 76, 3) := by decide +kernel
theorem d_ZA_origin_122 : decode c_ZA_origin 122 = .ok (.aload 10, 2) := by decide +kernel
theorem d_ZA_origin_124 : decode c_ZA_origin 124 = .ok (.iload 9, 2) := by decide +kernel
theorem d_ZA_origin_126 : decode c_ZA_origin 126 = .ok (.bipush 16, 2) := by decide +kernel
theorem d_ZA_origin_128 : decode c_ZA_origin 128 = .ok (.iadd, 1) := by decide +kernel
theorem d_ZA_origin_129 : decode c_ZA_origin 129 = .ok (.iload 5, 2) := by decide +kernel
theorem d_ZA_origin_131 : decode c_ZA_origin 131 = .ok (.invokestatic 76, 3) := by decide +kernel
theorem d_ZA_origin_134 : decode c_ZA_origin 134 = .ok (.aload_n 0, 1) := by decide +kernel
theorem d_ZA_origin_135 : decode c_ZA_origin 135 = .ok (.getfield 19, 3) := by decide +kernel
theorem d_ZA_origin_138 : decode c_ZA_origin 138 = .ok (.new 23, 3) := by decide +kernel
theorem d_ZA_origin_141 : decode c_ZA_origin 141 = .ok (.dup, 1) := by decide +kernel
theorem d_ZA_origin_142 : decode c_ZA_origin 142 = .ok (.aload_n 0, 1) := by decide +kernel
theorem d_ZA_origin_143 : decode c_ZA_origin 143 = .ok (.getfield 10, 3) := by decide +kernel
theorem d_ZA_origin_146 : decode c_ZA_origin 146 = .ok (.iconst 0, 1) := by decide +kernel
theorem d_ZA_origin_147 : decode c_ZA_origin 147 = .ok (.iload 6, 2) := by decide +kernel
theorem d_ZA_origin_149 : decode c_ZA_origin 149 = .ok (.invokevirtual 66, 3) := by decide +kernel
theorem d_ZA_origin_152 : decode c_ZA_origin 152 = .ok (.invokespecial 25, 3) := by decide +kernel
theorem d_ZA_origin_155 : decode c_ZA_origin 155 = .ok (.aload 10, 2) := by decide +kernel
theorem d_ZA_origin_157 : decode c_ZA_origin 157 = .ok (.iload_n 1, 1) := by decide +kernel
theorem d_ZA_origin_158 : decode c_ZA_origin 158 = .ok (.invokevirtual 28, 3) := by decide +kernel
theorem d_ZA_origin_161 : decode c_ZA_origin 161 = .ok (.aload_n 0, 1) := by decide +kernel
theorem d_ZA_origin_162 : decode c_ZA_origin 162 = .ok (.getfield 10, 3) := by decide +kernel
theorem d_ZA_origin_165 : decode c_ZA_origin 165 = .ok (.iconst 0, 1) := by decide +kernel
theorem d_ZA_origin_166 : decode c_ZA_origin 166 = .ok (.invokevirtual 59, 3) := by decide +kernel
theorem d_ZA_origin_169 : decode c_ZA_origin 169 = .ok (.return_, 1) := by decide +kernel
abbrev c_ZA_put : ByteArray := prog_1_method_5_code
abbrev y_ZA_put : MethodName := ⟨"ZoneAnswers", "put", "(II)I"⟩
theorem d_ZA_put_0 : decode c_ZA_put 0 = .ok (.aload_n 0, 1) := by decide +kernel
theorem d_ZA_put_1 : decode c_ZA_put 1 = .ok (.iload_n 1, 1) := by decide +kernel
theorem d_ZA_put_2 : decode c_ZA_put 2 = .ok (.invokevirtual 80, 3) := by decide +kernel
theorem d_ZA_put_5 : decode c_ZA_put 5 = .ok (.astore_n 3, 1) := by decide +kernel
theorem d_ZA_put_6 : decode c_ZA_put 6 = .ok (.aload_n 3, 1) := by decide +kernel
theorem d_ZA_put_7 : decode c_ZA_put 7 = .ok (.ifnull 7, 3) := by decide +kernel
theorem d_ZA_put_10 : decode c_ZA_put 10 = .ok (.iload_n 2, 1) := by decide +kernel
theorem d_ZA_put_11 : decode c_ZA_put 11 = .ok (.ifCond .ge 11, 3) := by decide +kernel
theorem d_ZA_put_14 : decode c_ZA_put 14 = .ok (.new 56, 3) := by decide +kernel
theorem d_ZA_put_17 : decode c_ZA_put 17 = .ok (.dup, 1) := by decide +kernel
theorem d_ZA_put_18 : decode c_ZA_put 18 = .ok (.invokespecial 58, 3) := by decide +kernel
theorem d_ZA_put_21 : decode c_ZA_put 21 = .ok (.athrow, 1) := by decide +kernel
theorem d_ZA_put_22 : decode c_ZA_put 22 = .ok (.aload_n 0, 1) := by decide +kernel
theorem d_ZA_put_23 : decode c_ZA_put 23 = .ok (.getfield 19, 3) := by decide +kernel
theorem d_ZA_put_26 : decode c_ZA_put 26 = .ok (.aload_n 3, 1) := by decide +kernel
theorem d_ZA_put_27 : decode c_ZA_put 27 = .ok (.invokevirtual 84, 3) := by decide +kernel
theorem d_ZA_put_30 : decode c_ZA_put 30 = .ok (.astore 4, 2) := by decide +kernel
theorem d_ZA_put_32 : decode c_ZA_put 32 = .ok (.aload 4, 2) := by decide +kernel
theorem d_ZA_put_34 : decode c_ZA_put 34 = .ok (.ifnonnull 7, 3) := by decide +kernel
theorem d_ZA_put_37 : decode c_ZA_put 37 = .ok (.aconst_null, 1) := by decide +kernel
theorem d_ZA_put_38 : decode c_ZA_put 38 = .ok (.goto 9, 3) := by decide +kernel
theorem d_ZA_put_41 : decode c_ZA_put 41 = .ok (.aload 4, 2) := by decide +kernel
theorem d_ZA_put_43 : decode c_ZA_put 43 = .ok (.iload_n 1, 1) := by decide +kernel
theorem d_ZA_put_44 : decode c_ZA_put 44 = .ok (.invokevirtual 88, 3) := by decide +kernel
theorem d_ZA_put_47 : decode c_ZA_put 47 = .ok (.astore 5, 2) := by decide +kernel
theorem d_ZA_put_49 : decode c_ZA_put 49 = .ok (.aload 5, 2) := by decide +kernel
theorem d_ZA_put_51 : decode c_ZA_put 51 = .ok (.ifnull 19, 3) := by decide +kernel
theorem d_ZA_put_54 : decode c_ZA_put 54 = .ok (.aload 5, 2) := by decide +kernel
theorem d_ZA_put_56 : decode c_ZA_put 56 = .ok (.aload_n 0, 1) := by decide +kernel
theorem d_ZA_put_57 : decode c_ZA_put 57 = .ok (.getfield 10, 3) := by decide +kernel
theorem d_ZA_put_60 : decode c_ZA_put 60 = .ok (.aload_n 3, 1) := by decide +kernel
theorem d_ZA_put_61 : decode c_ZA_put 61 = .ok (.invokevirtual 94, 3) := by decide +kernel
theorem d_ZA_put_64 : decode c_ZA_put 64 = .ok (.invokevirtual 95, 3) := by decide +kernel
theorem d_ZA_put_67 : decode c_ZA_put 67 = .ok (.ifCond .ge 71, 3) := by decide +kernel
theorem d_ZA_put_70 : decode c_ZA_put 70 = .ok (.aload_n 0, 1) := by decide +kernel
theorem d_ZA_put_71 : decode c_ZA_put 71 = .ok (.getfield 19, 3) := by decide +kernel
theorem d_ZA_put_74 : decode c_ZA_put 74 = .ok (.invokevirtual 101, 3) := by decide +kernel
theorem d_ZA_put_77 : decode c_ZA_put 77 = .ok (.ifCond .eq 11, 3) := by decide +kernel
theorem d_ZA_put_80 : decode c_ZA_put 80 = .ok (.new 45, 3) := by decide +kernel
theorem d_ZA_put_83 : decode c_ZA_put 83 = .ok (.dup, 1) := by decide +kernel
theorem d_ZA_put_84 : decode c_ZA_put 84 = .ok (.invokespecial 47, 3) := by decide +kernel
theorem d_ZA_put_87 : decode c_ZA_put 87 = .ok (.athrow, 1) := by decide +kernel
theorem d_ZA_put_88 : decode c_ZA_put 88 = .ok (.aload 4, 2) := by decide +kernel
theorem d_ZA_put_90 : decode c_ZA_put 90 = .ok (.ifnull 25, 3) := by decide +kernel
theorem d_ZA_put_93 : decode c_ZA_put 93 = .ok (.iload_n 1, 1) := by decide +kernel
theorem d_ZA_put_94 : decode c_ZA_put 94 = .ok (.iconst 5, 1) := by decide +kernel
theorem d_ZA_put_95 : decode c_ZA_put 95 = .ok (.if_icmp .eq 12, 3) := by decide +kernel
theorem d_ZA_put_98 : decode c_ZA_put 98 = .ok (.aload 4, 2) := by decide +kernel
theorem d_ZA_put_100 : decode c_ZA_put 100 = .ok (.iconst 5, 1) := by decide +kernel
theorem d_ZA_put_101 : decode c_ZA_put 101 = .ok (.invokevirtual 88, 3) := by decide +kernel
theorem d_ZA_put_104 : decode c_ZA_put 104 = .ok (.ifnull 11, 3) := by decide +kernel
theorem d_ZA_put_107 : decode c_ZA_put 107 = .ok (.new 104, 3) := by decide +kernel
theorem d_ZA_put_110 : decode c_ZA_put 110 = .ok (.dup, 1) := by decide +kernel
theorem d_ZA_put_111 : decode c_ZA_put 111 = .ok (.invokespecial 106, 3) := by decide +kernel
theorem d_ZA_put_114 : decode c_ZA_put 114 = .ok (.athrow, 1) := by decide +kernel
theorem d_ZA_put_115 : decode c_ZA_put 115 = .ok (.aload_n 0, 1) := by decide +kernel
theorem d_ZA_put_116 : decode c_ZA_put 116 = .ok (.getfield 19, 3) := by decide +kernel
theorem d_ZA_put_119 : decode c_ZA_put 119 = .ok (.aload_n 3, 1) := by decide +kernel
theorem d_ZA_put_120 : decode c_ZA_put 120 = .ok (.iload_n 1, 1) := by decide +kernel
theorem d_ZA_put_121 : decode c_ZA_put 121 = .ok (.aload_n 0, 1) := by decide +kernel
theorem d_ZA_put_122 : decode c_ZA_put 122 = .ok (.getfield 10, 3) := by decide +kernel
theorem d_ZA_put_125 : decode c_ZA_put 125 = .ok (.iload_n 1, 1) := by decide +kernel
theorem d_ZA_put_126 : decode c_ZA_put 126 = .ok (.aload_n 3, 1) := by decide +kernel
theorem d_ZA_put_127 : decode c_ZA_put 127 = .ok (.invokevirtual 94, 3) := by decide +kernel
theorem d_ZA_put_130 : decode c_ZA_put 130 = .ok (.invokevirtual 107, 3) := by decide +kernel
theorem d_ZA_put_133 : decode c_ZA_put 133 = .ok (.invokevirtual 111, 3) := by decide +kernel
theorem d_ZA_put_136 : decode c_ZA_put 136 = .ok (.astore 5, 2) := by decide +kernel
theorem d_ZA_put_138 : decode c_ZA_put 138 = .ok (.aload 5, 2) := by decide +kernel
theorem d_ZA_put_140 : decode c_ZA_put 140 = .ok (.iload_n 2, 1) := by decide +kernel
theorem d_ZA_put_141 : decode c_ZA_put 141 = .ok (.putfield 115, 3) := by decide +kernel
theorem d_ZA_put_144 : decode c_ZA_put 144 = .ok (.aload_n 0, 1) := by decide +kernel
theorem d_ZA_put_145 : decode c_ZA_put 145 = .ok (.getfield 10, 3) := by decide +kernel
theorem d_ZA_put_148 : decode c_ZA_put 148 = .ok (.iconst 0, 1) := by decide +kernel
theorem d_ZA_put_149 : decode c_ZA_put 149 = .ok (.invokevirtual 59, 3) := by decide +kernel
theorem d_ZA_put_152 : decode c_ZA_put 152 = .ok (.aload 5, 2) := by decide +kernel
theorem d_ZA_put_154 : decode c_ZA_put 154 = .ok (.invokevirtual 119, 3) := by decide +kernel
theorem d_ZA_put_157 : decode c_ZA_put 157 = .ok (.ireturn, 1) := by decide +kernel
abbrev c_ZA_take : ByteArray := prog_1_method_6_code
abbrev y_ZA_take : MethodName := ⟨"ZoneAnswers", "take", "(I)I"⟩
theorem d_ZA_take_0 : decode c_ZA_take 0 = .ok (.aload_n 0, 1) := by decide +kernel
theorem d_ZA_take_1 : decode c_ZA_take 1 = .ok (.iload_n 1, 1) := by decide +kernel
theorem d_ZA_take_2 : decode c_ZA_take 2 = .ok (.invokevirtual 80, 3) := by decide +kernel
theorem d_ZA_take_5 : decode c_ZA_take 5 = .ok (.astore_n 2, 1) := by decide +kernel
theorem d_ZA_take_6 : decode c_ZA_take 6 = .ok (.aload_n 2, 1) := by decide +kernel
theorem d_ZA_take_7 : decode c_ZA_take 7 = .ok (.ifnonnull 11, 3) := by decide +kernel
theorem d_ZA_take_10 : decode c_ZA_take 10 = .ok (.new 56, 3) := by decide +kernel
theorem d_ZA_take_13 : decode c_ZA_take 13 = .ok (.dup, 1) := by decide +kernel
theorem d_ZA_take_14 : decode c_ZA_take 14 = .ok (.invokespecial 58, 3) := by decide +kernel
theorem d_ZA_take_17 : decode c_ZA_take 17 = .ok (.athrow, 1) := by decide +kernel
theorem d_ZA_take_18 : decode c_ZA_take 18 = .ok (.aload_n 0, 1) := by decide +kernel
theorem d_ZA_take_19 : decode c_ZA_take 19 = .ok (.getfield 19, 3) := by decide +kernel
theorem d_ZA_take_22 : decode c_ZA_take 22 = .ok (.aload_n 2, 1) := by decide +kernel
theorem d_ZA_take_23 : decode c_ZA_take 23 = .ok (.invokevirtual 84, 3) := by decide +kernel
theorem d_ZA_take_26 : decode c_ZA_take 26 = .ok (.astore_n 3, 1) := by decide +kernel
theorem d_ZA_take_27 : decode c_ZA_take 27 = .ok (.aload_n 3, 1) := by decide +kernel
theorem d_ZA_take_28 : decode c_ZA_take 28 = .ok (.ifnonnull 7, 3) := by decide +kernel
theorem d_ZA_take_31 : decode c_ZA_take 31 = .ok (.aconst_null, 1) := by decide +kernel
theorem d_ZA_take_32 : decode c_ZA_take 32 = .ok (.goto 8, 3) := by decide +kernel
theorem d_ZA_take_35 : decode c_ZA_take 35 = .ok (.aload_n 3, 1) := by decide +kernel
theorem d_ZA_take_36 : decode c_ZA_take 36 = .ok (.iload_n 1, 1) := by decide +kernel
theorem d_ZA_take_37 : decode c_ZA_take 37 = .ok (.invokevirtual 88, 3) := by decide +kernel
theorem d_ZA_take_40 : decode c_ZA_take 40 = .ok (.astore 4, 2) := by decide +kernel
theorem d_ZA_take_42 : decode c_ZA_take 42 = .ok (.aload 4, 2) := by decide +kernel
theorem d_ZA_take_44 : decode c_ZA_take 44 = .ok (.ifnonnull 7, 3) := by decide +kernel
theorem d_ZA_take_47 : decode c_ZA_take 47 = .ok (.iconst (-1), 1) := by decide +kernel
theorem d_ZA_take_48 : decode c_ZA_take 48 = .ok (.goto 16, 3) := by decide +kernel
theorem d_ZA_take_51 : decode c_ZA_take 51 = .ok (.aload 4, 2) := by decide +kernel
theorem d_ZA_take_53 : decode c_ZA_take 53 = .ok (.aload_n 0, 1) := by decide +kernel
theorem d_ZA_take_54 : decode c_ZA_take 54 = .ok (.getfield 10, 3) := by decide +kernel
theorem d_ZA_take_57 : decode c_ZA_take 57 = .ok (.aload_n 2, 1) := by decide +kernel
theorem d_ZA_take_58 : decode c_ZA_take 58 = .ok (.invokevirtual 94, 3) := by decide +kernel
theorem d_ZA_take_61 : decode c_ZA_take 61 = .ok (.invokevirtual 95, 3) := by decide +kernel
theorem d_ZA_take_64 : decode c_ZA_take 64 = .ok (.istore 5, 2) := by decide +kernel
theorem d_ZA_take_66 : decode c_ZA_take 66 = .ok (.iload 5, 2) := by decide +kernel
theorem d_ZA_take_68 : decode c_ZA_take 68 = .ok (.ifCond .ge 11, 3) := by decide +kernel
theorem d_ZA_take_71 : decode c_ZA_take 71 = .ok (.new 122, 3) := by decide +kernel
theorem d_ZA_take_74 : decode c_ZA_take 74 = .ok (.dup, 1) := by decide +kernel
theorem d_ZA_take_75 : decode c_ZA_take 75 = .ok (.invokespecial 124, 3) := by decide +kernel
theorem d_ZA_take_78 : decode c_ZA_take 78 = .ok (.athrow, 1) := by decide +kernel
theorem d_ZA_take_79 : decode c_ZA_take 79 = .ok (.aload_n 0, 1) := by decide +kernel
theorem d_ZA_take_80 : decode c_ZA_take 80 = .ok (.getfield 19, 3) := by decide +kernel
theorem d_ZA_take_83 : decode c_ZA_take 83 = .ok (.aload_n 3, 1) := by decide +kernel
theorem d_ZA_take_84 : decode c_ZA_take 84 = .ok (.aload 4, 2) := by decide +kernel
theorem d_ZA_take_86 : decode c_ZA_take 86 = .ok (.iload 5, 2) := by decide +kernel
theorem d_ZA_take_88 : decode c_ZA_take 88 = .ok (.invokevirtual 125, 3) := by decide +kernel
theorem d_ZA_take_91 : decode c_ZA_take 91 = .ok (.aload_n 0, 1) := by decide +kernel
theorem d_ZA_take_92 : decode c_ZA_take 92 = .ok (.getfield 10, 3) := by decide +kernel
theorem d_ZA_take_95 : decode c_ZA_take 95 = .ok (.iconst 0, 1) := by decide +kernel
theorem d_ZA_take_96 : decode c_ZA_take 96 = .ok (.invokevirtual 59, 3) := by decide +kernel
theorem d_ZA_take_99 : decode c_ZA_take 99 = .ok (.aload 4, 2) := by decide +kernel
theorem d_ZA_take_101 : decode c_ZA_take 101 = .ok (.invokevirtual 119, 3) := by decide +kernel
theorem d_ZA_take_104 : decode c_ZA_take 104 = .ok (.ireturn, 1) := by decide +kernel
abbrev c_ZA_takeAll : ByteArray := prog_1_method_7_code
abbrev y_ZA_takeAll : MethodName := ⟨"ZoneAnswers", "takeAll", "(I)I"⟩
theorem d_ZA_takeAll_0 : decode c_ZA_takeAll 0 = .ok (.iload_n 1, 1) := by decide +kernel
theorem d_ZA_takeAll_1 : decode c_ZA_takeAll 1 = .ok (.sipush 255, 3) := by decide +kernel
theorem d_ZA_takeAll_4 : decode c_ZA_takeAll 4 = .ok (.if_icmp .eq 10, 3) := by decide +kernel
theorem d_ZA_takeAll_7 : decode c_ZA_takeAll 7 = .ok (.iload_n 1, 1) := by decide +kernel
theorem d_ZA_takeAll_8 : decode c_ZA_takeAll 8 = .ok (.invokestatic 129, 3) := by decide +kernel
theorem d_ZA_takeAll_11 : decode c_ZA_takeAll 11 = .ok (.ifCond .eq 10, 3) := by decide +kernel
theorem d_ZA_takeAll_14 : decode c_ZA_takeAll 14 = .ok (.aload_n 0, 1) := by decide +kernel
theorem d_ZA_takeAll_15 : decode c_ZA_takeAll 15 = .ok (.invokevirtual 133, 3) := by decide +kernel
theorem d_ZA_takeAll_18 : decode c_ZA_takeAll 18 = .ok (.goto 4, 3) := by decide +kernel
theorem d_ZA_takeAll_21 : decode c_ZA_takeAll 21 = .ok (.aconst_null, 1) := by decide +kernel
theorem d_ZA_takeAll_22 : decode c_ZA_takeAll 22 = .ok (.astore_n 2, 1) := by decide +kernel
theorem d_ZA_takeAll_23 : decode c_ZA_takeAll 23 = .ok (.aload_n 2, 1) := by decide +kernel
theorem d_ZA_takeAll_24 : decode c_ZA_takeAll 24 = .ok (.ifnull 17, 3) := by decide +kernel
theorem d_ZA_takeAll_27 : decode c_ZA_takeAll 27 = .ok (.aload_n 2, 1) := by decide +kernel
theorem d_ZA_takeAll_28 : decode c_ZA_takeAll 28 = .ok (.aload_n 0, 1) := by decide +kernel
theorem d_ZA_takeAll_29 : decode c_ZA_takeAll 29 = .ok (.getfield 19, 3) := by decide +kernel
theorem d_ZA_takeAll_32 : decode c_ZA_takeAll 32 = .ok (.invokevirtual 137, 3) := by decide +kernel
theorem d_ZA_takeAll_35 : decode c_ZA_takeAll 35 = .ok (.invokevirtual 140, 3) := by decide +kernel
theorem d_ZA_takeAll_38 : decode c_ZA_takeAll 38 = .ok (.ifCond .ne 11, 3) := by decide +kernel
theorem d_ZA_takeAll_41 : decode c_ZA_takeAll 41 = .ok (.new 56, 3) := by decide +kernel
theorem d_ZA_takeAll_44 : decode c_ZA_takeAll 44 = .ok (.dup, 1) := by decide +kernel
theorem d_ZA_takeAll_45 : decode c_ZA_takeAll 45 = .ok (.invokespecial 58, 3) := by decide +kernel
theorem d_ZA_takeAll_48 : decode c_ZA_takeAll 48 = .ok (.athrow, 1) := by decide +kernel
theorem d_ZA_takeAll_49 : decode c_ZA_takeAll 49 = .ok (.aload_n 0, 1) := by decide +kernel
theorem d_ZA_takeAll_50 : decode c_ZA_takeAll 50 = .ok (.getfield 19, 3) := by decide +kernel
theorem d_ZA_takeAll_53 : decode c_ZA_takeAll 53 = .ok (.aload_n 2, 1) := by decide +kernel
theorem d_ZA_takeAll_54 : decode c_ZA_takeAll 54 = .ok (.invokevirtual 84, 3) := by decide +kernel
theorem d_ZA_takeAll_57 : decode c_ZA_takeAll 57 = .ok (.astore_n 3, 1) := by decide +kernel
theorem d_ZA_takeAll_58 : decode c_ZA_takeAll 58 = .ok (.aload_n 3, 1) := by decide +kernel
theorem d_ZA_takeAll_59 : decode c_ZA_takeAll 59 = .ok (.ifnonnull 7, 3) := by decide +kernel
theorem d_ZA_takeAll_62 : decode c_ZA_takeAll 62 = .ok (.iconst 0, 1) := by decide +kernel
theorem d_ZA_takeAll_63 : decode c_ZA_takeAll 63 = .ok (.goto 12, 3) := by decide +kernel
theorem d_ZA_takeAll_66 : decode c_ZA_takeAll 66 = .ok (.aload_n 0, 1) := by decide +kernel
theorem d_ZA_takeAll_67 : decode c_ZA_takeAll 67 = .ok (.getfield 19, 3) := by decide +kernel
theorem d_ZA_takeAll_70 : decode c_ZA_takeAll 70 = .ok (.aload_n 3, 1) := by decide +kernel
theorem d_ZA_takeAll_71 : decode c_ZA_takeAll 71 = .ok (.iload_n 1, 1) := by decide +kernel
theorem d_ZA_takeAll_72 : decode c_ZA_takeAll 72 = .ok (.invokevirtual 144, 3) := by decide +kernel
theorem d_ZA_takeAll_75 : decode c_ZA_takeAll 75 = .ok (.istore 4, 2) := by decide +kernel
theorem d_ZA_takeAll_77 : decode c_ZA_takeAll 77 = .ok (.aload_n 0, 1) := by decide +kernel
theorem d_ZA_takeAll_78 : decode c_ZA_takeAll 78 = .ok (.getfield 10, 3) := by decide +kernel
theorem d_ZA_takeAll_81 : decode c_ZA_takeAll 81 = .ok (.iconst 0, 1) := by decide +kernel
theorem d_ZA_takeAll_82 : decode c_ZA_takeAll 82 = .ok (.invokevirtual 59, 3) := by decide +kernel
theorem d_ZA_takeAll_85 : decode c_ZA_takeAll 85 = .ok (.iload 4, 2) := by decide +kernel
theorem d_ZA_takeAll_87 : decode c_ZA_takeAll 87 = .ok (.ireturn, 1) := by decide +kernel
abbrev c_ZA_ask : ByteArray := prog_1_method_9_code
abbrev y_ZA_ask : MethodName := ⟨"ZoneAnswers", "ask", "(IZ)I"⟩
theorem d_ZA_ask_0 : decode c_ZA_ask 0 = .ok (.iload_n 1, 1) := by decide +kernel
theorem d_ZA_ask_1 : decode c_ZA_ask 1 = .ok (.iconst 1, 1) := by decide +kernel
theorem d_ZA_ask_2 : decode c_ZA_ask 2 = .ok (.if_icmp .lt 16, 3) := by decide +kernel
theorem d_ZA_ask_5 : decode c_ZA_ask 5 = .ok (.iload_n 1, 1) := by decide +kernel
theorem d_ZA_ask_6 : decode c_ZA_ask 6 = .ok (.ldc 154, 2) := by decide +kernel
theorem d_ZA_ask_8 : decode c_ZA_ask 8 = .ok (.if_icmp .gt 10, 3) := by decide +kernel
theorem d_ZA_ask_11 : decode c_ZA_ask 11 = .ok (.aload_n 0, 1) := by decide +kernel
theorem d_ZA_ask_12 : decode c_ZA_ask 12 = .ok (.invokevirtual 133, 3) := by decide +kernel
theorem d_ZA_ask_15 : decode c_ZA_ask 15 = .ok (.goto 4, 3) := by decide +kernel
theorem d_ZA_ask_18 : decode c_ZA_ask 18 = .ok (.aconst_null, 1) := by decide +kernel
theorem d_ZA_ask_19 : decode c_ZA_ask 19 = .ok (.astore_n 3, 1) := by decide +kernel
theorem d_ZA_ask_20 : decode c_ZA_ask 20 = .ok (.aload_n 3, 1) := by decide +kernel
theorem d_ZA_ask_21 : decode c_ZA_ask 21 = .ok (.ifnonnull 11, 3) := by decide +kernel
theorem d_ZA_ask_24 : decode c_ZA_ask 24 = .ok (.new 56, 3) := by decide +kernel
theorem d_ZA_ask_27 : decode c_ZA_ask 27 = .ok (.dup, 1) := by decide +kernel
theorem d_ZA_ask_28 : decode c_ZA_ask 28 = .ok (.invokespecial 58, 3) := by decide +kernel
theorem d_ZA_ask_31 : decode c_ZA_ask 31 = .ok (.athrow, 1) := by decide +kernel
theorem d_ZA_ask_32 : decode c_ZA_ask 32 = .ok (.aload_n 0, 1) := by decide +kernel
theorem d_ZA_ask_33 : decode c_ZA_ask 33 = .ok (.getfield 10, 3) := by decide +kernel
theorem d_ZA_ask_36 : decode c_ZA_ask 36 = .ok (.iconst 0, 1) := by decide +kernel
theorem d_ZA_ask_37 : decode c_ZA_ask 37 = .ok (.invokevirtual 59, 3) := by decide +kernel
theorem d_ZA_ask_40 : decode c_ZA_ask 40 = .ok (.aload_n 0, 1) := by decide +kernel
theorem d_ZA_ask_41 : decode c_ZA_ask 41 = .ok (.getfield 37, 3) := by decide +kernel
theorem d_ZA_ask_44 : decode c_ZA_ask 44 = .ok (.iload_n 1, 1) := by decide +kernel
theorem d_ZA_ask_45 : decode c_ZA_ask 45 = .ok (.iload_n 2, 1) := by decide +kernel
theorem d_ZA_ask_46 : decode c_ZA_ask 46 = .ok (.invokevirtual 155, 3) := by decide +kernel
theorem d_ZA_ask_49 : decode c_ZA_ask 49 = .ok (.aload_n 0, 1) := by decide +kernel
theorem d_ZA_ask_50 : decode c_ZA_ask 50 = .ok (.getfield 37, 3) := by decide +kernel
theorem d_ZA_ask_53 : decode c_ZA_ask 53 = .ok (.aload_n 3, 1) := by decide +kernel
theorem d_ZA_ask_54 : decode c_ZA_ask 54 = .ok (.invokevirtual 158, 3) := by decide +kernel
theorem d_ZA_ask_57 : decode c_ZA_ask 57 = .ok (.istore 4, 2) := by decide +kernel
theorem d_ZA_ask_59 : decode c_ZA_ask 59 = .ok (.aload_n 0, 1) := by decide +kernel
theorem d_ZA_ask_60 : decode c_ZA_ask 60 = .ok (.getfield 37, 3) := by decide +kernel
theorem d_ZA_ask_63 : decode c_ZA_ask 63 = .ok (.invokevirtual 162, 3) := by decide +kernel
theorem d_ZA_ask_66 : decode c_ZA_ask 66 = .ok (.iload 4, 2) := by decide +kernel
theorem d_ZA_ask_68 : decode c_ZA_ask 68 = .ok (.ireturn, 1) := by decide +kernel
abbrev c_ZA_state : ByteArray := prog_1_method_13_code
abbrev y_ZA_state : MethodName := ⟨"ZoneAnswers", "state", "()I"⟩
theorem d_ZA_state_0 : decode c_ZA_state 0 = .ok (.aload_n 0, 1) := by decide +kernel
theorem d_ZA_state_1 : decode c_ZA_state 1 = .ok (.invokevirtual 133, 3) := by decide +kernel
theorem d_ZA_state_4 : decode c_ZA_state 4 = .ok (.astore_n 1, 1) := by decide +kernel
theorem d_ZA_state_5 : decode c_ZA_state 5 = .ok (.aload_n 1, 1) := by decide +kernel
theorem d_ZA_state_6 : decode c_ZA_state 6 = .ok (.ifnonnull 11, 3) := by decide +kernel
theorem d_ZA_state_9 : decode c_ZA_state 9 = .ok (.new 56, 3) := by decide +kernel
theorem d_ZA_state_12 : decode c_ZA_state 12 = .ok (.dup, 1) := by decide +kernel
theorem d_ZA_state_13 : decode c_ZA_state 13 = .ok (.invokespecial 58, 3) := by decide +kernel
theorem d_ZA_state_16 : decode c_ZA_state 16 = .ok (.athrow, 1) := by decide +kernel
theorem d_ZA_state_17 : decode c_ZA_state 17 = .ok (.aload_n 0, 1) := by decide +kernel
theorem d_ZA_state_18 : decode c_ZA_state 18 = .ok (.getfield 10, 3) := by decide +kernel
theorem d_ZA_state_21 : decode c_ZA_state 21 = .ok (.iconst 0, 1) := by decide +kernel
theorem d_ZA_state_22 : decode c_ZA_state 22 = .ok (.invokevirtual 59, 3) := by decide +kernel
theorem d_ZA_state_25 : decode c_ZA_state 25 = .ok (.aload_n 1, 1) := by decide +kernel
theorem d_ZA_state_26 : decode c_ZA_state 26 = .ok (.aload_n 0, 1) := by decide +kernel
theorem d_ZA_state_27 : decode c_ZA_state 27 = .ok (.getfield 19, 3) := by decide +kernel
theorem d_ZA_state_30 : decode c_ZA_state 30 = .ok (.invokevirtual 137, 3) := by decide +kernel
theorem d_ZA_state_33 : decode c_ZA_state 33 = .ok (.invokevirtual 140, 3) := by decide +kernel
theorem d_ZA_state_36 : decode c_ZA_state 36 = .ok (.ifCond .ne 5, 3) := by decide +kernel
theorem d_ZA_state_39 : decode c_ZA_state 39 = .ok (.iconst 0, 1) := by decide +kernel
theorem d_ZA_state_40 : decode c_ZA_state 40 = .ok (.ireturn, 1) := by decide +kernel
theorem d_ZA_state_41 : decode c_ZA_state 41 = .ok (.aload_n 0, 1) := by decide +kernel
theorem d_ZA_state_42 : decode c_ZA_state 42 = .ok (.getfield 19, 3) := by decide +kernel
theorem d_ZA_state_45 : decode c_ZA_state 45 = .ok (.aload_n 1, 1) := by decide +kernel
theorem d_ZA_state_46 : decode c_ZA_state 46 = .ok (.invokevirtual 84, 3) := by decide +kernel
theorem d_ZA_state_49 : decode c_ZA_state 49 = .ok (.astore_n 2, 1) := by decide +kernel
theorem d_ZA_state_50 : decode c_ZA_state 50 = .ok (.aload_n 2, 1) := by decide +kernel
theorem d_ZA_state_51 : decode c_ZA_state 51 = .ok (.ifnonnull 24, 3) := by decide +kernel
theorem d_ZA_state_54 : decode c_ZA_state 54 = .ok (.aload_n 0, 1) := by decide +kernel
theorem d_ZA_state_55 : decode c_ZA_state 55 = .ok (.getfield 19, 3) := by decide +kernel
theorem d_ZA_state_58 : decode c_ZA_state 58 = .ok (.aload_n 1, 1) := by decide +kernel
theorem d_ZA_state_59 : decode c_ZA_state 59 = .ok (.invokevirtual 200, 3) := by decide +kernel
theorem d_ZA_state_62 : decode c_ZA_state 62 = .ok (.aload_n 1, 1) := by decide +kernel
theorem d_ZA_state_63 : decode c_ZA_state 63 = .ok (.getfield 203, 3) := by decide +kernel
theorem d_ZA_state_66 : decode c_ZA_state 66 = .ok (.if_icmp .ge 7, 3) := by decide +kernel
theorem d_ZA_state_69 : decode c_ZA_state 69 = .ok (.iconst 1, 1) := by decide +kernel
theorem d_ZA_state_70 : decode c_ZA_state 70 = .ok (.goto 4, 3) := by decide +kernel
theorem d_ZA_state_73 : decode c_ZA_state 73 = .ok (.iconst 2, 1) := by decide +kernel
theorem d_ZA_state_74 : decode c_ZA_state 74 = .ok (.ireturn, 1) := by decide +kernel
theorem d_ZA_state_75 : decode c_ZA_state 75 = .ok (.aload_n 2, 1) := by decide +kernel
theorem d_ZA_state_76 : decode c_ZA_state 76 = .ok (.invokevirtual 206, 3) := by decide +kernel
theorem d_ZA_state_79 : decode c_ZA_state 79 = .ok (.ifCond .eq 5, 3) := by decide +kernel
theorem d_ZA_state_82 : decode c_ZA_state 82 = .ok (.iconst 5, 1) := by decide +kernel
theorem d_ZA_state_83 : decode c_ZA_state 83 = .ok (.ireturn, 1) := by decide +kernel
theorem d_ZA_state_84 : decode c_ZA_state 84 = .ok (.aload_n 2, 1) := by decide +kernel
theorem d_ZA_state_85 : decode c_ZA_state 85 = .ok (.invokevirtual 209, 3) := by decide +kernel
theorem d_ZA_state_88 : decode c_ZA_state 88 = .ok (.ifCond .eq 7, 3) := by decide +kernel
theorem d_ZA_state_91 : decode c_ZA_state 91 = .ok (.iconst 4, 1) := by decide +kernel
theorem d_ZA_state_92 : decode c_ZA_state 92 = .ok (.goto 4, 3) := by decide +kernel
theorem d_ZA_state_95 : decode c_ZA_state 95 = .ok (.iconst 3, 1) := by decide +kernel
theorem d_ZA_state_96 : decode c_ZA_state 96 = .ok (.ireturn, 1) := by decide +kernel
abbrev c_ZA_records : ByteArray := prog_1_method_10_code
abbrev y_ZA_records : MethodName := ⟨"ZoneAnswers", "records", "(I)I"⟩
theorem d_ZA_records_0 : decode c_ZA_records 0 = .ok (.aload_n 0, 1) := by decide +kernel
theorem d_ZA_records_1 : decode c_ZA_records 1 = .ok (.getfield 37, 3) := by decide +kernel
theorem d_ZA_records_4 : decode c_ZA_records 4 = .ok (.iload_n 1, 1) := by decide +kernel
theorem d_ZA_records_5 : decode c_ZA_records 5 = .ok (.invokevirtual 165, 3) := by decide +kernel
theorem d_ZA_records_8 : decode c_ZA_records 8 = .ok (.astore_n 2, 1) := by decide +kernel
theorem d_ZA_records_9 : decode c_ZA_records 9 = .ok (.aload_n 2, 1) := by decide +kernel
theorem d_ZA_records_10 : decode c_ZA_records 10 = .ok (.ifnonnull 11, 3) := by decide +kernel
theorem d_ZA_records_13 : decode c_ZA_records 13 = .ok (.new 122, 3) := by decide +kernel
theorem d_ZA_records_16 : decode c_ZA_records 16 = .ok (.dup, 1) := by decide +kernel
theorem d_ZA_records_17 : decode c_ZA_records 17 = .ok (.invokespecial 124, 3) := by decide +kernel
theorem d_ZA_records_20 : decode c_ZA_records 20 = .ok (.athrow, 1) := by decide +kernel
theorem d_ZA_records_21 : decode c_ZA_records 21 = .ok (.aload_n 2, 1) := by decide +kernel
theorem d_ZA_records_22 : decode c_ZA_records 22 = .ok (.invokevirtual 169, 3) := by decide +kernel
theorem d_ZA_records_25 : decode c_ZA_records 25 = .ok (.ireturn, 1) := by decide +kernel
abbrev c_ZA_row : ByteArray := prog_1_method_17_code
abbrev y_ZA_row : MethodName := ⟨"ZoneAnswers", "row", "(II)LZoneAnswers$Told;"⟩
theorem d_ZA_row_0 : decode c_ZA_row 0 = .ok (.aload_n 0, 1) := by decide +kernel
theorem d_ZA_row_1 : decode c_ZA_row 1 = .ok (.getfield 37, 3) := by decide +kernel
theorem d_ZA_row_4 : decode c_ZA_row 4 = .ok (.iload_n 1, 1) := by decide +kernel
theorem d_ZA_row_5 : decode c_ZA_row 5 = .ok (.invokevirtual 165, 3) := by decide +kernel
theorem d_ZA_row_8 : decode c_ZA_row 8 = .ok (.astore_n 3, 1) := by decide +kernel
theorem d_ZA_row_9 : decode c_ZA_row 9 = .ok (.aload_n 3, 1) := by decide +kernel
theorem d_ZA_row_10 : decode c_ZA_row 10 = .ok (.ifnonnull 7, 3) := by decide +kernel
theorem d_ZA_row_13 : decode c_ZA_row 13 = .ok (.aconst_null, 1) := by decide +kernel
theorem d_ZA_row_14 : decode c_ZA_row 14 = .ok (.goto 8, 3) := by decide +kernel
theorem d_ZA_row_17 : decode c_ZA_row 17 = .ok (.aload_n 3, 1) := by decide +kernel
theorem d_ZA_row_18 : decode c_ZA_row 18 = .ok (.iload_n 2, 1) := by decide +kernel
theorem d_ZA_row_19 : decode c_ZA_row 19 = .ok (.invokevirtual 234, 3) := by decide +kernel
theorem d_ZA_row_22 : decode c_ZA_row 22 = .ok (.areturn, 1) := by decide +kernel
abbrev c_ZA_told : ByteArray := prog_1_method_11_code
abbrev y_ZA_told : MethodName := ⟨"ZoneAnswers", "told", "(III)I"⟩
theorem d_ZA_told_0 : decode c_ZA_told 0 = .ok (.aload_n 0, 1) := by decide +kernel
theorem d_ZA_told_1 : decode c_ZA_told 1 = .ok (.iload_n 1, 1) := by decide +kernel
theorem d_ZA_told_2 : decode c_ZA_told 2 = .ok (.iload_n 2, 1) := by decide +kernel
theorem d_ZA_told_3 : decode c_ZA_told 3 = .ok (.invokevirtual 172, 3) := by decide +kernel
theorem d_ZA_told_6 : decode c_ZA_told 6 = .ok (.astore 4, 2) := by decide +kernel
theorem d_ZA_told_8 : decode c_ZA_told 8 = .ok (.aload 4, 2) := by decide +kernel
theorem d_ZA_told_10 : decode c_ZA_told 10 = .ok (.ifnonnull 11, 3) := by decide +kernel
theorem d_ZA_told_13 : decode c_ZA_told 13 = .ok (.new 122, 3) := by decide +kernel
theorem d_ZA_told_16 : decode c_ZA_told 16 = .ok (.dup, 1) := by decide +kernel
theorem d_ZA_told_17 : decode c_ZA_told 17 = .ok (.invokespecial 124, 3) := by decide +kernel
theorem d_ZA_told_20 : decode c_ZA_told 20 = .ok (.athrow, 1) := by decide +kernel
theorem d_ZA_told_21 : decode c_ZA_told 21 = .ok (.iload_n 3, 1) := by decide +kernel
theorem d_ZA_told_22 : decode c_ZA_told 22 = .ok (.tableswitch 60 0 3 #[30, 36, 42, 51], 30) := by decide +kernel
theorem d_ZA_told_52 : decode c_ZA_told 52 = .ok (.aload 4, 2) := by decide +kernel
theorem d_ZA_told_54 : decode c_ZA_told 54 = .ok (.getfield 176, 3) := by decide +kernel
theorem d_ZA_told_57 : decode c_ZA_told 57 = .ok (.ireturn, 1) := by decide +kernel
theorem d_ZA_told_58 : decode c_ZA_told 58 = .ok (.aload 4, 2) := by decide +kernel
theorem d_ZA_told_60 : decode c_ZA_told 60 = .ok (.getfield 181, 3) := by decide +kernel
theorem d_ZA_told_63 : decode c_ZA_told 63 = .ok (.ireturn, 1) := by decide +kernel
theorem d_ZA_told_64 : decode c_ZA_told 64 = .ok (.aload 4, 2) := by decide +kernel
theorem d_ZA_told_66 : decode c_ZA_told 66 = .ok (.getfield 182, 3) := by decide +kernel
theorem d_ZA_told_69 : decode c_ZA_told 69 = .ok (.invokevirtual 94, 3) := by decide +kernel
theorem d_ZA_told_72 : decode c_ZA_told 72 = .ok (.ireturn, 1) := by decide +kernel
theorem d_ZA_told_73 : decode c_ZA_told 73 = .ok (.aload 4, 2) := by decide +kernel
theorem d_ZA_told_75 : decode c_ZA_told 75 = .ok (.getfield 186, 3) := by decide +kernel
theorem d_ZA_told_78 : decode c_ZA_told 78 = .ok (.invokevirtual 189, 3) := by decide +kernel
theorem d_ZA_told_81 : decode c_ZA_told 81 = .ok (.ireturn, 1) := by decide +kernel
theorem d_ZA_told_82 : decode c_ZA_told 82 = .ok (.new 56, 3) := by decide +kernel
theorem d_ZA_told_85 : decode c_ZA_told 85 = .ok (.dup, 1) := by decide +kernel
theorem d_ZA_told_86 : decode c_ZA_told 86 = .ok (.invokespecial 58, 3) := by decide +kernel
theorem d_ZA_told_89 : decode c_ZA_told 89 = .ok (.athrow, 1) := by decide +kernel
abbrev c_ZA_byteOf : ByteArray := prog_1_method_12_code
abbrev y_ZA_byteOf : MethodName := ⟨"ZoneAnswers", "byteOf", "(III)I"⟩
theorem d_ZA_byteOf_0 : decode c_ZA_byteOf 0 = .ok (.aload_n 0, 1) := by decide +kernel
theorem d_ZA_byteOf_1 : decode c_ZA_byteOf 1 = .ok (.iload_n 1, 1) := by decide +kernel
theorem d_ZA_byteOf_2 : decode c_ZA_byteOf 2 = .ok (.iload_n 2, 1) := by decide +kernel
theorem d_ZA_byteOf_3 : decode c_ZA_byteOf 3 = .ok (.invokevirtual 172, 3) := by decide +kernel
theorem d_ZA_byteOf_6 : decode c_ZA_byteOf 6 = .ok (.astore 4, 2) := by decide +kernel
theorem d_ZA_byteOf_8 : decode c_ZA_byteOf 8 = .ok (.aload 4, 2) := by decide +kernel
theorem d_ZA_byteOf_10 : decode c_ZA_byteOf 10 = .ok (.ifnonnull 11, 3) := by decide +kernel
theorem d_ZA_byteOf_13 : decode c_ZA_byteOf 13 = .ok (.new 122, 3) := by decide +kernel
theorem d_ZA_byteOf_16 : decode c_ZA_byteOf 16 = .ok (.dup, 1) := by decide +kernel
theorem d_ZA_byteOf_17 : decode c_ZA_byteOf 17 = .ok (.invokespecial 124, 3) := by decide +kernel
theorem d_ZA_byteOf_20 : decode c_ZA_byteOf 20 = .ok (.athrow, 1) := by decide +kernel
theorem d_ZA_byteOf_21 : decode c_ZA_byteOf 21 = .ok (.aload 4, 2) := by decide +kernel
theorem d_ZA_byteOf_23 : decode c_ZA_byteOf 23 = .ok (.getfield 182, 3) := by decide +kernel
theorem d_ZA_byteOf_26 : decode c_ZA_byteOf 26 = .ok (.invokevirtual 94, 3) := by decide +kernel
theorem d_ZA_byteOf_29 : decode c_ZA_byteOf 29 = .ok (.istore 5, 2) := by decide +kernel
theorem d_ZA_byteOf_31 : decode c_ZA_byteOf 31 = .ok (.iload_n 3, 1) := by decide +kernel
theorem d_ZA_byteOf_32 : decode c_ZA_byteOf 32 = .ok (.ifCond .lt 18, 3) := by decide +kernel
theorem d_ZA_byteOf_35 : decode c_ZA_byteOf 35 = .ok (.iload_n 3, 1) := by decide +kernel
theorem d_ZA_byteOf_36 : decode c_ZA_byteOf 36 = .ok (.iload 5, 2) := by decide +kernel
theorem d_ZA_byteOf_38 : decode c_ZA_byteOf 38 = .ok (.aload 4, 2) := by decide +kernel
theorem d_ZA_byteOf_40 : decode c_ZA_byteOf 40 = .ok (.getfield 186, 3) := by decide +kernel
theorem d_ZA_byteOf_43 : decode c_ZA_byteOf 43 = .ok (.invokevirtual 189, 3) := by decide +kernel
theorem d_ZA_byteOf_46 : decode c_ZA_byteOf 46 = .ok (.iadd, 1) := by decide +kernel
theorem d_ZA_byteOf_47 : decode c_ZA_byteOf 47 = .ok (.if_icmp .lt 11, 3) := by decide +kernel
theorem d_ZA_byteOf_50 : decode c_ZA_byteOf 50 = .ok (.new 192, 3) := by decide +kernel
theorem d_ZA_byteOf_53 : decode c_ZA_byteOf 53 = .ok (.dup, 1) := by decide +kernel
theorem d_ZA_byteOf_54 : decode c_ZA_byteOf 54 = .ok (.invokespecial 194, 3) := by decide +kernel
theorem d_ZA_byteOf_57 : decode c_ZA_byteOf 57 = .ok (.athrow, 1) := by decide +kernel
theorem d_ZA_byteOf_58 : decode c_ZA_byteOf 58 = .ok (.iload_n 3, 1) := by decide +kernel
theorem d_ZA_byteOf_59 : decode c_ZA_byteOf 59 = .ok (.iload 5, 2) := by decide +kernel
theorem d_ZA_byteOf_61 : decode c_ZA_byteOf 61 = .ok (.if_icmp .ge 20, 3) := by decide +kernel
theorem d_ZA_byteOf_64 : decode c_ZA_byteOf 64 = .ok (.aload 4, 2) := by decide +kernel
theorem d_ZA_byteOf_66 : decode c_ZA_byteOf 66 = .ok (.getfield 182, 3) := by decide +kernel
theorem d_ZA_byteOf_69 : decode c_ZA_byteOf 69 = .ok (.getfield 195, 3) := by decide +kernel
theorem d_ZA_byteOf_72 : decode c_ZA_byteOf 72 = .ok (.iload_n 3, 1) := by decide +kernel
theorem d_ZA_byteOf_73 : decode c_ZA_byteOf 73 = .ok (.baload, 1) := by decide +kernel
theorem d_ZA_byteOf_74 : decode c_ZA_byteOf 74 = .ok (.sipush 255, 3) := by decide +kernel
theorem d_ZA_byteOf_77 : decode c_ZA_byteOf 77 = .ok (.iand, 1) := by decide +kernel
theorem d_ZA_byteOf_78 : decode c_ZA_byteOf 78 = .ok (.goto 20, 3) := by decide +kernel
theorem d_ZA_byteOf_81 : decode c_ZA_byteOf 81 = .ok (.aload 4, 2) := by decide +kernel
theorem d_ZA_byteOf_83 : decode c_ZA_byteOf 83 = .ok (.getfield 186, 3) := by decide +kernel
theorem d_ZA_byteOf_86 : decode c_ZA_byteOf 86 = .ok (.getfield 199, 3) := by decide +kernel
theorem d_ZA_byteOf_89 : decode c_ZA_byteOf 89 = .ok (.iload_n 3, 1) := by decide +kernel
theorem d_ZA_byteOf_90 : decode c_ZA_byteOf 90 = .ok (.iload 5, 2) := by decide +kernel
theorem d_ZA_byteOf_92 : decode c_ZA_byteOf 92 = .ok (.isub, 1) := by decide +kernel
theorem d_ZA_byteOf_93 : decode c_ZA_byteOf 93 = .ok (.baload, 1) := by decide +kernel
theorem d_ZA_byteOf_94 : decode c_ZA_byteOf 94 = .ok (.sipush 255, 3) := by decide +kernel
theorem d_ZA_byteOf_97 : decode c_ZA_byteOf 97 = .ok (.iand, 1) := by decide +kernel
theorem d_ZA_byteOf_98 : decode c_ZA_byteOf 98 = .ok (.ireturn, 1) := by decide +kernel
abbrev rm_ZA_origin_f : Room := { frames := 6, cells := 1, slots := 6, locals := 100 }
set_option maxHeartbeats 4000000 in
set_option maxRecDepth 100000 in
/-- origin(..), of a new object -/
theorem t_ZA_origin_f (l : Launch) (hoff : zl_off l) (E : zc_E) (G : zg_G) (xo ta zo an b la x st sd o ol da dx d0 d1 d3 bt s1 s2 s3 r1 r2 r3 : Nat) (hF : zNew E G xo ta zo an b la x st sd o ol da dx d0 d1 d3 bt s1 s2 s3 r1 r2 r3) (x1 x2 x3 x4 x5 : Int32) : zT l E y_ZA_origin c_ZA_origin 11 none rm_ZA_origin_f [.ref xo, .int x1, .int x2, .int x3, .int x4, .int x5] G (fun (v : Option Value) (G2 : zg_G) => False) (fun cls => cls = "java/lang/IllegalArgumentException" ∧ True) := by
  refine zT.of (by decide) (Nat.le_of_ble_eq_true rfl) ?_
  intro p e s m args below meth c hZ hex hG ls hl
  obtain ⟨hx, hb, hr, hts, hown, hlocks, hml, hnm, hbase, hK, hN, hQ⟩ := hZ
  have hl : lv_has ls 11 [(0, .ref xo), (1, .int x1), (2, .int x2), (3, .int x3), (4, .int x4), (5, .int x5)] := hl
  have hS : zg_S (zc_b E) s.heap s.heap [] := va_S.rf
  obtain ⟨hX, hT, hZz, hLo, ho, hLs, hst, hLd, hdx, hsd, hnx, hbt, han, hs1, hs2, hs3, hr1, hr2, hr3⟩ := id hF
  refine lv_aload_n hx hb d_ZA_origin_0 rfl (lv_at hl 0 rfl) ?_
  refine zg_get (ci := 10) (C := "ZoneAnswers") (T := T_ZA) (N := 3) hx hb hts zi_ZA hown hK hG hX rfl 0 (by decide) (hts _ w_703) (fun _ h9 => h9) rfl d_ZA_origin_1 ?_
  refine lv_iconst (v := 0) hx hb d_ZA_origin_4 (by decide) ?_
  refine zi_as (y := nI 0) (nI_0.symm) ?_
  have hGo5 := hG
  refine zk_i (va_runV (As := [.int (nI 0)]) (rest := []) ⟨hx, hb, hml, hown, hts⟩ (t_Ta_nameEnd l E G ta b [] hT (by decide) 0 (by decide)) (zcV 1 hts w_829 w_830 w_831 w_2 w_832 (by decide +kernel) ⟨Nat.le_of_ble_eq_true rfl, Nat.le_of_ble_eq_true rfl⟩) (zc_preV hbase hK hN hQ hG hS hT.1 rfl) rfl rfl hl.1 rfl (lv_room (Nat.le_of_ble_eq_true rfl)) d_ZA_origin_5 ⟨(by decide), (by decide)⟩) hS (fun r5 G5 H locs hp5 hG hS => ?_)
  have hG : zP E G H := hp5.2 ▸ hG
  refine zi_as (y := -1) (zE_e hp5.1 rfl) ?_
  refine lv_istore (lv' := [(6, .int (-1)), (0, .ref xo), (1, .int x1), (2, .int x2), (3, .int x3), (4, .int x4), (5, .int x5)]) hx hb d_ZA_origin_8 hl (by decide) rfl (fun ls hl => ?_)
  refine lv_aload_n hx hb d_ZA_origin_10 rfl (lv_at hl 1 rfl) ?_
  refine zg_get (ci := 10) (C := "ZoneAnswers") (T := T_ZA) (N := 3) hx hb hts zi_ZA hown hK hG hX rfl 0 (by decide) (hts _ w_703) (fun _ h9 => h9) rfl d_ZA_origin_11 ?_
  refine lv_iload hx hb d_ZA_origin_14 (lv_at hl 0 rfl) ?_
  refine zk_i (va_runV (As := [.int (-1)]) (rest := []) ⟨hx, hb, hml, hown, hts⟩ (t_Ta_nameEnd_m l E G ta b (nI 0) hT.1) (zcV 1 hts w_829 w_830 w_831 w_2 w_832 (by decide +kernel) ⟨Nat.le_of_ble_eq_true rfl, Nat.le_of_ble_eq_true rfl⟩) (zc_preV hbase hK hN hQ hG hS hT.1 rfl) rfl rfl hl.1 rfl (lv_room (Nat.le_of_ble_eq_true rfl)) d_ZA_origin_16 ⟨(by decide), (by decide)⟩) hS (fun r16 G16 H locs hp16 hG hS => ?_)
  have hG : zP E G H := hp16.2 ▸ hG
  refine zi_as (y := (-1)) hp16.1 ?_
  refine lv_istore (lv' := [(7, .int (-1)), (6, .int (-1)), (0, .ref xo), (1, .int x1), (2, .int x2), (3, .int x3), (4, .int x4), (5, .int x5)]) hx hb d_ZA_origin_19 hl (by decide) rfl (fun ls hl => ?_)
  refine lv_aload_n hx hb d_ZA_origin_21 rfl (lv_at hl 2 rfl) ?_
  refine zg_get (ci := 10) (C := "ZoneAnswers") (T := T_ZA) (N := 3) hx hb hts zi_ZA hown hK hG hX rfl 0 (by decide) (hts _ w_703) (fun _ h9 => h9) rfl d_ZA_origin_22 ?_
  refine lv_iload hx hb d_ZA_origin_25 (lv_at hl 0 rfl) ?_
  refine zk_i (va_runV (As := [.int (-1)]) (rest := []) ⟨hx, hb, hml, hown, hts⟩ (t_Ta_nameEnd_m l E G ta b (nI 0) hT.1) (zcV 1 hts w_829 w_830 w_831 w_2 w_832 (by decide +kernel) ⟨Nat.le_of_ble_eq_true rfl, Nat.le_of_ble_eq_true rfl⟩) (zc_preV hbase hK hN hQ hG hS hT.1 rfl) rfl rfl hl.1 rfl (lv_room (Nat.le_of_ble_eq_true rfl)) d_ZA_origin_27 ⟨(by decide), (by decide)⟩) hS (fun r27 G27 H locs hp27 hG hS => ?_)
  have hG : zP E G H := hp27.2 ▸ hG
  refine zi_as (y := (-1)) hp27.1 ?_
  refine lv_istore (lv' := [(8, .int (-1)), (7, .int (-1)), (6, .int (-1)), (0, .ref xo), (1, .int x1), (2, .int x2), (3, .int x3), (4, .int x4), (5, .int x5)]) hx hb d_ZA_origin_30 hl (by decide) rfl (fun ls hl => ?_)
  refine lv_iload_n hx hb d_ZA_origin_32 rfl (lv_at hl 4 rfl) ?_
  refine lv_if_lt (tgt := 53) hx hb d_ZA_origin_33 (by decide) (fun c33 => ?_) (fun c33 => ?_)
  · exact zt_row (names := zt_up) (ic := 58) hoff hx hb (hml.trans hl.1.symm) hown hts hQ hex hlocks (zt_words hts hN hQ zt_iae) (by decide) (by decide) w_813 w_488 w_26 (⟨rfl, trivial⟩) hG hS hbase (by decide) (by decide) (Nat.le_of_ble_eq_true rfl) (Nat.le_of_ble_eq_true rfl) d_ZA_origin_53 d_ZA_origin_56 d_ZA_origin_57 d_ZA_origin_60
  · refine lv_iload hx hb d_ZA_origin_36 (lv_at hl 0 rfl) ?_
    refine lv_if_lt (tgt := 53) hx hb d_ZA_origin_38 (by decide) (fun c38 => ?_) (fun c38 => ?_)
    · exact zt_row (names := zt_up) (ic := 58) hoff hx hb (hml.trans hl.1.symm) hown hts hQ hex hlocks (zt_words hts hN hQ zt_iae) (by decide) (by decide) w_813 w_488 w_26 (⟨rfl, trivial⟩) hG hS hbase (by decide) (by decide) (Nat.le_of_ble_eq_true rfl) (Nat.le_of_ble_eq_true rfl) d_ZA_origin_53 d_ZA_origin_56 d_ZA_origin_57 d_ZA_origin_60
    · exact absurd (by decide) c38
abbrev rm_ZA_put_f : Room := { frames := 7, cells := 3, slots := 8, locals := 170 }
set_option maxHeartbeats 4000000 in
set_option maxRecDepth 100000 in
/-- ZA_put, of a new object -/
theorem t_ZA_put_f (l : Launch) (hoff : zl_off l) (E : zc_E) (G : zg_G) (xo ta zo an b la x st sd o ol da dx d0 d1 d3 bt s1 s2 s3 r1 r2 r3 : Nat) (hF : zNew E G xo ta zo an b la x st sd o ol da dx d0 d1 d3 bt s1 s2 s3 r1 r2 r3) (t u : Int32) : zT l E y_ZA_put c_ZA_put 6 (some .int) rm_ZA_put_f [.ref xo, .int t, .int u] G (fun (v : Option Value) (G2 : zg_G) => False) (fun cls => cls = "java/lang/IllegalArgumentException" ∧ True) := by
  refine zT.of (by decide) (Nat.le_of_ble_eq_true rfl) ?_
  intro p e s m args below meth c hZ hex hG ls hl
  obtain ⟨hx, hb, hr, hts, hown, hlocks, hml, hnm, hbase, hK, hN, hQ⟩ := hZ
  have hl : lv_has ls 6 [(0, .ref xo), (1, .int t), (2, .int u)] := hl
  have hS : zg_S (zc_b E) s.heap s.heap [] := va_S.rf
  obtain ⟨hX, hT, hZz, hLo, ho, hLs, hst, hLd, hdx, hsd, hnx, hbt, han, hs1, hs2, hs3, hr1, hr2, hr3⟩ := id hF
  have hx0 : zx z0 G G := zx.rf
  refine lv_aload_n hx hb d_ZA_put_0 rfl (lv_at hl 0 rfl) ?_
  refine lv_iload_n hx hb d_ZA_put_1 rfl (lv_at hl 1 rfl) ?_
  have hGo2 := hG
  refine zk_q (va_runV (As := [.int t]) (rest := []) ⟨hx, hb, hml, hown, hts⟩ (t_ZA_recordName l E G xo ta zo an b [] hX hT (by decide) la x st sd (0 + 1) hZz bt [] (fun _ => 0) hnx hbt (fun j hj => by rw [show j = 0 by (have : np_len [] = 1 := rfl); omega]; rfl) ⟨fun l hl => absurd hl List.not_mem_nil, by decide⟩ t 2 (by decide)) (zcV 1 hts w_854 w_856 wp_10 w_1 w_857 (by decide +kernel) ⟨Nat.le_of_ble_eq_true rfl, Nat.le_of_ble_eq_true rfl⟩) (zc_preV hbase hK hN hQ hG hS hX rfl) rfl rfl hl.1 rfl (lv_room (Nat.le_of_ble_eq_true rfl)) d_ZA_put_2 ⟨(by decide), (by decide)⟩) hS (fun r2 G2 H locs hp2 hG hS => ?_)
  obtain ⟨er2, hx2⟩ : r2 = none ∧ zx z0 G G2 := by
    rcases hp2 with ⟨l9, q9, z9, -⟩ | ⟨z1, z2, -⟩
    · exact absurd ⟨l9, z9.1⟩ (zNm_e rfl)
    · exact ⟨z1, z2⟩
  refine zr_none er2 ?_
  have k1 : G2 xo = some (.inr (10, [.ref ta, .ref zo, .ref an])) := hx2.o hX
  have k2 : G2 ta = some (.inr (7, [.ref b, .int (nI 0)])) := hx2.o hT.1
  have hx3 : zx z0 G G2 := hx0.tr (hx2.w (fun _ z => z.elim))
  refine lv_astore_nN (lv' := [(3, .null), (0, .ref xo), (1, .int t), (2, .int u)]) hx hb d_ZA_put_5 rfl hl (by decide) rfl (fun ls hl => ?_)
  refine lv_aload_nN hx hb d_ZA_put_6 rfl (lv_at hl 0 rfl) ?_
  refine lv_ifnullN (tgt := 14) hx hb d_ZA_put_7 (by decide) ?_
  exact zt_row (names := zt_up) (ic := 58) hoff hx hb (hml.trans hl.1.symm) hown hts hQ hex hlocks (zt_words hts hN hQ zt_iae) (by decide) (by decide) w_813 w_488 w_26 (⟨rfl, trivial⟩) (zg_P.sub hG (fun _ _ h9 => hx3.o h9)) hS hbase (by decide) (by decide) (Nat.le_of_ble_eq_true rfl) (Nat.le_of_ble_eq_true rfl) d_ZA_put_14 d_ZA_put_17 d_ZA_put_18 d_ZA_put_21
abbrev rm_ZA_take_f : Room := { frames := 7, cells := 3, slots := 8, locals := 170 }
set_option maxHeartbeats 4000000 in
set_option maxRecDepth 100000 in
/-- ZA_take, of a new object -/
theorem t_ZA_take_f (l : Launch) (hoff : zl_off l) (E : zc_E) (G : zg_G) (xo ta zo an b la x st sd o ol da dx d0 d1 d3 bt s1 s2 s3 r1 r2 r3 : Nat) (hF : zNew E G xo ta zo an b la x st sd o ol da dx d0 d1 d3 bt s1 s2 s3 r1 r2 r3) (t : Int32) : zT l E y_ZA_take c_ZA_take 6 (some .int) rm_ZA_take_f [.ref xo, .int t] G (fun (v : Option Value) (G2 : zg_G) => False) (fun cls => cls = "java/lang/IllegalArgumentException" ∧ True) := by
  refine zT.of (by decide) (Nat.le_of_ble_eq_true rfl) ?_
  intro p e s m args below meth c hZ hex hG ls hl
  obtain ⟨hx, hb, hr, hts, hown, hlocks, hml, hnm, hbase, hK, hN, hQ⟩ := hZ
  have hl : lv_has ls 6 [(0, .ref xo), (1, .int t)] := hl
  have hS : zg_S (zc_b E) s.heap s.heap [] := va_S.rf
  obtain ⟨hX, hT, hZz, hLo, ho, hLs, hst, hLd, hdx, hsd, hnx, hbt, han, hs1, hs2, hs3, hr1, hr2, hr3⟩ := id hF
  have hx0 : zx z0 G G := zx.rf
  refine lv_aload_n hx hb d_ZA_take_0 rfl (lv_at hl 0 rfl) ?_
  refine lv_iload_n hx hb d_ZA_take_1 rfl (lv_at hl 1 rfl) ?_
  have hGo2 := hG
  refine zk_q (va_runV (As := [.int t]) (rest := []) ⟨hx, hb, hml, hown, hts⟩ (t_ZA_recordName l E G xo ta zo an b [] hX hT (by decide) la x st sd (0 + 1) hZz bt [] (fun _ => 0) hnx hbt (fun j hj => by rw [show j = 0 by (have : np_len [] = 1 := rfl); omega]; rfl) ⟨fun l hl => absurd hl List.not_mem_nil, by decide⟩ t 2 (by decide)) (zcV 1 hts w_854 w_856 wp_10 w_1 w_857 (by decide +kernel) ⟨Nat.le_of_ble_eq_true rfl, Nat.le_of_ble_eq_true rfl⟩) (zc_preV hbase hK hN hQ hG hS hX rfl) rfl rfl hl.1 rfl (lv_room (Nat.le_of_ble_eq_true rfl)) d_ZA_take_2 ⟨(by decide), (by decide)⟩) hS (fun r2 G2 H locs hp2 hG hS => ?_)
  obtain ⟨er2, hx2⟩ : r2 = none ∧ zx z0 G G2 := by
    rcases hp2 with ⟨l9, q9, z9, -⟩ | ⟨z1, z2, -⟩
    · exact absurd ⟨l9, z9.1⟩ (zNm_e rfl)
    · exact ⟨z1, z2⟩
  refine zr_none er2 ?_
  have k1 : G2 xo = some (.inr (10, [.ref ta, .ref zo, .ref an])) := hx2.o hX
  have k2 : G2 ta = some (.inr (7, [.ref b, .int (nI 0)])) := hx2.o hT.1
  have hx3 : zx z0 G G2 := hx0.tr (hx2.w (fun _ z => z.elim))
  refine lv_astore_nN (lv' := [(2, .null), (0, .ref xo), (1, .int t)]) hx hb d_ZA_take_5 rfl hl (by decide) rfl (fun ls hl => ?_)
  refine lv_aload_nN hx hb d_ZA_take_6 rfl (lv_at hl 0 rfl) ?_
  refine lv_ifnonnullN hx hb d_ZA_take_7 ?_
  exact zt_row (names := zt_up) (ic := 58) hoff hx hb (hml.trans hl.1.symm) hown hts hQ hex hlocks (zt_words hts hN hQ zt_iae) (by decide) (by decide) w_813 w_488 w_26 (⟨rfl, trivial⟩) (zg_P.sub hG (fun _ _ h9 => hx3.o h9)) hS hbase (by decide) (by decide) (Nat.le_of_ble_eq_true rfl) (Nat.le_of_ble_eq_true rfl) d_ZA_take_10 d_ZA_take_13 d_ZA_take_14 d_ZA_take_17
abbrev rm_ZA_takeAll_f : Room := { frames := 7, cells := 3, slots := 8, locals := 170 }
set_option maxHeartbeats 4000000 in
set_option maxRecDepth 100000 in
/-- takeAll, of a new object -/
theorem t_ZA_takeAll_f (l : Launch) (hoff : zl_off l) (E : zc_E) (G : zg_G) (xo ta zo an b la x st sd o ol da dx d0 d1 d3 bt s1 s2 s3 r1 r2 r3 : Nat) (hF : zNew E G xo ta zo an b la x st sd o ol da dx d0 d1 d3 bt s1 s2 s3 r1 r2 r3) (t : Int32) : zT l E y_ZA_takeAll c_ZA_takeAll 5 (some .int) rm_ZA_takeAll_f [.ref xo, .int t] G (fun (v : Option Value) (G2 : zg_G) => False) (fun cls => cls = "java/lang/IllegalArgumentException" ∧ True) := by
  refine zT.of (by decide) (Nat.le_of_ble_eq_true rfl) ?_
  intro p e s m args below meth c hZ hex hG ls hl
  obtain ⟨hx, hb, hr, hts, hown, hlocks, hml, hnm, hbase, hK, hN, hQ⟩ := hZ
  have hl : lv_has ls 5 [(0, .ref xo), (1, .int t)] := hl
  have hS : zg_S (zc_b E) s.heap s.heap [] := va_S.rf
  obtain ⟨hX, hT, hZz, hLo, ho, hLs, hst, hLd, hdx, hsd, hnx, hbt, han, hs1, hs2, hs3, hr1, hr2, hr3⟩ := id hF
  refine lv_iload_n hx hb d_ZA_takeAll_0 rfl (lv_at hl 1 rfl) ?_
  refine lv_sipush (v := 255) hx hb d_ZA_takeAll_1 (by decide) ?_
  refine lv_icmp_eq (tgt := 14) hx hb d_ZA_takeAll_4 (by decide) (fun c4 => ?_) (fun c4 => ?_)
  · refine lv_aload_n hx hb d_ZA_takeAll_14 rfl (lv_at hl 0 rfl) ?_
    have hGo15 := hG
    refine zk_q (va_runV (As := []) (rest := []) ⟨hx, hb, hml, hown, hts⟩ (t_ZA_tapeName l E G xo ta zo an b [] hX hT (by decide) 2 (by decide)) (zcV 0 hts w_991 w_993 wp_14 w_1 w_994 (by decide +kernel) ⟨Nat.le_of_ble_eq_true rfl, Nat.le_of_ble_eq_true rfl⟩) (zc_preV hbase hK hN hQ hG hS hX rfl) rfl rfl hl.1 rfl (lv_room (Nat.le_of_ble_eq_true rfl)) d_ZA_takeAll_15 ⟨(by decide), (by decide)⟩) hS (fun r15 G15 H locs hp15 hG hS => ?_)
    obtain ⟨er15, eg15⟩ : r15 = none ∧ G15 = G := by
      rcases hp15 with ⟨l9, q9, z9, -⟩ | ⟨z1, z2, -⟩
      · exact absurd ⟨l9, z9.1⟩ (zNm_e rfl)
      · exact ⟨z1, z2⟩
    have hG : zP E G H := eg15 ▸ hG
    refine zr_none er15 ?_
    refine lv_goto (tgt := 22) hx hb d_ZA_takeAll_18 (by decide) ?_
    refine lv_astore_nN (lv' := [(2, .null), (0, .ref xo), (1, .int t)]) hx hb d_ZA_takeAll_22 rfl hl (by decide) rfl (fun ls hl => ?_)
    refine lv_aload_nN hx hb d_ZA_takeAll_23 rfl (lv_at hl 0 rfl) ?_
    refine lv_ifnullN (tgt := 41) hx hb d_ZA_takeAll_24 (by decide) ?_
    exact zt_row (names := zt_up) (ic := 58) hoff hx hb (hml.trans hl.1.symm) hown hts hQ hex hlocks (zt_words hts hN hQ zt_iae) (by decide) (by decide) w_813 w_488 w_26 (⟨rfl, trivial⟩) hG hS hbase (by decide) (by decide) (Nat.le_of_ble_eq_true rfl) (Nat.le_of_ble_eq_true rfl) d_ZA_takeAll_41 d_ZA_takeAll_44 d_ZA_takeAll_45 d_ZA_takeAll_48
  · refine lv_iload_n hx hb d_ZA_takeAll_7 rfl (lv_at hl 1 rfl) ?_
    refine zk_i (va_runS (As := [.int t]) (rest := []) ⟨hx, hb, hml, hown, hts⟩ (t_ZA_isPutType l E G t) (zcS 1 hts w_858 w_859 w_1 w_860 (by decide +kernel) ⟨Nat.le_of_ble_eq_true rfl, Nat.le_of_ble_eq_true rfl⟩) (zc_pre hbase hK hN hQ hG hS) rfl rfl hl.1 rfl (lv_room (Nat.le_of_ble_eq_true rfl)) d_ZA_takeAll_8 ⟨(by decide), (by decide)⟩) hS (fun r8 G8 H locs hp8 hG hS => ?_)
    have hG : zP E G H := hp8.2 ▸ hG
    refine lv_if_eq (tgt := 21) hx hb d_ZA_takeAll_11 (by decide) (fun c11 => ?_) (fun c11 => ?_)
    · refine lv_null hx hb d_ZA_takeAll_21 ?_
      refine lv_astore_nN (lv' := [(2, .null), (0, .ref xo), (1, .int t)]) hx hb d_ZA_takeAll_22 rfl hl (by decide) rfl (fun ls hl => ?_)
      refine lv_aload_nN hx hb d_ZA_takeAll_23 rfl (lv_at hl 0 rfl) ?_
      refine lv_ifnullN (tgt := 41) hx hb d_ZA_takeAll_24 (by decide) ?_
      exact zt_row (names := zt_up) (ic := 58) hoff hx hb (hml.trans hl.1.symm) hown hts hQ hex hlocks (zt_words hts hN hQ zt_iae) (by decide) (by decide) w_813 w_488 w_26 (⟨rfl, trivial⟩) hG hS hbase (by decide) (by decide) (Nat.le_of_ble_eq_true rfl) (Nat.le_of_ble_eq_true rfl) d_ZA_takeAll_41 d_ZA_takeAll_44 d_ZA_takeAll_45 d_ZA_takeAll_48
    · refine lv_aload_n hx hb d_ZA_takeAll_14 rfl (lv_at hl 0 rfl) ?_
      have hGo15 := hG
      refine zk_q (va_runV (As := []) (rest := []) ⟨hx, hb, hml, hown, hts⟩ (t_ZA_tapeName l E G xo ta zo an b [] hX hT (by decide) 2 (by decide)) (zcV 0 hts w_991 w_993 wp_14 w_1 w_994 (by decide +kernel) ⟨Nat.le_of_ble_eq_true rfl, Nat.le_of_ble_eq_true rfl⟩) (zc_preV hbase hK hN hQ hG hS hX rfl) rfl rfl hl.1 rfl (lv_room (Nat.le_of_ble_eq_true rfl)) d_ZA_takeAll_15 ⟨(by decide), (by decide)⟩) hS (fun r15 G15 H locs hp15 hG hS => ?_)
      obtain ⟨er15, eg15⟩ : r15 = none ∧ G15 = G := by
        rcases hp15 with ⟨l9, q9, z9, -⟩ | ⟨z1, z2, -⟩
        · exact absurd ⟨l9, z9.1⟩ (zNm_e rfl)
        · exact ⟨z1, z2⟩
      have hG : zP E G H := eg15 ▸ hG
      refine zr_none er15 ?_
      refine lv_goto (tgt := 22) hx hb d_ZA_takeAll_18 (by decide) ?_
      refine lv_astore_nN (lv' := [(2, .null), (0, .ref xo), (1, .int t)]) hx hb d_ZA_takeAll_22 rfl hl (by decide) rfl (fun ls hl => ?_)
      refine lv_aload_nN hx hb d_ZA_takeAll_23 rfl (lv_at hl 0 rfl) ?_
      refine lv_ifnullN (tgt := 41) hx hb d_ZA_takeAll_24 (by decide) ?_
      exact zt_row (names := zt_up) (ic := 58) hoff hx hb (hml.trans hl.1.symm) hown hts hQ hex hlocks (zt_words hts hN hQ zt_iae) (by decide) (by decide) w_813 w_488 w_26 (⟨rfl, trivial⟩) hG hS hbase (by decide) (by decide) (Nat.le_of_ble_eq_true rfl) (Nat.le_of_ble_eq_true rfl) d_ZA_takeAll_41 d_ZA_takeAll_44 d_ZA_takeAll_45 d_ZA_takeAll_48
abbrev rm_ZA_ask_f : Room := { frames := 7, cells := 3, slots := 8, locals := 170 }
set_option maxHeartbeats 4000000 in
set_option maxRecDepth 100000 in
/-- ask, of a new object -/
theorem t_ZA_ask_f (l : Launch) (hoff : zl_off l) (E : zc_E) (G : zg_G) (xo ta zo an b la x st sd o ol da dx d0 d1 d3 bt s1 s2 s3 r1 r2 r3 : Nat) (hF : zNew E G xo ta zo an b la x st sd o ol da dx d0 d1 d3 bt s1 s2 s3 r1 r2 r3) (t u : Int32) : zT l E y_ZA_ask c_ZA_ask 5 (some .int) rm_ZA_ask_f [.ref xo, .int t, .int u] G (fun (v : Option Value) (G2 : zg_G) => False) (fun cls => cls = "java/lang/IllegalArgumentException" ∧ True) := by
  refine zT.of (by decide) (Nat.le_of_ble_eq_true rfl) ?_
  intro p e s m args below meth c hZ hex hG ls hl
  obtain ⟨hx, hb, hr, hts, hown, hlocks, hml, hnm, hbase, hK, hN, hQ⟩ := hZ
  have hl : lv_has ls 5 [(0, .ref xo), (1, .int t), (2, .int u)] := hl
  have hS : zg_S (zc_b E) s.heap s.heap [] := va_S.rf
  obtain ⟨hX, hT, hZz, hLo, ho, hLs, hst, hLd, hdx, hsd, hnx, hbt, han, hs1, hs2, hs3, hr1, hr2, hr3⟩ := id hF
  refine lv_iload_n hx hb d_ZA_ask_0 rfl (lv_at hl 1 rfl) ?_
  refine lv_iconst (v := 1) hx hb d_ZA_ask_1 (by decide) ?_
  refine lv_icmp_lt (tgt := 18) hx hb d_ZA_ask_2 (by decide) (fun c2 => ?_) (fun c2 => ?_)
  · refine lv_null hx hb d_ZA_ask_18 ?_
    refine lv_astore_nN (lv' := [(3, .null), (0, .ref xo), (1, .int t), (2, .int u)]) hx hb d_ZA_ask_19 rfl hl (by decide) rfl (fun ls hl => ?_)
    refine lv_aload_nN hx hb d_ZA_ask_20 rfl (lv_at hl 0 rfl) ?_
    refine lv_ifnonnullN hx hb d_ZA_ask_21 ?_
    exact zt_row (names := zt_up) (ic := 58) hoff hx hb (hml.trans hl.1.symm) hown hts hQ hex hlocks (zt_words hts hN hQ zt_iae) (by decide) (by decide) w_813 w_488 w_26 (⟨rfl, trivial⟩) hG hS hbase (by decide) (by decide) (Nat.le_of_ble_eq_true rfl) (Nat.le_of_ble_eq_true rfl) d_ZA_ask_24 d_ZA_ask_27 d_ZA_ask_28 d_ZA_ask_31
  · refine lv_iload_n hx hb d_ZA_ask_5 rfl (lv_at hl 1 rfl) ?_
    refine lv_ldc hx hb hown (hts _ w_861) d_ZA_ask_6 ?_
    refine lv_icmp_gt (tgt := 18) hx hb d_ZA_ask_8 (by decide) (fun c8 => ?_) (fun c8 => ?_)
    · refine lv_null hx hb d_ZA_ask_18 ?_
      refine lv_astore_nN (lv' := [(3, .null), (0, .ref xo), (1, .int t), (2, .int u)]) hx hb d_ZA_ask_19 rfl hl (by decide) rfl (fun ls hl => ?_)
      refine lv_aload_nN hx hb d_ZA_ask_20 rfl (lv_at hl 0 rfl) ?_
      refine lv_ifnonnullN hx hb d_ZA_ask_21 ?_
      exact zt_row (names := zt_up) (ic := 58) hoff hx hb (hml.trans hl.1.symm) hown hts hQ hex hlocks (zt_words hts hN hQ zt_iae) (by decide) (by decide) w_813 w_488 w_26 (⟨rfl, trivial⟩) hG hS hbase (by decide) (by decide) (Nat.le_of_ble_eq_true rfl) (Nat.le_of_ble_eq_true rfl) d_ZA_ask_24 d_ZA_ask_27 d_ZA_ask_28 d_ZA_ask_31
    · refine lv_aload_n hx hb d_ZA_ask_11 rfl (lv_at hl 0 rfl) ?_
      have hGo12 := hG
      refine zk_q (va_runV (As := []) (rest := []) ⟨hx, hb, hml, hown, hts⟩ (t_ZA_tapeName l E G xo ta zo an b [] hX hT (by decide) 2 (by decide)) (zcV 0 hts w_991 w_993 wp_14 w_1 w_994 (by decide +kernel) ⟨Nat.le_of_ble_eq_true rfl, Nat.le_of_ble_eq_true rfl⟩) (zc_preV hbase hK hN hQ hG hS hX rfl) rfl rfl hl.1 rfl (lv_room (Nat.le_of_ble_eq_true rfl)) d_ZA_ask_12 ⟨(by decide), (by decide)⟩) hS (fun r12 G12 H locs hp12 hG hS => ?_)
      obtain ⟨er12, eg12⟩ : r12 = none ∧ G12 = G := by
        rcases hp12 with ⟨l9, q9, z9, -⟩ | ⟨z1, z2, -⟩
        · exact absurd ⟨l9, z9.1⟩ (zNm_e rfl)
        · exact ⟨z1, z2⟩
      have hG : zP E G H := eg12 ▸ hG
      refine zr_none er12 ?_
      refine lv_goto (tgt := 19) hx hb d_ZA_ask_15 (by decide) ?_
      refine lv_astore_nN (lv' := [(3, .null), (0, .ref xo), (1, .int t), (2, .int u)]) hx hb d_ZA_ask_19 rfl hl (by decide) rfl (fun ls hl => ?_)
      refine lv_aload_nN hx hb d_ZA_ask_20 rfl (lv_at hl 0 rfl) ?_
      refine lv_ifnonnullN hx hb d_ZA_ask_21 ?_
      exact zt_row (names := zt_up) (ic := 58) hoff hx hb (hml.trans hl.1.symm) hown hts hQ hex hlocks (zt_words hts hN hQ zt_iae) (by decide) (by decide) w_813 w_488 w_26 (⟨rfl, trivial⟩) hG hS hbase (by decide) (by decide) (Nat.le_of_ble_eq_true rfl) (Nat.le_of_ble_eq_true rfl) d_ZA_ask_24 d_ZA_ask_27 d_ZA_ask_28 d_ZA_ask_31
abbrev rm_ZA_state_f : Room := { frames := 7, cells := 3, slots := 8, locals := 170 }
set_option maxHeartbeats 4000000 in
set_option maxRecDepth 100000 in
/-- state(), of a new object -/
theorem t_ZA_state_f (l : Launch) (hoff : zl_off l) (E : zc_E) (G : zg_G) (xo ta zo an b la x st sd o ol da dx d0 d1 d3 bt s1 s2 s3 r1 r2 r3 : Nat) (hF : zNew E G xo ta zo an b la x st sd o ol da dx d0 d1 d3 bt s1 s2 s3 r1 r2 r3) : zT l E y_ZA_state c_ZA_state 3 (some .int) rm_ZA_state_f [.ref xo] G (fun (v : Option Value) (G2 : zg_G) => False) (fun cls => cls = "java/lang/IllegalArgumentException" ∧ True) := by
  refine zT.of (by decide) (Nat.le_of_ble_eq_true rfl) ?_
  intro p e s m args below meth c hZ hex hG ls hl
  obtain ⟨hx, hb, hr, hts, hown, hlocks, hml, hnm, hbase, hK, hN, hQ⟩ := hZ
  have hl : lv_has ls 3 [(0, .ref xo)] := hl
  have hS : zg_S (zc_b E) s.heap s.heap [] := va_S.rf
  obtain ⟨hX, hT, hZz, hLo, ho, hLs, hst, hLd, hdx, hsd, hnx, hbt, han, hs1, hs2, hs3, hr1, hr2, hr3⟩ := id hF
  refine lv_aload_n hx hb d_ZA_state_0 rfl (lv_at hl 0 rfl) ?_
  have hGo1 := hG
  refine zk_q (va_runV (As := []) (rest := []) ⟨hx, hb, hml, hown, hts⟩ (t_ZA_tapeName l E G xo ta zo an b [] hX hT (by decide) 2 (by decide)) (zcV 0 hts w_991 w_993 wp_14 w_1 w_994 (by decide +kernel) ⟨Nat.le_of_ble_eq_true rfl, Nat.le_of_ble_eq_true rfl⟩) (zc_preV hbase hK hN hQ hG hS hX rfl) rfl rfl hl.1 rfl (lv_room (Nat.le_of_ble_eq_true rfl)) d_ZA_state_1 ⟨(by decide), (by decide)⟩) hS (fun r1 G1 H locs hp1 hG hS => ?_)
  obtain ⟨er1, eg1⟩ : r1 = none ∧ G1 = G := by
    rcases hp1 with ⟨l9, q9, z9, -⟩ | ⟨z1, z2, -⟩
    · exact absurd ⟨l9, z9.1⟩ (zNm_e rfl)
    · exact ⟨z1, z2⟩
  have hG : zP E G H := eg1 ▸ hG
  refine zr_none er1 ?_
  refine lv_astore_nN (lv' := [(1, .null), (0, .ref xo)]) hx hb d_ZA_state_4 rfl hl (by decide) rfl (fun ls hl => ?_)
  refine lv_aload_nN hx hb d_ZA_state_5 rfl (lv_at hl 0 rfl) ?_
  refine lv_ifnonnullN hx hb d_ZA_state_6 ?_
  exact zt_row (names := zt_up) (ic := 58) hoff hx hb (hml.trans hl.1.symm) hown hts hQ hex hlocks (zt_words hts hN hQ zt_iae) (by decide) (by decide) w_813 w_488 w_26 (⟨rfl, trivial⟩) hG hS hbase (by decide) (by decide) (Nat.le_of_ble_eq_true rfl) (Nat.le_of_ble_eq_true rfl) d_ZA_state_9 d_ZA_state_12 d_ZA_state_13 d_ZA_state_16
abbrev rm_ZA_records_f : Room := { frames := 6, cells := 1, slots := 6, locals := 110 }
set_option maxHeartbeats 4000000 in
set_option maxRecDepth 100000 in
/-- records(y), of a new object -/
theorem t_ZA_records_f (l : Launch) (hoff : zl_off l) (E : zc_E) (G : zg_G) (xo ta zo an b la x st sd o ol da dx d0 d1 d3 bt s1 s2 s3 r1 r2 r3 : Nat) (hF : zNew E G xo ta zo an b la x st sd o ol da dx d0 d1 d3 bt s1 s2 s3 r1 r2 r3) (y : Int32) : zT l E y_ZA_records c_ZA_records 3 (some .int) rm_ZA_records_f [.ref xo, .int y] G (fun (v : Option Value) (G2 : zg_G) => v = some (.int 0) ∧ (y = 1 ∨ y = 2 ∨ y = 3) ∧ G2 = G) (fun cls => cls = "java/util/NoSuchElementException" ∧ ¬ y = 1 ∧ ¬ y = 2 ∧ ¬ y = 3) := by
  refine zT.of (by decide) (Nat.le_of_ble_eq_true rfl) ?_
  intro p e s m args below meth c hZ hex hG ls hl
  obtain ⟨hx, hb, hr, hts, hown, hlocks, hml, hnm, hbase, hK, hN, hQ⟩ := hZ
  have hl : lv_has ls 3 [(0, .ref xo), (1, .int y)] := hl
  have hS : zg_S (zc_b E) s.heap s.heap [] := va_S.rf
  obtain ⟨hX, hT, hZz, hLo, ho, hLs, hst, hLd, hdx, hsd, hnx, hbt, han, hs1, hs2, hs3, hr1, hr2, hr3⟩ := id hF
  rcases zsec y with h9 | h9 | h9 | ⟨h9, h8, h7⟩
  · refine lv_aload_n hx hb d_ZA_records_0 rfl (lv_at hl 0 rfl) ?_
    refine zg_get (ci := 10) (C := "ZoneAnswers") (T := T_ZA) (N := 3) hx hb hts zi_ZA hown hK hG hX rfl 2 (by decide) (hts _ w_705) (fun _ h9 => h9) rfl d_ZA_records_1 ?_
    refine lv_iload_n hx hb d_ZA_records_4 rfl (lv_at hl 1 rfl) ?_
    have hGo5 := hG
    refine zk_q (va_runV (As := [.int y]) (rest := []) ⟨hx, hb, hml, hown, hts⟩ (t_An_section l E G an zo s1 s2 s3 0 0 y han) (zcV 1 hts w_1204 w_1205 w_1206 w_28 w_1207 (by decide +kernel) ⟨Nat.le_of_ble_eq_true rfl, Nat.le_of_ble_eq_true rfl⟩) (zc_preV hbase hK hN hQ hG hS han rfl) rfl rfl hl.1 rfl (lv_room (Nat.le_of_ble_eq_true rfl)) d_ZA_records_5 ⟨(by decide), (by decide)⟩) hS (fun r5 G5 H locs hp5 hG hS => ?_)
    have hG : zP E G H := hp5.2 ▸ hG
    refine zr_some (a := s1) (hp5.1.trans (by rw [h9]; rfl)) ?_
    refine lv_astore_n (lv' := [(2, .ref s1), (0, .ref xo), (1, .int y)]) hx hb d_ZA_records_8 rfl hl (by decide) rfl (fun ls hl => ?_)
    refine lv_aload_n hx hb d_ZA_records_9 rfl (lv_at hl 0 rfl) ?_
    refine lv_ifnonnull (tgt := 21) hx hb d_ZA_records_10 (by decide) ?_
    refine lv_aload_n hx hb d_ZA_records_21 rfl (lv_at hl 0 rfl) ?_
    refine zk_i (va_runV (As := []) (rest := []) ⟨hx, hb, hml, hown, hts⟩ (t_Se_size l E G s1 r1 (.ref (E.2.2.2 0)) 0 0 hr1 hs1) (zcV 0 hts w_1208 w_1189 w_1190 w_29 w_1191 (by decide +kernel) ⟨Nat.le_of_ble_eq_true rfl, Nat.le_of_ble_eq_true rfl⟩) (zc_preV hbase hK hN hQ hG hS hs1 rfl) rfl rfl hl.1 rfl (lv_room (Nat.le_of_ble_eq_true rfl)) d_ZA_records_22 ⟨(by decide), (by decide)⟩) hS (fun r22 G22 H locs hp22 hG hS => ?_)
    have hG : zP E G H := hp22.2 ▸ hG
    refine zi_as (y := 0) hp22.1 ?_
    exact zt_iret hx hb hr hlocks (rfl) (⟨rfl, by first | exact Or.inl h9 | exact Or.inr (Or.inl h9) | exact Or.inr (Or.inr h9), rfl⟩) hG hS (by decide) (by decide) d_ZA_records_25
  · refine lv_aload_n hx hb d_ZA_records_0 rfl (lv_at hl 0 rfl) ?_
    refine zg_get (ci := 10) (C := "ZoneAnswers") (T := T_ZA) (N := 3) hx hb hts zi_ZA hown hK hG hX rfl 2 (by decide) (hts _ w_705) (fun _ h9 => h9) rfl d_ZA_records_1 ?_
    refine lv_iload_n hx hb d_ZA_records_4 rfl (lv_at hl 1 rfl) ?_
    have hGo5 := hG
    refine zk_q (va_runV (As := [.int y]) (rest := []) ⟨hx, hb, hml, hown, hts⟩ (t_An_section l E G an zo s1 s2 s3 0 0 y han) (zcV 1 hts w_1204 w_1205 w_1206 w_28 w_1207 (by decide +kernel) ⟨Nat.le_of_ble_eq_true rfl, Nat.le_of_ble_eq_true rfl⟩) (zc_preV hbase hK hN hQ hG hS han rfl) rfl rfl hl.1 rfl (lv_room (Nat.le_of_ble_eq_true rfl)) d_ZA_records_5 ⟨(by decide), (by decide)⟩) hS (fun r5 G5 H locs hp5 hG hS => ?_)
    have hG : zP E G H := hp5.2 ▸ hG
    refine zr_some (a := s2) (hp5.1.trans (by rw [h9]; rfl)) ?_
    refine lv_astore_n (lv' := [(2, .ref s2), (0, .ref xo), (1, .int y)]) hx hb d_ZA_records_8 rfl hl (by decide) rfl (fun ls hl => ?_)
    refine lv_aload_n hx hb d_ZA_records_9 rfl (lv_at hl 0 rfl) ?_
    refine lv_ifnonnull (tgt := 21) hx hb d_ZA_records_10 (by decide) ?_
    refine lv_aload_n hx hb d_ZA_records_21 rfl (lv_at hl 0 rfl) ?_
    refine zk_i (va_runV (As := []) (rest := []) ⟨hx, hb, hml, hown, hts⟩ (t_Se_size l E G s2 r2 (.ref (E.2.2.2 0)) 0 0 hr2 hs2) (zcV 0 hts w_1208 w_1189 w_1190 w_29 w_1191 (by decide +kernel) ⟨Nat.le_of_ble_eq_true rfl, Nat.le_of_ble_eq_true rfl⟩) (zc_preV hbase hK hN hQ hG hS hs2 rfl) rfl rfl hl.1 rfl (lv_room (Nat.le_of_ble_eq_true rfl)) d_ZA_records_22 ⟨(by decide), (by decide)⟩) hS (fun r22 G22 H locs hp22 hG hS => ?_)
    have hG : zP E G H := hp22.2 ▸ hG
    refine zi_as (y := 0) hp22.1 ?_
    exact zt_iret hx hb hr hlocks (rfl) (⟨rfl, by first | exact Or.inl h9 | exact Or.inr (Or.inl h9) | exact Or.inr (Or.inr h9), rfl⟩) hG hS (by decide) (by decide) d_ZA_records_25
  · refine lv_aload_n hx hb d_ZA_records_0 rfl (lv_at hl 0 rfl) ?_
    refine zg_get (ci := 10) (C := "ZoneAnswers") (T := T_ZA) (N := 3) hx hb hts zi_ZA hown hK hG hX rfl 2 (by decide) (hts _ w_705) (fun _ h9 => h9) rfl d_ZA_records_1 ?_
    refine lv_iload_n hx hb d_ZA_records_4 rfl (lv_at hl 1 rfl) ?_
    have hGo5 := hG
    refine zk_q (va_runV (As := [.int y]) (rest := []) ⟨hx, hb, hml, hown, hts⟩ (t_An_section l E G an zo s1 s2 s3 0 0 y han) (zcV 1 hts w_1204 w_1205 w_1206 w_28 w_1207 (by decide +kernel) ⟨Nat.le_of_ble_eq_true rfl, Nat.le_of_ble_eq_true rfl⟩) (zc_preV hbase hK hN hQ hG hS han rfl) rfl rfl hl.1 rfl (lv_room (Nat.le_of_ble_eq_true rfl)) d_ZA_records_5 ⟨(by decide), (by decide)⟩) hS (fun r5 G5 H locs hp5 hG hS => ?_)
    have hG : zP E G H := hp5.2 ▸ hG
    refine zr_some (a := s3) (hp5.1.trans (by rw [h9]; rfl)) ?_
    refine lv_astore_n (lv' := [(2, .ref s3), (0, .ref xo), (1, .int y)]) hx hb d_ZA_records_8 rfl hl (by decide) rfl (fun ls hl => ?_)
    refine lv_aload_n hx hb d_ZA_records_9 rfl (lv_at hl 0 rfl) ?_
    refine lv_ifnonnull (tgt := 21) hx hb d_ZA_records_10 (by decide) ?_
    refine lv_aload_n hx hb d_ZA_records_21 rfl (lv_at hl 0 rfl) ?_
    refine zk_i (va_runV (As := []) (rest := []) ⟨hx, hb, hml, hown, hts⟩ (t_Se_size l E G s3 r3 (.ref (E.2.2.2 0)) 0 0 hr3 hs3) (zcV 0 hts w_1208 w_1189 w_1190 w_29 w_1191 (by decide +kernel) ⟨Nat.le_of_ble_eq_true rfl, Nat.le_of_ble_eq_true rfl⟩) (zc_preV hbase hK hN hQ hG hS hs3 rfl) rfl rfl hl.1 rfl (lv_room (Nat.le_of_ble_eq_true rfl)) d_ZA_records_22 ⟨(by decide), (by decide)⟩) hS (fun r22 G22 H locs hp22 hG hS => ?_)
    have hG : zP E G H := hp22.2 ▸ hG
    refine zi_as (y := 0) hp22.1 ?_
    exact zt_iret hx hb hr hlocks (rfl) (⟨rfl, by first | exact Or.inl h9 | exact Or.inr (Or.inl h9) | exact Or.inr (Or.inr h9), rfl⟩) hG hS (by decide) (by decide) d_ZA_records_25
  · refine lv_aload_n hx hb d_ZA_records_0 rfl (lv_at hl 0 rfl) ?_
    refine zg_get (ci := 10) (C := "ZoneAnswers") (T := T_ZA) (N := 3) hx hb hts zi_ZA hown hK hG hX rfl 2 (by decide) (hts _ w_705) (fun _ h9 => h9) rfl d_ZA_records_1 ?_
    refine lv_iload_n hx hb d_ZA_records_4 rfl (lv_at hl 1 rfl) ?_
    have hGo5 := hG
    refine zk_q (va_runV (As := [.int y]) (rest := []) ⟨hx, hb, hml, hown, hts⟩ (t_An_section l E G an zo s1 s2 s3 0 0 y han) (zcV 1 hts w_1204 w_1205 w_1206 w_28 w_1207 (by decide +kernel) ⟨Nat.le_of_ble_eq_true rfl, Nat.le_of_ble_eq_true rfl⟩) (zc_preV hbase hK hN hQ hG hS han rfl) rfl rfl hl.1 rfl (lv_room (Nat.le_of_ble_eq_true rfl)) d_ZA_records_5 ⟨(by decide), (by decide)⟩) hS (fun r5 G5 H locs hp5 hG hS => ?_)
    have hG : zP E G H := hp5.2 ▸ hG
    refine zr_none (hp5.1.trans (by rw [if_neg h9, if_neg h8, if_neg h7])) ?_
    refine lv_astore_nN (lv' := [(2, .null), (0, .ref xo), (1, .int y)]) hx hb d_ZA_records_8 rfl hl (by decide) rfl (fun ls hl => ?_)
    refine lv_aload_nN hx hb d_ZA_records_9 rfl (lv_at hl 0 rfl) ?_
    refine lv_ifnonnullN hx hb d_ZA_records_10 ?_
    exact zt_row (names := zt_up) (ic := 124) hoff hx hb (hml.trans hl.1.symm) hown hts hQ hex hlocks (zt_words hts hN hQ zt_nse) (by decide) (by decide) w_944 w_945 w_35 (⟨rfl, h9, h8, h7⟩) hG hS hbase (by decide) (by decide) (Nat.le_of_ble_eq_true rfl) (Nat.le_of_ble_eq_true rfl) d_ZA_records_13 d_ZA_records_16 d_ZA_records_17 d_ZA_records_20
abbrev rm_ZA_row_f : Room := { frames := 4, cells := 0, slots := 0, locals := 110 }
set_option maxHeartbeats 4000000 in
set_option maxRecDepth 100000 in
/-- row(y, z), of a new object -/
theorem t_ZA_row_f (l : Launch) (E : zc_E) (G : zg_G) (xo ta zo an b la x st sd o ol da dx d0 d1 d3 bt s1 s2 s3 r1 r2 r3 : Nat) (hF : zNew E G xo ta zo an b la x st sd o ol da dx d0 d1 d3 bt s1 s2 s3 r1 r2 r3) (y z : Int32) : zMq l E y_ZA_row c_ZA_row 4 (some (.object "ZoneAnswers$Told")) rm_ZA_row_f [.ref xo, .int y, .int z] G (fun (r : Option Nat) (G2 : zg_G) => r = none ∧ G2 = G) := by
  refine zMq.of (by decide) (Nat.le_of_ble_eq_true rfl) ?_
  intro p e s m args below meth c Q hZ hG hret ls hl
  obtain ⟨hx, hb, hr, hts, hown, hlocks, hml, hnm, hbase, hK, hN, hQ⟩ := hZ
  have hl : lv_has ls 4 [(0, .ref xo), (1, .int y), (2, .int z)] := hl
  have hS : zg_S (zc_b E) s.heap s.heap [] := va_S.rf
  obtain ⟨hX, hT, hZz, hLo, ho, hLs, hst, hLd, hdx, hsd, hnx, hbt, han, hs1, hs2, hs3, hr1, hr2, hr3⟩ := id hF
  rcases zsec y with h9 | h9 | h9 | ⟨h9, h8, h7⟩
  · refine lv_aload_n hx hb d_ZA_row_0 rfl (lv_at hl 0 rfl) ?_
    refine zg_get (ci := 10) (C := "ZoneAnswers") (T := T_ZA) (N := 3) hx hb hts zi_ZA hown hK hG hX rfl 2 (by decide) (hts _ w_705) (fun _ h9 => h9) rfl d_ZA_row_1 ?_
    refine lv_iload_n hx hb d_ZA_row_4 rfl (lv_at hl 1 rfl) ?_
    have hGo5 := hG
    refine zk_q (va_runV (As := [.int y]) (rest := []) ⟨hx, hb, hml, hown, hts⟩ (t_An_section l E G an zo s1 s2 s3 0 0 y han) (zcV 1 hts w_1204 w_1205 w_1206 w_28 w_1207 (by decide +kernel) ⟨Nat.le_of_ble_eq_true rfl, Nat.le_of_ble_eq_true rfl⟩) (zc_preV hbase hK hN hQ hG hS han rfl) rfl rfl hl.1 rfl (lv_room (Nat.le_of_ble_eq_true rfl)) d_ZA_row_5 ⟨(by decide), (by decide)⟩) hS (fun r5 G5 H locs hp5 hG hS => ?_)
    have hG : zP E G H := hp5.2 ▸ hG
    refine zr_some (a := s1) (hp5.1.trans (by rw [h9]; rfl)) ?_
    refine lv_astore_n (lv' := [(3, .ref s1), (0, .ref xo), (1, .int y), (2, .int z)]) hx hb d_ZA_row_8 rfl hl (by decide) rfl (fun ls hl => ?_)
    refine lv_aload_n hx hb d_ZA_row_9 rfl (lv_at hl 0 rfl) ?_
    refine lv_ifnonnull (tgt := 17) hx hb d_ZA_row_10 (by decide) ?_
    refine lv_aload_n hx hb d_ZA_row_17 rfl (lv_at hl 0 rfl) ?_
    refine lv_iload_n hx hb d_ZA_row_18 rfl (lv_at hl 3 rfl) ?_
    refine zk_q (va_runV (As := [.int z]) (rest := []) ⟨hx, hb, hml, hown, hts⟩ (t_Se_row_e l E G s1 r1 hs1 (.ref (E.2.2.2 0)) 0 hr1 z) (zcV 1 hts w_1220 w_1193 w_1194 w_29 w_1195 (by decide +kernel) ⟨Nat.le_of_ble_eq_true rfl, Nat.le_of_ble_eq_true rfl⟩) (zc_preV hbase hK hN hQ hG hS hs1 rfl) rfl rfl hl.1 rfl (lv_room (Nat.le_of_ble_eq_true rfl)) d_ZA_row_19 ⟨(by decide), (by decide)⟩) hS (fun r19 G19 H locs hp19 hG hS => ?_)
    have hG : zP E G H := hp19.2 ▸ hG
    refine zr_none hp19.1 ?_
    exact hret none _ _ _ _ _ _ _ _ hr (Or.inl ⟨_, rfl⟩) (⟨rfl, rfl⟩) hG hS (Nat.le_refl _) (Nat.le_refl _) d_ZA_row_22
  · refine lv_aload_n hx hb d_ZA_row_0 rfl (lv_at hl 0 rfl) ?_
    refine zg_get (ci := 10) (C := "ZoneAnswers") (T := T_ZA) (N := 3) hx hb hts zi_ZA hown hK hG hX rfl 2 (by decide) (hts _ w_705) (fun _ h9 => h9) rfl d_ZA_row_1 ?_
    refine lv_iload_n hx hb d_ZA_row_4 rfl (lv_at hl 1 rfl) ?_
    have hGo5 := hG
    refine zk_q (va_runV (As := [.int y]) (rest := []) ⟨hx, hb, hml, hown, hts⟩ (t_An_section l E G an zo s1 s2 s3 0 0 y han) (zcV 1 hts w_1204 w_1205 w_1206 w_28 w_1207 (by decide +kernel) ⟨Nat.le_of_ble_eq_true rfl, Nat.le_of_ble_eq_true rfl⟩) (zc_preV hbase hK hN hQ hG hS han rfl) rfl rfl hl.1 rfl (lv_room (Nat.le_of_ble_eq_true rfl)) d_ZA_row_5 ⟨(by decide), (by decide)⟩) hS (fun r5 G5 H locs hp5 hG hS => ?_)
    have hG : zP E G H := hp5.2 ▸ hG
    refine zr_some (a := s2) (hp5.1.trans (by rw [h9]; rfl)) ?_
    refine lv_astore_n (lv' := [(3, .ref s2), (0, .ref xo), (1, .int y), (2, .int z)]) hx hb d_ZA_row_8 rfl hl (by decide) rfl (fun ls hl => ?_)
    refine lv_aload_n hx hb d_ZA_row_9 rfl (lv_at hl 0 rfl) ?_
    refine lv_ifnonnull (tgt := 17) hx hb d_ZA_row_10 (by decide) ?_
    refine lv_aload_n hx hb d_ZA_row_17 rfl (lv_at hl 0 rfl) ?_
    refine lv_iload_n hx hb d_ZA_row_18 rfl (lv_at hl 3 rfl) ?_
    refine zk_q (va_runV (As := [.int z]) (rest := []) ⟨hx, hb, hml, hown, hts⟩ (t_Se_row_e l E G s2 r2 hs2 (.ref (E.2.2.2 0)) 0 hr2 z) (zcV 1 hts w_1220 w_1193 w_1194 w_29 w_1195 (by decide +kernel) ⟨Nat.le_of_ble_eq_true rfl, Nat.le_of_ble_eq_true rfl⟩) (zc_preV hbase hK hN hQ hG hS hs2 rfl) rfl rfl hl.1 rfl (lv_room (Nat.le_of_ble_eq_true rfl)) d_ZA_row_19 ⟨(by decide), (by decide)⟩) hS (fun r19 G19 H locs hp19 hG hS => ?_)
    have hG : zP E G H := hp19.2 ▸ hG
    refine zr_none hp19.1 ?_
    exact hret none _ _ _ _ _ _ _ _ hr (Or.inl ⟨_, rfl⟩) (⟨rfl, rfl⟩) hG hS (Nat.le_refl _) (Nat.le_refl _) d_ZA_row_22
  · refine lv_aload_n hx hb d_ZA_row_0 rfl (lv_at hl 0 rfl) ?_
    refine zg_get (ci := 10) (C := "ZoneAnswers") (T := T_ZA) (N := 3) hx hb hts zi_ZA hown hK hG hX rfl 2 (by decide) (hts _ w_705) (fun _ h9 => h9) rfl d_ZA_row_1 ?_
    refine lv_iload_n hx hb d_ZA_row_4 rfl (lv_at hl 1 rfl) ?_
    have hGo5 := hG
    refine zk_q (va_runV (As := [.int y]) (rest := []) ⟨hx, hb, hml, hown, hts⟩ (t_An_section l E G an zo s1 s2 s3 0 0 y han) (zcV 1 hts w_1204 w_1205 w_1206 w_28 w_1207 (by decide +kernel) ⟨Nat.le_of_ble_eq_true rfl, Nat.le_of_ble_eq_true rfl⟩) (zc_preV hbase hK hN hQ hG hS han rfl) rfl rfl hl.1 rfl (lv_room (Nat.le_of_ble_eq_true rfl)) d_ZA_row_5 ⟨(by decide), (by decide)⟩) hS (fun r5 G5 H locs hp5 hG hS => ?_)
    have hG : zP E G H := hp5.2 ▸ hG
    refine zr_some (a := s3) (hp5.1.trans (by rw [h9]; rfl)) ?_
    refine lv_astore_n (lv' := [(3, .ref s3), (0, .ref xo), (1, .int y), (2, .int z)]) hx hb d_ZA_row_8 rfl hl (by decide) rfl (fun ls hl => ?_)
    refine lv_aload_n hx hb d_ZA_row_9 rfl (lv_at hl 0 rfl) ?_
    refine lv_ifnonnull (tgt := 17) hx hb d_ZA_row_10 (by decide) ?_
    refine lv_aload_n hx hb d_ZA_row_17 rfl (lv_at hl 0 rfl) ?_
    refine lv_iload_n hx hb d_ZA_row_18 rfl (lv_at hl 3 rfl) ?_
    refine zk_q (va_runV (As := [.int z]) (rest := []) ⟨hx, hb, hml, hown, hts⟩ (t_Se_row_e l E G s3 r3 hs3 (.ref (E.2.2.2 0)) 0 hr3 z) (zcV 1 hts w_1220 w_1193 w_1194 w_29 w_1195 (by decide +kernel) ⟨Nat.le_of_ble_eq_true rfl, Nat.le_of_ble_eq_true rfl⟩) (zc_preV hbase hK hN hQ hG hS hs3 rfl) rfl rfl hl.1 rfl (lv_room (Nat.le_of_ble_eq_true rfl)) d_ZA_row_19 ⟨(by decide), (by decide)⟩) hS (fun r19 G19 H locs hp19 hG hS => ?_)
    have hG : zP E G H := hp19.2 ▸ hG
    refine zr_none hp19.1 ?_
    exact hret none _ _ _ _ _ _ _ _ hr (Or.inl ⟨_, rfl⟩) (⟨rfl, rfl⟩) hG hS (Nat.le_refl _) (Nat.le_refl _) d_ZA_row_22
  · refine lv_aload_n hx hb d_ZA_row_0 rfl (lv_at hl 0 rfl) ?_
    refine zg_get (ci := 10) (C := "ZoneAnswers") (T := T_ZA) (N := 3) hx hb hts zi_ZA hown hK hG hX rfl 2 (by decide) (hts _ w_705) (fun _ h9 => h9) rfl d_ZA_row_1 ?_
    refine lv_iload_n hx hb d_ZA_row_4 rfl (lv_at hl 1 rfl) ?_
    have hGo5 := hG
    refine zk_q (va_runV (As := [.int y]) (rest := []) ⟨hx, hb, hml, hown, hts⟩ (t_An_section l E G an zo s1 s2 s3 0 0 y han) (zcV 1 hts w_1204 w_1205 w_1206 w_28 w_1207 (by decide +kernel) ⟨Nat.le_of_ble_eq_true rfl, Nat.le_of_ble_eq_true rfl⟩) (zc_preV hbase hK hN hQ hG hS han rfl) rfl rfl hl.1 rfl (lv_room (Nat.le_of_ble_eq_true rfl)) d_ZA_row_5 ⟨(by decide), (by decide)⟩) hS (fun r5 G5 H locs hp5 hG hS => ?_)
    have hG : zP E G H := hp5.2 ▸ hG
    refine zr_none (hp5.1.trans (by rw [if_neg h9, if_neg h8, if_neg h7])) ?_
    refine lv_astore_nN (lv' := [(3, .null), (0, .ref xo), (1, .int y), (2, .int z)]) hx hb d_ZA_row_8 rfl hl (by decide) rfl (fun ls hl => ?_)
    refine lv_aload_nN hx hb d_ZA_row_9 rfl (lv_at hl 0 rfl) ?_
    refine lv_ifnonnullN hx hb d_ZA_row_10 ?_
    refine lv_null hx hb d_ZA_row_13 ?_
    refine lv_goto (tgt := 22) hx hb d_ZA_row_14 (by decide) ?_
    exact hret none _ _ _ _ _ _ _ _ hr (Or.inl ⟨_, rfl⟩) (⟨rfl, rfl⟩) hG hS (Nat.le_refl _) (Nat.le_refl _) d_ZA_row_22
abbrev rm_ZA_told_f : Room := { frames := 7, cells := 1, slots := 6, locals := 140 }
set_option maxHeartbeats 4000000 in
set_option maxRecDepth 100000 in
/-- ZA_told, of a new object -/
theorem t_ZA_told_f (l : Launch) (hoff : zl_off l) (E : zc_E) (G : zg_G) (xo ta zo an b la x st sd o ol da dx d0 d1 d3 bt s1 s2 s3 r1 r2 r3 : Nat) (hF : zNew E G xo ta zo an b la x st sd o ol da dx d0 d1 d3 bt s1 s2 s3 r1 r2 r3) (y z u : Int32) : zT l E y_ZA_told c_ZA_told 5 (some .int) rm_ZA_told_f [.ref xo, .int y, .int z, .int u] G (fun (v : Option Value) (G2 : zg_G) => False) (fun cls => cls = "java/util/NoSuchElementException" ∧ True) := by
  refine zT.of (by decide) (Nat.le_of_ble_eq_true rfl) ?_
  intro p e s m args below meth c hZ hex hG ls hl
  obtain ⟨hx, hb, hr, hts, hown, hlocks, hml, hnm, hbase, hK, hN, hQ⟩ := hZ
  have hl : lv_has ls 5 [(0, .ref xo), (1, .int y), (2, .int z), (3, .int u)] := hl
  have hS : zg_S (zc_b E) s.heap s.heap [] := va_S.rf
  obtain ⟨hX, hT, hZz, hLo, ho, hLs, hst, hLd, hdx, hsd, hnx, hbt, han, hs1, hs2, hs3, hr1, hr2, hr3⟩ := id hF
  refine lv_aload_n hx hb d_ZA_told_0 rfl (lv_at hl 0 rfl) ?_
  refine lv_iload_n hx hb d_ZA_told_1 rfl (lv_at hl 1 rfl) ?_
  refine lv_iload_n hx hb d_ZA_told_2 rfl (lv_at hl 2 rfl) ?_
  refine zk_q (va_runV (As := [.int y, .int z]) (rest := []) ⟨hx, hb, hml, hown, hts⟩ (t_ZA_row_f l E G xo ta zo an b la x st sd o ol da dx d0 d1 d3 bt s1 s2 s3 r1 r2 r3 hF y z) (zcV 2 hts w_1216 w_1218 wp_24 w_1 w_1219 (by decide +kernel) ⟨Nat.le_of_ble_eq_true rfl, Nat.le_of_ble_eq_true rfl⟩) (zc_preV hbase hK hN hQ hG hS hX rfl) rfl rfl hl.1 rfl (lv_room (Nat.le_of_ble_eq_true rfl)) d_ZA_told_3 ⟨(by decide), (by decide)⟩) hS (fun r3 G3 H locs hp3 hG hS => ?_)
  have hG : zP E G H := hp3.2 ▸ hG
  refine zr_none hp3.1 ?_
  refine lv_astoreN (lv' := [(4, .null), (0, .ref xo), (1, .int y), (2, .int z), (3, .int u)]) hx hb d_ZA_told_6 hl (by decide) rfl (fun ls hl => ?_)
  refine lv_aloadN hx hb d_ZA_told_8 (lv_at hl 0 rfl) ?_
  refine lv_ifnonnullN hx hb d_ZA_told_10 ?_
  exact zt_row (names := zt_up) (ic := 124) hoff hx hb (hml.trans hl.1.symm) hown hts hQ hex hlocks (zt_words hts hN hQ zt_nse) (by decide) (by decide) w_944 w_945 w_35 (⟨rfl, trivial⟩) hG hS hbase (by decide) (by decide) (Nat.le_of_ble_eq_true rfl) (Nat.le_of_ble_eq_true rfl) d_ZA_told_13 d_ZA_told_16 d_ZA_told_17 d_ZA_told_20
abbrev rm_ZA_byteOf_f : Room := { frames := 7, cells := 1, slots := 6, locals := 140 }
set_option maxHeartbeats 4000000 in
set_option maxRecDepth 100000 in
/-- ZA_byteOf, of a new object -/
theorem t_ZA_byteOf_f (l : Launch) (hoff : zl_off l) (E : zc_E) (G : zg_G) (xo ta zo an b la x st sd o ol da dx d0 d1 d3 bt s1 s2 s3 r1 r2 r3 : Nat) (hF : zNew E G xo ta zo an b la x st sd o ol da dx d0 d1 d3 bt s1 s2 s3 r1 r2 r3) (y z u : Int32) : zT l E y_ZA_byteOf c_ZA_byteOf 6 (some .int) rm_ZA_byteOf_f [.ref xo, .int y, .int z, .int u] G (fun (v : Option Value) (G2 : zg_G) => False) (fun cls => cls = "java/util/NoSuchElementException" ∧ True) := by
  refine zT.of (by decide) (Nat.le_of_ble_eq_true rfl) ?_
  intro p e s m args below meth c hZ hex hG ls hl
  obtain ⟨hx, hb, hr, hts, hown, hlocks, hml, hnm, hbase, hK, hN, hQ⟩ := hZ
  have hl : lv_has ls 6 [(0, .ref xo), (1, .int y), (2, .int z), (3, .int u)] := hl
  have hS : zg_S (zc_b E) s.heap s.heap [] := va_S.rf
  obtain ⟨hX, hT, hZz, hLo, ho, hLs, hst, hLd, hdx, hsd, hnx, hbt, han, hs1, hs2, hs3, hr1, hr2, hr3⟩ := id hF
  refine lv_aload_n hx hb d_ZA_byteOf_0 rfl (lv_at hl 0 rfl) ?_
  refine lv_iload_n hx hb d_ZA_byteOf_1 rfl (lv_at hl 1 rfl) ?_
  refine lv_iload_n hx hb d_ZA_byteOf_2 rfl (lv_at hl 2 rfl) ?_
  refine zk_q (va_runV (As := [.int y, .int z]) (rest := []) ⟨hx, hb, hml, hown, hts⟩ (t_ZA_row_f l E G xo ta zo an b la x st sd o ol da dx d0 d1 d3 bt s1 s2 s3 r1 r2 r3 hF y z) (zcV 2 hts w_1216 w_1218 wp_24 w_1 w_1219 (by decide +kernel) ⟨Nat.le_of_ble_eq_true rfl, Nat.le_of_ble_eq_true rfl⟩) (zc_preV hbase hK hN hQ hG hS hX rfl) rfl rfl hl.1 rfl (lv_room (Nat.le_of_ble_eq_true rfl)) d_ZA_byteOf_3 ⟨(by decide), (by decide)⟩) hS (fun r3 G3 H locs hp3 hG hS => ?_)
  have hG : zP E G H := hp3.2 ▸ hG
  refine zr_none hp3.1 ?_
  refine lv_astoreN (lv' := [(4, .null), (0, .ref xo), (1, .int y), (2, .int z), (3, .int u)]) hx hb d_ZA_byteOf_6 hl (by decide) rfl (fun ls hl => ?_)
  refine lv_aloadN hx hb d_ZA_byteOf_8 (lv_at hl 0 rfl) ?_
  refine lv_ifnonnullN hx hb d_ZA_byteOf_10 ?_
  exact zt_row (names := zt_up) (ic := 124) hoff hx hb (hml.trans hl.1.symm) hown hts hQ hex hlocks (zt_words hts hN hQ zt_nse) (by decide) (by decide) w_944 w_945 w_35 (⟨rfl, trivial⟩) hG hS hbase (by decide) (by decide) (Nat.le_of_ble_eq_true rfl) (Nat.le_of_ble_eq_true rfl) d_ZA_byteOf_13 d_ZA_byteOf_16 d_ZA_byteOf_17 d_ZA_byteOf_20
