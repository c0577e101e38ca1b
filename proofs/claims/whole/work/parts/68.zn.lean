theorem zNew.tp {E : zc_E} {G : zg_G} {xo ta zo an b la x st sd o ol da dx d0 d1 d3 bt s1 s2 s3 r1 r2 r3 : Nat} (h : zNew E G xo ta zo an b la x st sd o ol da dx d0 d1 d3 bt s1 s2 s3 r1 r2 r3) : ∃ n f, G b = some (.inl (E.2.1 0, n, .inl f)) := by
  obtain ⟨-, ⟨-, n, f, h1, -⟩, -⟩ := h
  exact ⟨n, f, h1⟩
theorem w_768 : (.classLink "ZoneAnswersLaw" 13 "java/lang/IllegalStateException" : Cond) ∈ zw := zw_at 768 (by decide +kernel) (by decide +kernel)
theorem w_769 : (.methodLink "ZoneAnswersLaw" 7 ⟨"ZoneAnswers", "feed", "(IIIII)I"⟩ : Cond) ∈ zw := zw_at 769 (by decide +kernel) (by decide +kernel)
theorem w_770 : (.instanceMethod ⟨"ZoneAnswers", "feed", "(IIIII)I"⟩ : Cond) ∈ zw := zw_at 770 (by decide +kernel) (by decide +kernel)
theorem w_771 : (.selects "ZoneAnswers" ⟨"ZoneAnswers", "feed", "(IIIII)I"⟩ ⟨"ZoneAnswers", "feed", "(IIIII)I"⟩ : Cond) ∈ zw := zw_at 771 (by decide +kernel) (by decide +kernel)
theorem w_772 : (.code ⟨"ZoneAnswers", "feed", "(IIIII)I"⟩ prog_1_method_2_code 6 (some .int) : Cond) ∈ zw := zw_at 772 (by decide +kernel) (by decide +kernel)
theorem w_808 : (.classLink "ZoneAnswersLaw" 19 "java/lang/IllegalArgumentException" : Cond) ∈ zw := zw_at 808 (by decide +kernel) (by decide +kernel)
theorem w_809 : (.methodLink "ZoneAnswersLaw" 15 ⟨"ZoneAnswers", "end", "(I)I"⟩ : Cond) ∈ zw := zw_at 809 (by decide +kernel) (by decide +kernel)
theorem w_810 : (.instanceMethod ⟨"ZoneAnswers", "end", "(I)I"⟩ : Cond) ∈ zw := zw_at 810 (by decide +kernel) (by decide +kernel)
theorem w_811 : (.selects "ZoneAnswers" ⟨"ZoneAnswers", "end", "(I)I"⟩ ⟨"ZoneAnswers", "end", "(I)I"⟩ : Cond) ∈ zw := zw_at 811 (by decide +kernel) (by decide +kernel)
theorem w_812 : (.code ⟨"ZoneAnswers", "end", "(I)I"⟩ prog_1_method_3_code 2 (some .int) : Cond) ∈ zw := zw_at 812 (by decide +kernel) (by decide +kernel)
theorem w_825 : (.methodLink "ZoneAnswersLaw" 21 ⟨"ZoneAnswers", "origin", "(IIIII)V"⟩ : Cond) ∈ zw := zw_at 825 (by decide +kernel) (by decide +kernel)
theorem w_826 : (.instanceMethod ⟨"ZoneAnswers", "origin", "(IIIII)V"⟩ : Cond) ∈ zw := zw_at 826 (by decide +kernel) (by decide +kernel)
theorem w_827 : (.selects "ZoneAnswers" ⟨"ZoneAnswers", "origin", "(IIIII)V"⟩ ⟨"ZoneAnswers", "origin", "(IIIII)V"⟩ : Cond) ∈ zw := zw_at 827 (by decide +kernel) (by decide +kernel)
theorem w_828 : (.code ⟨"ZoneAnswers", "origin", "(IIIII)V"⟩ prog_1_method_4_code 11 none : Cond) ∈ zw := zw_at 828 (by decide +kernel) (by decide +kernel)
theorem w_849 : (.classLink "ZoneAnswersLaw" 29 "java/lang/UnsupportedOperationException" : Cond) ∈ zw := zw_at 849 (by decide +kernel) (by decide +kernel)
theorem w_850 : (.methodLink "ZoneAnswersLaw" 25 ⟨"ZoneAnswers", "put", "(II)I"⟩ : Cond) ∈ zw := zw_at 850 (by decide +kernel) (by decide +kernel)
theorem w_851 : (.instanceMethod ⟨"ZoneAnswers", "put", "(II)I"⟩ : Cond) ∈ zw := zw_at 851 (by decide +kernel) (by decide +kernel)
theorem w_852 : (.selects "ZoneAnswers" ⟨"ZoneAnswers", "put", "(II)I"⟩ ⟨"ZoneAnswers", "put", "(II)I"⟩ : Cond) ∈ zw := zw_at 852 (by decide +kernel) (by decide +kernel)
theorem w_853 : (.code ⟨"ZoneAnswers", "put", "(II)I"⟩ prog_1_method_5_code 6 (some .int) : Cond) ∈ zw := zw_at 853 (by decide +kernel) (by decide +kernel)
theorem w_939 : (.classLink "ZoneAnswersLaw" 34 "java/util/NoSuchElementException" : Cond) ∈ zw := zw_at 939 (by decide +kernel) (by decide +kernel)
theorem w_940 : (.methodLink "ZoneAnswersLaw" 31 ⟨"ZoneAnswers", "take", "(I)I"⟩ : Cond) ∈ zw := zw_at 940 (by decide +kernel) (by decide +kernel)
theorem w_941 : (.instanceMethod ⟨"ZoneAnswers", "take", "(I)I"⟩ : Cond) ∈ zw := zw_at 941 (by decide +kernel) (by decide +kernel)
theorem w_942 : (.selects "ZoneAnswers" ⟨"ZoneAnswers", "take", "(I)I"⟩ ⟨"ZoneAnswers", "take", "(I)I"⟩ : Cond) ∈ zw := zw_at 942 (by decide +kernel) (by decide +kernel)
theorem w_943 : (.code ⟨"ZoneAnswers", "take", "(I)I"⟩ prog_1_method_6_code 6 (some .int) : Cond) ∈ zw := zw_at 943 (by decide +kernel) (by decide +kernel)
theorem w_987 : (.methodLink "ZoneAnswersLaw" 36 ⟨"ZoneAnswers", "takeAll", "(I)I"⟩ : Cond) ∈ zw := zw_at 987 (by decide +kernel) (by decide +kernel)
theorem w_988 : (.instanceMethod ⟨"ZoneAnswers", "takeAll", "(I)I"⟩ : Cond) ∈ zw := zw_at 988 (by decide +kernel) (by decide +kernel)
theorem w_989 : (.selects "ZoneAnswers" ⟨"ZoneAnswers", "takeAll", "(I)I"⟩ ⟨"ZoneAnswers", "takeAll", "(I)I"⟩ : Cond) ∈ zw := zw_at 989 (by decide +kernel) (by decide +kernel)
theorem w_990 : (.code ⟨"ZoneAnswers", "takeAll", "(I)I"⟩ prog_1_method_7_code 5 (some .int) : Cond) ∈ zw := zw_at 990 (by decide +kernel) (by decide +kernel)
theorem w_1004 : (.methodLink "ZoneAnswersLaw" 39 ⟨"ZoneAnswers", "ask", "(IZ)I"⟩ : Cond) ∈ zw := zw_at 1004 (by decide +kernel) (by decide +kernel)
theorem w_1005 : (.instanceMethod ⟨"ZoneAnswers", "ask", "(IZ)I"⟩ : Cond) ∈ zw := zw_at 1005 (by decide +kernel) (by decide +kernel)
theorem w_1006 : (.selects "ZoneAnswers" ⟨"ZoneAnswers", "ask", "(IZ)I"⟩ ⟨"ZoneAnswers", "ask", "(IZ)I"⟩ : Cond) ∈ zw := zw_at 1006 (by decide +kernel) (by decide +kernel)
theorem w_1007 : (.code ⟨"ZoneAnswers", "ask", "(IZ)I"⟩ prog_1_method_9_code 5 (some .int) : Cond) ∈ zw := zw_at 1007 (by decide +kernel) (by decide +kernel)
theorem w_1200 : (.methodLink "ZoneAnswersLaw" 43 ⟨"ZoneAnswers", "records", "(I)I"⟩ : Cond) ∈ zw := zw_at 1200 (by decide +kernel) (by decide +kernel)
theorem w_1201 : (.instanceMethod ⟨"ZoneAnswers", "records", "(I)I"⟩ : Cond) ∈ zw := zw_at 1201 (by decide +kernel) (by decide +kernel)
theorem w_1202 : (.selects "ZoneAnswers" ⟨"ZoneAnswers", "records", "(I)I"⟩ ⟨"ZoneAnswers", "records", "(I)I"⟩ : Cond) ∈ zw := zw_at 1202 (by decide +kernel) (by decide +kernel)
theorem w_1203 : (.code ⟨"ZoneAnswers", "records", "(I)I"⟩ prog_1_method_10_code 3 (some .int) : Cond) ∈ zw := zw_at 1203 (by decide +kernel) (by decide +kernel)
theorem w_1212 : (.methodLink "ZoneAnswersLaw" 46 ⟨"ZoneAnswers", "told", "(III)I"⟩ : Cond) ∈ zw := zw_at 1212 (by decide +kernel) (by decide +kernel)
theorem w_1213 : (.instanceMethod ⟨"ZoneAnswers", "told", "(III)I"⟩ : Cond) ∈ zw := zw_at 1213 (by decide +kernel) (by decide +kernel)
theorem w_1214 : (.selects "ZoneAnswers" ⟨"ZoneAnswers", "told", "(III)I"⟩ ⟨"ZoneAnswers", "told", "(III)I"⟩ : Cond) ∈ zw := zw_at 1214 (by decide +kernel) (by decide +kernel)
theorem w_1215 : (.code ⟨"ZoneAnswers", "told", "(III)I"⟩ prog_1_method_11_code 5 (some .int) : Cond) ∈ zw := zw_at 1215 (by decide +kernel) (by decide +kernel)
theorem w_1225 : (.classLink "ZoneAnswersLaw" 53 "java/lang/IndexOutOfBoundsException" : Cond) ∈ zw := zw_at 1225 (by decide +kernel) (by decide +kernel)
theorem w_1226 : (.methodLink "ZoneAnswersLaw" 50 ⟨"ZoneAnswers", "byteOf", "(III)I"⟩ : Cond) ∈ zw := zw_at 1226 (by decide +kernel) (by decide +kernel)
theorem w_1227 : (.instanceMethod ⟨"ZoneAnswers", "byteOf", "(III)I"⟩ : Cond) ∈ zw := zw_at 1227 (by decide +kernel) (by decide +kernel)
theorem w_1228 : (.selects "ZoneAnswers" ⟨"ZoneAnswers", "byteOf", "(III)I"⟩ ⟨"ZoneAnswers", "byteOf", "(III)I"⟩ : Cond) ∈ zw := zw_at 1228 (by decide +kernel) (by decide +kernel)
theorem w_1229 : (.code ⟨"ZoneAnswers", "byteOf", "(III)I"⟩ prog_1_method_12_code 6 (some .int) : Cond) ∈ zw := zw_at 1229 (by decide +kernel) (by decide +kernel)
theorem w_1238 : (.methodLink "ZoneAnswersLaw" 55 ⟨"ZoneAnswers", "state", "()I"⟩ : Cond) ∈ zw := zw_at 1238 (by decide +kernel) (by decide +kernel)
theorem w_1239 : (.instanceMethod ⟨"ZoneAnswers", "state", "()I"⟩ : Cond) ∈ zw := zw_at 1239 (by decide +kernel) (by decide +kernel)
theorem w_1240 : (.selects "ZoneAnswers" ⟨"ZoneAnswers", "state", "()I"⟩ ⟨"ZoneAnswers", "state", "()I"⟩ : Cond) ∈ zw := zw_at 1240 (by decide +kernel) (by decide +kernel)
theorem w_1241 : (.code ⟨"ZoneAnswers", "state", "()I"⟩ prog_1_method_13_code 3 (some .int) : Cond) ∈ zw := zw_at 1241 (by decide +kernel) (by decide +kernel)
abbrev c_La_origin : ByteArray := method_5_code
abbrev y_La_origin : MethodName := ⟨"ZoneAnswersLaw", "origin", "(LZoneAnswers;IIIII)I"⟩
theorem d_La_origin_0 : decode c_La_origin 0 = .ok (.aload_n 0, 1) := by decide +kernel
theorem d_La_origin_1 : decode c_La_origin 1 = .ok (.iload_n 1, 1) := by decide +kernel
theorem d_La_origin_2 : decode c_La_origin 2 = .ok (.iload_n 2, 1) := by decide +kernel
theorem d_La_origin_3 : decode c_La_origin 3 = .ok (.iload_n 3, 1) := by decide +kernel
theorem d_La_origin_4 : decode c_La_origin 4 = .ok (.iload 4, 2) := by decide +kernel
theorem d_La_origin_6 : decode c_La_origin 6 = .ok (.iload 5, 2) := by decide +kernel
theorem d_La_origin_8 : decode c_La_origin 8 = .ok (.invokevirtual 21, 3) := by decide +kernel
theorem d_La_origin_11 : decode c_La_origin 11 = .ok (.goto 7, 3) := by decide +kernel
theorem d_La_origin_14 : decode c_La_origin 14 = .ok (.astore 6, 2) := by decide +kernel
theorem d_La_origin_16 : decode c_La_origin 16 = .ok (.iconst 1, 1) := by decide +kernel
theorem d_La_origin_17 : decode c_La_origin 17 = .ok (.ireturn, 1) := by decide +kernel
theorem d_La_origin_18 : decode c_La_origin 18 = .ok (.iconst 0, 1) := by decide +kernel
theorem d_La_origin_19 : decode c_La_origin 19 = .ok (.ireturn, 1) := by decide +kernel
abbrev c_La_put : ByteArray := method_6_code
abbrev y_La_put : MethodName := ⟨"ZoneAnswersLaw", "put", "(LZoneAnswers;II[J)I"⟩
theorem d_La_put_0 : decode c_La_put 0 = .ok (.aload_n 3, 1) := by decide +kernel
theorem d_La_put_1 : decode c_La_put 1 = .ok (.iconst 0, 1) := by decide +kernel
theorem d_La_put_2 : decode c_La_put 2 = .ok (.aload_n 0, 1) := by decide +kernel
theorem d_La_put_3 : decode c_La_put 3 = .ok (.iload_n 1, 1) := by decide +kernel
theorem d_La_put_4 : decode c_La_put 4 = .ok (.iload_n 2, 1) := by decide +kernel
theorem d_La_put_5 : decode c_La_put 5 = .ok (.invokevirtual 25, 3) := by decide +kernel
theorem d_La_put_8 : decode c_La_put 8 = .ok (.i2l, 1) := by decide +kernel
theorem d_La_put_9 : decode c_La_put 9 = .ok (.lastore, 1) := by decide +kernel
theorem d_La_put_10 : decode c_La_put 10 = .ok (.goto 15, 3) := by decide +kernel
theorem d_La_put_13 : decode c_La_put 13 = .ok (.astore 4, 2) := by decide +kernel
theorem d_La_put_15 : decode c_La_put 15 = .ok (.iconst 1, 1) := by decide +kernel
theorem d_La_put_16 : decode c_La_put 16 = .ok (.ireturn, 1) := by decide +kernel
theorem d_La_put_17 : decode c_La_put 17 = .ok (.astore 4, 2) := by decide +kernel
theorem d_La_put_19 : decode c_La_put 19 = .ok (.iconst 2, 1) := by decide +kernel
theorem d_La_put_20 : decode c_La_put 20 = .ok (.ireturn, 1) := by decide +kernel
theorem d_La_put_21 : decode c_La_put 21 = .ok (.astore 4, 2) := by decide +kernel
theorem d_La_put_23 : decode c_La_put 23 = .ok (.iconst 3, 1) := by decide +kernel
theorem d_La_put_24 : decode c_La_put 24 = .ok (.ireturn, 1) := by decide +kernel
theorem d_La_put_25 : decode c_La_put 25 = .ok (.iconst 0, 1) := by decide +kernel
theorem d_La_put_26 : decode c_La_put 26 = .ok (.ireturn, 1) := by decide +kernel
abbrev c_La_take : ByteArray := method_7_code
abbrev y_La_take : MethodName := ⟨"ZoneAnswersLaw", "take", "(LZoneAnswers;I[J)I"⟩
theorem d_La_take_0 : decode c_La_take 0 = .ok (.aload_n 2, 1) := by decide +kernel
theorem d_La_take_1 : decode c_La_take 1 = .ok (.iconst 0, 1) := by decide +kernel
theorem d_La_take_2 : decode c_La_take 2 = .ok (.aload_n 0, 1) := by decide +kernel
theorem d_La_take_3 : decode c_La_take 3 = .ok (.iload_n 1, 1) := by decide +kernel
theorem d_La_take_4 : decode c_La_take 4 = .ok (.invokevirtual 31, 3) := by decide +kernel
theorem d_La_take_7 : decode c_La_take 7 = .ok (.i2l, 1) := by decide +kernel
theorem d_La_take_8 : decode c_La_take 8 = .ok (.lastore, 1) := by decide +kernel
theorem d_La_take_9 : decode c_La_take 9 = .ok (.goto 9, 3) := by decide +kernel
theorem d_La_take_12 : decode c_La_take 12 = .ok (.astore_n 3, 1) := by decide +kernel
theorem d_La_take_13 : decode c_La_take 13 = .ok (.iconst 1, 1) := by decide +kernel
theorem d_La_take_14 : decode c_La_take 14 = .ok (.ireturn, 1) := by decide +kernel
theorem d_La_take_15 : decode c_La_take 15 = .ok (.astore_n 3, 1) := by decide +kernel
theorem d_La_take_16 : decode c_La_take 16 = .ok (.iconst 2, 1) := by decide +kernel
theorem d_La_take_17 : decode c_La_take 17 = .ok (.ireturn, 1) := by decide +kernel
theorem d_La_take_18 : decode c_La_take 18 = .ok (.iconst 0, 1) := by decide +kernel
theorem d_La_take_19 : decode c_La_take 19 = .ok (.ireturn, 1) := by decide +kernel
abbrev c_La_takeAll : ByteArray := method_8_code
abbrev y_La_takeAll : MethodName := ⟨"ZoneAnswersLaw", "takeAll", "(LZoneAnswers;I[J)I"⟩
theorem d_La_takeAll_0 : decode c_La_takeAll 0 = .ok (.aload_n 2, 1) := by decide +kernel
theorem d_La_takeAll_1 : decode c_La_takeAll 1 = .ok (.iconst 0, 1) := by decide +kernel
theorem d_La_takeAll_2 : decode c_La_takeAll 2 = .ok (.aload_n 0, 1) := by decide +kernel
theorem d_La_takeAll_3 : decode c_La_takeAll 3 = .ok (.iload_n 1, 1) := by decide +kernel
theorem d_La_takeAll_4 : decode c_La_takeAll 4 = .ok (.invokevirtual 36, 3) := by decide +kernel
theorem d_La_takeAll_7 : decode c_La_takeAll 7 = .ok (.i2l, 1) := by decide +kernel
theorem d_La_takeAll_8 : decode c_La_takeAll 8 = .ok (.lastore, 1) := by decide +kernel
theorem d_La_takeAll_9 : decode c_La_takeAll 9 = .ok (.goto 6, 3) := by decide +kernel
theorem d_La_takeAll_12 : decode c_La_takeAll 12 = .ok (.astore_n 3, 1) := by decide +kernel
theorem d_La_takeAll_13 : decode c_La_takeAll 13 = .ok (.iconst 1, 1) := by decide +kernel
theorem d_La_takeAll_14 : decode c_La_takeAll 14 = .ok (.ireturn, 1) := by decide +kernel
theorem d_La_takeAll_15 : decode c_La_takeAll 15 = .ok (.iconst 0, 1) := by decide +kernel
theorem d_La_takeAll_16 : decode c_La_takeAll 16 = .ok (.ireturn, 1) := by decide +kernel
abbrev c_La_ask : ByteArray := method_9_code
abbrev y_La_ask : MethodName := ⟨"ZoneAnswersLaw", "ask", "(LZoneAnswers;IZ[J)I"⟩
theorem d_La_ask_0 : decode c_La_ask 0 = .ok (.aload_n 3, 1) := by decide +kernel
theorem d_La_ask_1 : decode c_La_ask 1 = .ok (.iconst 0, 1) := by decide +kernel
theorem d_La_ask_2 : decode c_La_ask 2 = .ok (.aload_n 0, 1) := by decide +kernel
theorem d_La_ask_3 : decode c_La_ask 3 = .ok (.iload_n 1, 1) := by decide +kernel
theorem d_La_ask_4 : decode c_La_ask 4 = .ok (.iload_n 2, 1) := by decide +kernel
theorem d_La_ask_5 : decode c_La_ask 5 = .ok (.invokevirtual 39, 3) := by decide +kernel
theorem d_La_ask_8 : decode c_La_ask 8 = .ok (.i2l, 1) := by decide +kernel
theorem d_La_ask_9 : decode c_La_ask 9 = .ok (.lastore, 1) := by decide +kernel
theorem d_La_ask_10 : decode c_La_ask 10 = .ok (.goto 7, 3) := by decide +kernel
theorem d_La_ask_13 : decode c_La_ask 13 = .ok (.astore 4, 2) := by decide +kernel
theorem d_La_ask_15 : decode c_La_ask 15 = .ok (.iconst 1, 1) := by decide +kernel
theorem d_La_ask_16 : decode c_La_ask 16 = .ok (.ireturn, 1) := by decide +kernel
theorem d_La_ask_17 : decode c_La_ask 17 = .ok (.iconst 0, 1) := by decide +kernel
theorem d_La_ask_18 : decode c_La_ask 18 = .ok (.ireturn, 1) := by decide +kernel
abbrev c_La_told : ByteArray := method_11_code
abbrev y_La_told : MethodName := ⟨"ZoneAnswersLaw", "told", "(LZoneAnswers;III[J)I"⟩
theorem d_La_told_0 : decode c_La_told 0 = .ok (.aload 4, 2) := by decide +kernel
theorem d_La_told_2 : decode c_La_told 2 = .ok (.iconst 0, 1) := by decide +kernel
theorem d_La_told_3 : decode c_La_told 3 = .ok (.aload_n 0, 1) := by decide +kernel
theorem d_La_told_4 : decode c_La_told 4 = .ok (.iload_n 1, 1) := by decide +kernel
theorem d_La_told_5 : decode c_La_told 5 = .ok (.iload_n 2, 1) := by decide +kernel
theorem d_La_told_6 : decode c_La_told 6 = .ok (.iload_n 3, 1) := by decide +kernel
theorem d_La_told_7 : decode c_La_told 7 = .ok (.invokevirtual 46, 3) := by decide +kernel
theorem d_La_told_10 : decode c_La_told 10 = .ok (.i2l, 1) := by decide +kernel
theorem d_La_told_11 : decode c_La_told 11 = .ok (.lastore, 1) := by decide +kernel
theorem d_La_told_12 : decode c_La_told 12 = .ok (.goto 11, 3) := by decide +kernel
theorem d_La_told_15 : decode c_La_told 15 = .ok (.astore 5, 2) := by decide +kernel
theorem d_La_told_17 : decode c_La_told 17 = .ok (.iconst 1, 1) := by decide +kernel
theorem d_La_told_18 : decode c_La_told 18 = .ok (.ireturn, 1) := by decide +kernel
theorem d_La_told_19 : decode c_La_told 19 = .ok (.astore 5, 2) := by decide +kernel
theorem d_La_told_21 : decode c_La_told 21 = .ok (.iconst 2, 1) := by decide +kernel
theorem d_La_told_22 : decode c_La_told 22 = .ok (.ireturn, 1) := by decide +kernel
theorem d_La_told_23 : decode c_La_told 23 = .ok (.iconst 0, 1) := by decide +kernel
theorem d_La_told_24 : decode c_La_told 24 = .ok (.ireturn, 1) := by decide +kernel
abbrev c_La_byteOf : ByteArray := method_12_code
abbrev y_La_byteOf : MethodName := ⟨"ZoneAnswersLaw", "byteOf", "(LZoneAnswers;III[J)I"⟩
theorem d_La_byteOf_0 : decode c_La_byteOf 0 = .ok (.aload 4, 2) := by decide +kernel
theorem d_La_byteOf_2 : decode c_La_byteOf 2 = .ok (.iconst 0, 1) := by decide +kernel
theorem d_La_byteOf_3 : decode c_La_byteOf 3 = .ok (.aload_n 0, 1) := by decide +kernel
theorem d_La_byteOf_4 : decode c_La_byteOf 4 = .ok (.iload_n 1, 1) := by decide +kernel
theorem d_La_byteOf_5 : decode c_La_byteOf 5 = .ok (.iload_n 2, 1) := by decide +kernel
theorem d_La_byteOf_6 : decode c_La_byteOf 6 = .ok (.iload_n 3, 1) := by decide +kernel
theorem d_La_byteOf_7 : decode c_La_byteOf 7 = .ok (.invokevirtual 50, 3) := by decide +kernel
theorem d_La_byteOf_10 : decode c_La_byteOf 10 = .ok (.i2l, 1) := by decide +kernel
theorem d_La_byteOf_11 : decode c_La_byteOf 11 = .ok (.lastore, 1) := by decide +kernel
theorem d_La_byteOf_12 : decode c_La_byteOf 12 = .ok (.goto 11, 3) := by decide +kernel
theorem d_La_byteOf_15 : decode c_La_byteOf 15 = .ok (.astore 5, 2) := by decide +kernel
theorem d_La_byteOf_17 : decode c_La_byteOf 17 = .ok (.iconst 1, 1) := by decide +kernel
theorem d_La_byteOf_18 : decode c_La_byteOf 18 = .ok (.ireturn, 1) := by decide +kernel
theorem d_La_byteOf_19 : decode c_La_byteOf 19 = .ok (.astore 5, 2) := by decide +kernel
theorem d_La_byteOf_21 : decode c_La_byteOf 21 = .ok (.iconst 2, 1) := by decide +kernel
theorem d_La_byteOf_22 : decode c_La_byteOf 22 = .ok (.ireturn, 1) := by decide +kernel
theorem d_La_byteOf_23 : decode c_La_byteOf 23 = .ok (.iconst 0, 1) := by decide +kernel
theorem d_La_byteOf_24 : decode c_La_byteOf 24 = .ok (.ireturn, 1) := by decide +kernel
abbrev c_La_state : ByteArray := method_13_code
abbrev y_La_state : MethodName := ⟨"ZoneAnswersLaw", "state", "(LZoneAnswers;[J)I"⟩
theorem d_La_state_0 : decode c_La_state 0 = .ok (.aload_n 1, 1) := by decide +kernel
theorem d_La_state_1 : decode c_La_state 1 = .ok (.iconst 0, 1) := by decide +kernel
theorem d_La_state_2 : decode c_La_state 2 = .ok (.aload_n 0, 1) := by decide +kernel
theorem d_La_state_3 : decode c_La_state 3 = .ok (.invokevirtual 55, 3) := by decide +kernel
theorem d_La_state_6 : decode c_La_state 6 = .ok (.i2l, 1) := by decide +kernel
theorem d_La_state_7 : decode c_La_state 7 = .ok (.lastore, 1) := by decide +kernel
theorem d_La_state_8 : decode c_La_state 8 = .ok (.goto 6, 3) := by decide +kernel
theorem d_La_state_11 : decode c_La_state 11 = .ok (.astore_n 2, 1) := by decide +kernel
theorem d_La_state_12 : decode c_La_state 12 = .ok (.iconst 1, 1) := by decide +kernel
theorem d_La_state_13 : decode c_La_state 13 = .ok (.ireturn, 1) := by decide +kernel
theorem d_La_state_14 : decode c_La_state 14 = .ok (.iconst 0, 1) := by decide +kernel
theorem d_La_state_15 : decode c_La_state 15 = .ok (.ireturn, 1) := by decide +kernel
abbrev c_La_feed : ByteArray := method_3_code
abbrev y_La_feed : MethodName := ⟨"ZoneAnswersLaw", "feed", "(LZoneAnswers;IIIII[J)I"⟩
theorem d_La_feed_0 : decode c_La_feed 0 = .ok (.aload 6, 2) := by decide +kernel
theorem d_La_feed_2 : decode c_La_feed 2 = .ok (.iconst 0, 1) := by decide +kernel
theorem d_La_feed_3 : decode c_La_feed 3 = .ok (.aload_n 0, 1) := by decide +kernel
theorem d_La_feed_4 : decode c_La_feed 4 = .ok (.iload_n 1, 1) := by decide +kernel
theorem d_La_feed_5 : decode c_La_feed 5 = .ok (.iload_n 2, 1) := by decide +kernel
theorem d_La_feed_6 : decode c_La_feed 6 = .ok (.iload_n 3, 1) := by decide +kernel
theorem d_La_feed_7 : decode c_La_feed 7 = .ok (.iload 4, 2) := by decide +kernel
theorem d_La_feed_9 : decode c_La_feed 9 = .ok (.iload 5, 2) := by decide +kernel
theorem d_La_feed_11 : decode c_La_feed 11 = .ok (.invokevirtual 7, 3) := by decide +kernel
theorem d_La_feed_14 : decode c_La_feed 14 = .ok (.i2l, 1) := by decide +kernel
theorem d_La_feed_15 : decode c_La_feed 15 = .ok (.lastore, 1) := by decide +kernel
theorem d_La_feed_16 : decode c_La_feed 16 = .ok (.goto 7, 3) := by decide +kernel
theorem d_La_feed_19 : decode c_La_feed 19 = .ok (.astore 7, 2) := by decide +kernel
theorem d_La_feed_21 : decode c_La_feed 21 = .ok (.iconst 1, 1) := by decide +kernel
theorem d_La_feed_22 : decode c_La_feed 22 = .ok (.ireturn, 1) := by decide +kernel
theorem d_La_feed_23 : decode c_La_feed 23 = .ok (.iconst 0, 1) := by decide +kernel
theorem d_La_feed_24 : decode c_La_feed 24 = .ok (.ireturn, 1) := by decide +kernel
abbrev c_La_end : ByteArray := method_4_code
abbrev y_La_end : MethodName := ⟨"ZoneAnswersLaw", "end", "(LZoneAnswers;I[J)I"⟩
theorem d_La_end_0 : decode c_La_end 0 = .ok (.aload_n 2, 1) := by decide +kernel
theorem d_La_end_1 : decode c_La_end 1 = .ok (.iconst 0, 1) := by decide +kernel
theorem d_La_end_2 : decode c_La_end 2 = .ok (.aload_n 0, 1) := by decide +kernel
theorem d_La_end_3 : decode c_La_end 3 = .ok (.iload_n 1, 1) := by decide +kernel
theorem d_La_end_4 : decode c_La_end 4 = .ok (.invokevirtual 15, 3) := by decide +kernel
theorem d_La_end_7 : decode c_La_end 7 = .ok (.i2l, 1) := by decide +kernel
theorem d_La_end_8 : decode c_La_end 8 = .ok (.lastore, 1) := by decide +kernel
theorem d_La_end_9 : decode c_La_end 9 = .ok (.goto 6, 3) := by decide +kernel
theorem d_La_end_12 : decode c_La_end 12 = .ok (.astore_n 3, 1) := by decide +kernel
theorem d_La_end_13 : decode c_La_end 13 = .ok (.iconst 1, 1) := by decide +kernel
theorem d_La_end_14 : decode c_La_end 14 = .ok (.ireturn, 1) := by decide +kernel
theorem d_La_end_15 : decode c_La_end 15 = .ok (.iconst 0, 1) := by decide +kernel
theorem d_La_end_16 : decode c_La_end 16 = .ok (.ireturn, 1) := by decide +kernel
abbrev c_La_records : ByteArray := method_10_code
abbrev y_La_records : MethodName := ⟨"ZoneAnswersLaw", "records", "(LZoneAnswers;I[J)I"⟩
theorem d_La_records_0 : decode c_La_records 0 = .ok (.aload_n 2, 1) := by decide +kernel
theorem d_La_records_1 : decode c_La_records 1 = .ok (.iconst 0, 1) := by decide +kernel
theorem d_La_records_2 : decode c_La_records 2 = .ok (.aload_n 0, 1) := by decide +kernel
theorem d_La_records_3 : decode c_La_records 3 = .ok (.iload_n 1, 1) := by decide +kernel
theorem d_La_records_4 : decode c_La_records 4 = .ok (.invokevirtual 43, 3) := by decide +kernel
theorem d_La_records_7 : decode c_La_records 7 = .ok (.i2l, 1) := by decide +kernel
theorem d_La_records_8 : decode c_La_records 8 = .ok (.lastore, 1) := by decide +kernel
theorem d_La_records_9 : decode c_La_records 9 = .ok (.goto 6, 3) := by decide +kernel
theorem d_La_records_12 : decode c_La_records 12 = .ok (.astore_n 3, 1) := by decide +kernel
theorem d_La_records_13 : decode c_La_records 13 = .ok (.iconst 1, 1) := by decide +kernel
theorem d_La_records_14 : decode c_La_records 14 = .ok (.ireturn, 1) := by decide +kernel
theorem d_La_records_15 : decode c_La_records 15 = .ok (.iconst 0, 1) := by decide +kernel
theorem d_La_records_16 : decode c_La_records 16 = .ok (.ireturn, 1) := by decide +kernel
abbrev rm_La_origin_f : Room := { frames := 9, cells := 4, slots := 12, locals := 240 }
set_option maxHeartbeats 4000000 in
set_option maxRecDepth 100000 in
/-- La_origin, of a new object -/
theorem t_La_origin_f (l : Launch) (hoff : zl_off l) (E : zc_E) (G : zg_G) (xo ta zo an b la x st sd o ol da dx d0 d1 d3 bt s1 s2 s3 r1 r2 r3 : Nat) (hF : zNew E G xo ta zo an b la x st sd o ol da dx d0 d1 d3 bt s1 s2 s3 r1 r2 r3) (out : Nat) (fo : Nat → Int64) (hout : G out = some (.inl (E.2.1 2, 1, .inr (.inl fo)))) (p0 p1 p2 p3 p4 : Int32) : zMiW l E y_La_origin c_La_origin 7 (some .int) [(0, 11, 14, 19)] rm_La_origin_f [.ref xo, .int p0, .int p1, .int p2, .int p3, .int p4] G (fun (r : Int32) (G2 : zg_G) => r = 1 ∧ G2 = G) := by
  refine zMiW.of (by decide) (Nat.le_of_ble_eq_true rfl) ?_
  intro p e s m args below meth c Q hZ hex hG hret ls hl
  obtain ⟨hx, hb, hr, hts, hown, hlocks, hml, hnm, hbase, hK, hN, hQ⟩ := hZ
  have hl : lv_has ls 7 [(0, .ref xo), (1, .int p0), (2, .int p1), (3, .int p2), (4, .int p3), (5, .int p4)] := hl
  have hS : zg_S (zc_b E) s.heap s.heap [] := va_S.rf
  obtain ⟨hX, hT, hZz, hLo, ho, hLs, hst, hLd, hdx, hsd, hnx, hbt, han, hs1, hs2, hs3, hr1, hr2, hr3⟩ := id hF
  refine lv_aload_n hx hb d_La_origin_0 rfl (lv_at hl 0 rfl) ?_
  refine lv_iload_n hx hb d_La_origin_1 rfl (lv_at hl 1 rfl) ?_
  refine lv_iload_n hx hb d_La_origin_2 rfl (lv_at hl 2 rfl) ?_
  refine lv_iload_n hx hb d_La_origin_3 rfl (lv_at hl 3 rfl) ?_
  refine lv_iload hx hb d_La_origin_4 (lv_at hl 4 rfl) ?_
  refine lv_iload hx hb d_La_origin_6 (lv_at hl 5 rfl) ?_
  refine zt_callV (hnd := (fun cls : String => 14)) (As := [.int p0, .int p1, .int p2, .int p3, .int p4]) (rest := []) ⟨hx, hb, hml, hown, hts⟩ (t_ZA_origin_f l hoff E G xo ta zo an b la x st sd o ol da dx d0 d1 d3 bt s1 s2 s3 r1 r2 r3 hF p0 p1 p2 p3 p4) (zcV 5 hts w_825 w_826 w_827 w_1 w_828 (by decide +kernel) ⟨Nat.le_of_ble_eq_true rfl, Nat.le_of_ble_eq_true rfl⟩) (zc_preV hbase hK hN hQ hG hS hX rfl) rfl hl.1 rfl (Nat.le_of_ble_eq_true rfl) d_La_origin_8 ⟨(by decide), (by decide)⟩ hS (fun cls h9 => ?_) (fun v8 G8 H locs hp8 hG hS => ?_) (fun cls x8 H locs ht8 hG hS => ?_)
  · rcases h9 with ⟨rfl, -⟩
    exact zt_wayOf (pre := []) (h := (0, 11, 14, 19)) (tl := []) hex (fun y hy => absurd hy List.not_mem_nil) (by decide) (by decide) (hts _ w_808) (zN.at hN (w := .castable "java/lang/IllegalArgumentException" "java/lang/IllegalArgumentException") (by decide +kernel)) (by decide)
  · exact hp8.elim
  · rcases ht8 with ⟨rfl, ht8⟩
    refine W.eq (g2 := F0 m 14 ls [.ref x8]) (congrArg (fun n9 => F0 m n9 ls [.ref x8]) (show (fun cls : String => 14) "java/lang/IllegalArgumentException" = 14 from by decide)) ?_
    refine lv_astore (lv' := [(6, .ref x8), (0, .ref xo), (1, .int p0), (2, .int p1), (3, .int p2), (4, .int p3), (5, .int p4)]) hx hb d_La_origin_14 hl (by decide) rfl (fun ls hl => ?_)
    refine lv_iconst (v := 1) hx hb d_La_origin_16 (by decide) ?_
    exact hret _ _ _ _ _ _ _ _ _ hr (rfl) (⟨rfl, rfl⟩) hG hS (by decide) (by decide) d_La_origin_17
abbrev rm_La_put_f : Room := { frames := 9, cells := 4, slots := 12, locals := 240 }
set_option maxHeartbeats 4000000 in
set_option maxRecDepth 100000 in
/-- La_put, of a new object -/
theorem t_La_put_f (l : Launch) (hoff : zl_off l) (E : zc_E) (G : zg_G) (xo ta zo an b la x st sd o ol da dx d0 d1 d3 bt s1 s2 s3 r1 r2 r3 : Nat) (hF : zNew E G xo ta zo an b la x st sd o ol da dx d0 d1 d3 bt s1 s2 s3 r1 r2 r3) (out : Nat) (fo : Nat → Int64) (hout : G out = some (.inl (E.2.1 2, 1, .inr (.inl fo)))) (p0 p1 : Int32) : zMiW l E y_La_put c_La_put 5 (some .int) [(0, 10, 13, 19), (0, 10, 17, 13), (0, 10, 21, 29)] rm_La_put_f [.ref xo, .int p0, .int p1, .ref out] G (fun (r : Int32) (G2 : zg_G) => r = 1 ∧ G2 = G) := by
  refine zMiW.of (by decide) (Nat.le_of_ble_eq_true rfl) ?_
  intro p e s m args below meth c Q hZ hex hG hret ls hl
  obtain ⟨hx, hb, hr, hts, hown, hlocks, hml, hnm, hbase, hK, hN, hQ⟩ := hZ
  have hl : lv_has ls 5 [(0, .ref xo), (1, .int p0), (2, .int p1), (3, .ref out)] := hl
  have hS : zg_S (zc_b E) s.heap s.heap [] := va_S.rf
  obtain ⟨hX, hT, hZz, hLo, ho, hLs, hst, hLd, hdx, hsd, hnx, hbt, han, hs1, hs2, hs3, hr1, hr2, hr3⟩ := id hF
  refine lv_aload_n hx hb d_La_put_0 rfl (lv_at hl 3 rfl) ?_
  refine lv_iconst (v := 0) hx hb d_La_put_1 (by decide) ?_
  refine zi_as (y := nI 0) (nI_0.symm) ?_
  refine lv_aload_n hx hb d_La_put_2 rfl (lv_at hl 0 rfl) ?_
  refine lv_iload_n hx hb d_La_put_3 rfl (lv_at hl 1 rfl) ?_
  refine lv_iload_n hx hb d_La_put_4 rfl (lv_at hl 2 rfl) ?_
  refine zt_callV (hnd := (fun cls : String => 13)) (As := [.int p0, .int p1]) (rest := [.int (nI 0), .ref out]) ⟨hx, hb, hml, hown, hts⟩ (t_ZA_put_f l hoff E G xo ta zo an b la x st sd o ol da dx d0 d1 d3 bt s1 s2 s3 r1 r2 r3 hF p0 p1) (zcV 2 hts w_850 w_851 w_852 w_1 w_853 (by decide +kernel) ⟨Nat.le_of_ble_eq_true rfl, Nat.le_of_ble_eq_true rfl⟩) (zc_preV hbase hK hN hQ hG hS hX rfl) rfl hl.1 rfl (Nat.le_of_ble_eq_true rfl) d_La_put_5 ⟨(by decide), (by decide)⟩ hS (fun cls h9 => ?_) (fun v5 G5 H locs hp5 hG hS => ?_) (fun cls x5 H locs ht5 hG hS => ?_)
  · rcases h9 with ⟨rfl, -⟩
    exact zt_wayOf (pre := []) (h := (0, 10, 13, 19)) (tl := [(0, 10, 17, 13), (0, 10, 21, 29)]) hex (fun y hy => absurd hy List.not_mem_nil) (by decide) (by decide) (hts _ w_808) (zN.at hN (w := .castable "java/lang/IllegalArgumentException" "java/lang/IllegalArgumentException") (by decide +kernel)) (by decide)
  · exact hp5.elim
  · rcases ht5 with ⟨rfl, ht5⟩
    refine W.eq (g2 := F0 m 13 ls [.ref x5]) (congrArg (fun n9 => F0 m n9 ls [.ref x5]) (show (fun cls : String => 13) "java/lang/IllegalArgumentException" = 13 from by decide)) ?_
    refine lv_astore (lv' := [(4, .ref x5), (0, .ref xo), (1, .int p0), (2, .int p1), (3, .ref out)]) hx hb d_La_put_13 hl (by decide) rfl (fun ls hl => ?_)
    refine lv_iconst (v := 1) hx hb d_La_put_15 (by decide) ?_
    exact hret _ _ _ _ _ _ _ _ _ hr (rfl) (⟨rfl, rfl⟩) hG hS (by decide) (by decide) d_La_put_16
abbrev rm_La_take_f : Room := { frames := 9, cells := 4, slots := 12, locals := 240 }
set_option maxHeartbeats 4000000 in
set_option maxRecDepth 100000 in
/-- La_take, of a new object -/
theorem t_La_take_f (l : Launch) (hoff : zl_off l) (E : zc_E) (G : zg_G) (xo ta zo an b la x st sd o ol da dx d0 d1 d3 bt s1 s2 s3 r1 r2 r3 : Nat) (hF : zNew E G xo ta zo an b la x st sd o ol da dx d0 d1 d3 bt s1 s2 s3 r1 r2 r3) (out : Nat) (fo : Nat → Int64) (hout : G out = some (.inl (E.2.1 2, 1, .inr (.inl fo)))) (p0 : Int32) : zMiW l E y_La_take c_La_take 4 (some .int) [(0, 9, 12, 19), (0, 9, 15, 34)] rm_La_take_f [.ref xo, .int p0, .ref out] G (fun (r : Int32) (G2 : zg_G) => r = 1 ∧ G2 = G) := by
  refine zMiW.of (by decide) (Nat.le_of_ble_eq_true rfl) ?_
  intro p e s m args below meth c Q hZ hex hG hret ls hl
  obtain ⟨hx, hb, hr, hts, hown, hlocks, hml, hnm, hbase, hK, hN, hQ⟩ := hZ
  have hl : lv_has ls 4 [(0, .ref xo), (1, .int p0), (2, .ref out)] := hl
  have hS : zg_S (zc_b E) s.heap s.heap [] := va_S.rf
  obtain ⟨hX, hT, hZz, hLo, ho, hLs, hst, hLd, hdx, hsd, hnx, hbt, han, hs1, hs2, hs3, hr1, hr2, hr3⟩ := id hF
  refine lv_aload_n hx hb d_La_take_0 rfl (lv_at hl 2 rfl) ?_
  refine lv_iconst (v := 0) hx hb d_La_take_1 (by decide) ?_
  refine zi_as (y := nI 0) (nI_0.symm) ?_
  refine lv_aload_n hx hb d_La_take_2 rfl (lv_at hl 0 rfl) ?_
  refine lv_iload_n hx hb d_La_take_3 rfl (lv_at hl 1 rfl) ?_
  refine zt_callV (hnd := (fun cls : String => 12)) (As := [.int p0]) (rest := [.int (nI 0), .ref out]) ⟨hx, hb, hml, hown, hts⟩ (t_ZA_take_f l hoff E G xo ta zo an b la x st sd o ol da dx d0 d1 d3 bt s1 s2 s3 r1 r2 r3 hF p0) (zcV 1 hts w_940 w_941 w_942 w_1 w_943 (by decide +kernel) ⟨Nat.le_of_ble_eq_true rfl, Nat.le_of_ble_eq_true rfl⟩) (zc_preV hbase hK hN hQ hG hS hX rfl) rfl hl.1 rfl (Nat.le_of_ble_eq_true rfl) d_La_take_4 ⟨(by decide), (by decide)⟩ hS (fun cls h9 => ?_) (fun v4 G4 H locs hp4 hG hS => ?_) (fun cls x4 H locs ht4 hG hS => ?_)
  · rcases h9 with ⟨rfl, -⟩
    exact zt_wayOf (pre := []) (h := (0, 9, 12, 19)) (tl := [(0, 9, 15, 34)]) hex (fun y hy => absurd hy List.not_mem_nil) (by decide) (by decide) (hts _ w_808) (zN.at hN (w := .castable "java/lang/IllegalArgumentException" "java/lang/IllegalArgumentException") (by decide +kernel)) (by decide)
  · exact hp4.elim
  · rcases ht4 with ⟨rfl, ht4⟩
    refine W.eq (g2 := F0 m 12 ls [.ref x4]) (congrArg (fun n9 => F0 m n9 ls [.ref x4]) (show (fun cls : String => 12) "java/lang/IllegalArgumentException" = 12 from by decide)) ?_
    refine lv_astore_n (lv' := [(3, .ref x4), (0, .ref xo), (1, .int p0), (2, .ref out)]) hx hb d_La_take_12 rfl hl (by decide) rfl (fun ls hl => ?_)
    refine lv_iconst (v := 1) hx hb d_La_take_13 (by decide) ?_
    exact hret _ _ _ _ _ _ _ _ _ hr (rfl) (⟨rfl, rfl⟩) hG hS (by decide) (by decide) d_La_take_14
abbrev rm_La_takeAll_f : Room := { frames := 9, cells := 4, slots := 12, locals := 240 }
set_option maxHeartbeats 4000000 in
set_option maxRecDepth 100000 in
/-- La_takeAll, of a new object -/
theorem t_La_takeAll_f (l : Launch) (hoff : zl_off l) (E : zc_E) (G : zg_G) (xo ta zo an b la x st sd o ol da dx d0 d1 d3 bt s1 s2 s3 r1 r2 r3 : Nat) (hF : zNew E G xo ta zo an b la x st sd o ol da dx d0 d1 d3 bt s1 s2 s3 r1 r2 r3) (out : Nat) (fo : Nat → Int64) (hout : G out = some (.inl (E.2.1 2, 1, .inr (.inl fo)))) (p0 : Int32) : zMiW l E y_La_takeAll c_La_takeAll 4 (some .int) [(0, 9, 12, 19)] rm_La_takeAll_f [.ref xo, .int p0, .ref out] G (fun (r : Int32) (G2 : zg_G) => r = 1 ∧ G2 = G) := by
  refine zMiW.of (by decide) (Nat.le_of_ble_eq_true rfl) ?_
  intro p e s m args below meth c Q hZ hex hG hret ls hl
  obtain ⟨hx, hb, hr, hts, hown, hlocks, hml, hnm, hbase, hK, hN, hQ⟩ := hZ
  have hl : lv_has ls 4 [(0, .ref xo), (1, .int p0), (2, .ref out)] := hl
  have hS : zg_S (zc_b E) s.heap s.heap [] := va_S.rf
  obtain ⟨hX, hT, hZz, hLo, ho, hLs, hst, hLd, hdx, hsd, hnx, hbt, han, hs1, hs2, hs3, hr1, hr2, hr3⟩ := id hF
  refine lv_aload_n hx hb d_La_takeAll_0 rfl (lv_at hl 2 rfl) ?_
  refine lv_iconst (v := 0) hx hb d_La_takeAll_1 (by decide) ?_
  refine zi_as (y := nI 0) (nI_0.symm) ?_
  refine lv_aload_n hx hb d_La_takeAll_2 rfl (lv_at hl 0 rfl) ?_
  refine lv_iload_n hx hb d_La_takeAll_3 rfl (lv_at hl 1 rfl) ?_
  refine zt_callV (hnd := (fun cls : String => 12)) (As := [.int p0]) (rest := [.int (nI 0), .ref out]) ⟨hx, hb, hml, hown, hts⟩ (t_ZA_takeAll_f l hoff E G xo ta zo an b la x st sd o ol da dx d0 d1 d3 bt s1 s2 s3 r1 r2 r3 hF p0) (zcV 1 hts w_987 w_988 w_989 w_1 w_990 (by decide +kernel) ⟨Nat.le_of_ble_eq_true rfl, Nat.le_of_ble_eq_true rfl⟩) (zc_preV hbase hK hN hQ hG hS hX rfl) rfl hl.1 rfl (Nat.le_of_ble_eq_true rfl) d_La_takeAll_4 ⟨(by decide), (by decide)⟩ hS (fun cls h9 => ?_) (fun v4 G4 H locs hp4 hG hS => ?_) (fun cls x4 H locs ht4 hG hS => ?_)
  · rcases h9 with ⟨rfl, -⟩
    exact zt_wayOf (pre := []) (h := (0, 9, 12, 19)) (tl := []) hex (fun y hy => absurd hy List.not_mem_nil) (by decide) (by decide) (hts _ w_808) (zN.at hN (w := .castable "java/lang/IllegalArgumentException" "java/lang/IllegalArgumentException") (by decide +kernel)) (by decide)
  · exact hp4.elim
  · rcases ht4 with ⟨rfl, ht4⟩
    refine W.eq (g2 := F0 m 12 ls [.ref x4]) (congrArg (fun n9 => F0 m n9 ls [.ref x4]) (show (fun cls : String => 12) "java/lang/IllegalArgumentException" = 12 from by decide)) ?_
    refine lv_astore_n (lv' := [(3, .ref x4), (0, .ref xo), (1, .int p0), (2, .ref out)]) hx hb d_La_takeAll_12 rfl hl (by decide) rfl (fun ls hl => ?_)
    refine lv_iconst (v := 1) hx hb d_La_takeAll_13 (by decide) ?_
    exact hret _ _ _ _ _ _ _ _ _ hr (rfl) (⟨rfl, rfl⟩) hG hS (by decide) (by decide) d_La_takeAll_14
abbrev rm_La_ask_f : Room := { frames := 9, cells := 4, slots := 12, locals := 240 }
set_option maxHeartbeats 4000000 in
set_option maxRecDepth 100000 in
/-- La_ask, of a new object -/
theorem t_La_ask_f (l : Launch) (hoff : zl_off l) (E : zc_E) (G : zg_G) (xo ta zo an b la x st sd o ol da dx d0 d1 d3 bt s1 s2 s3 r1 r2 r3 : Nat) (hF : zNew E G xo ta zo an b la x st sd o ol da dx d0 d1 d3 bt s1 s2 s3 r1 r2 r3) (out : Nat) (fo : Nat → Int64) (hout : G out = some (.inl (E.2.1 2, 1, .inr (.inl fo)))) (p0 p1 : Int32) : zMiW l E y_La_ask c_La_ask 5 (some .int) [(0, 10, 13, 19)] rm_La_ask_f [.ref xo, .int p0, .int p1, .ref out] G (fun (r : Int32) (G2 : zg_G) => r = 1 ∧ G2 = G) := by
  refine zMiW.of (by decide) (Nat.le_of_ble_eq_true rfl) ?_
  intro p e s m args below meth c Q hZ hex hG hret ls hl
  obtain ⟨hx, hb, hr, hts, hown, hlocks, hml, hnm, hbase, hK, hN, hQ⟩ := hZ
  have hl : lv_has ls 5 [(0, .ref xo), (1, .int p0), (2, .int p1), (3, .ref out)] := hl
  have hS : zg_S (zc_b E) s.heap s.heap [] := va_S.rf
  obtain ⟨hX, hT, hZz, hLo, ho, hLs, hst, hLd, hdx, hsd, hnx, hbt, han, hs1, hs2, hs3, hr1, hr2, hr3⟩ := id hF
  refine lv_aload_n hx hb d_La_ask_0 rfl (lv_at hl 3 rfl) ?_
  refine lv_iconst (v := 0) hx hb d_La_ask_1 (by decide) ?_
  refine zi_as (y := nI 0) (nI_0.symm) ?_
  refine lv_aload_n hx hb d_La_ask_2 rfl (lv_at hl 0 rfl) ?_
  refine lv_iload_n hx hb d_La_ask_3 rfl (lv_at hl 1 rfl) ?_
  refine lv_iload_n hx hb d_La_ask_4 rfl (lv_at hl 2 rfl) ?_
  refine zt_callV (hnd := (fun cls : String => 13)) (As := [.int p0, .int p1]) (rest := [.int (nI 0), .ref out]) ⟨hx, hb, hml, hown, hts⟩ (t_ZA_ask_f l hoff E G xo ta zo an b la x st sd o ol da dx d0 d1 d3 bt s1 s2 s3 r1 r2 r3 hF p0 p1) (zcV 2 hts w_1004 w_1005 w_1006 w_1 w_1007 (by decide +kernel) ⟨Nat.le_of_ble_eq_true rfl, Nat.le_of_ble_eq_true rfl⟩) (zc_preV hbase hK hN hQ hG hS hX rfl) rfl hl.1 rfl (Nat.le_of_ble_eq_true rfl) d_La_ask_5 ⟨(by decide), (by decide)⟩ hS (fun cls h9 => ?_) (fun v5 G5 H locs hp5 hG hS => ?_) (fun cls x5 H locs ht5 hG hS => ?_)
  · rcases h9 with ⟨rfl, -⟩
    exact zt_wayOf (pre := []) (h := (0, 10, 13, 19)) (tl := []) hex (fun y hy => absurd hy List.not_mem_nil) (by decide) (by decide) (hts _ w_808) (zN.at hN (w := .castable "java/lang/IllegalArgumentException" "java/lang/IllegalArgumentException") (by decide +kernel)) (by decide)
  · exact hp5.elim
  · rcases ht5 with ⟨rfl, ht5⟩
    refine W.eq (g2 := F0 m 13 ls [.ref x5]) (congrArg (fun n9 => F0 m n9 ls [.ref x5]) (show (fun cls : String => 13) "java/lang/IllegalArgumentException" = 13 from by decide)) ?_
    refine lv_astore (lv' := [(4, .ref x5), (0, .ref xo), (1, .int p0), (2, .int p1), (3, .ref out)]) hx hb d_La_ask_13 hl (by decide) rfl (fun ls hl => ?_)
    refine lv_iconst (v := 1) hx hb d_La_ask_15 (by decide) ?_
    exact hret _ _ _ _ _ _ _ _ _ hr (rfl) (⟨rfl, rfl⟩) hG hS (by decide) (by decide) d_La_ask_16
abbrev rm_La_told_f : Room := { frames := 9, cells := 4, slots := 12, locals := 240 }
set_option maxHeartbeats 4000000 in
set_option maxRecDepth 100000 in
/-- La_told, of a new object -/
theorem t_La_told_f (l : Launch) (hoff : zl_off l) (E : zc_E) (G : zg_G) (xo ta zo an b la x st sd o ol da dx d0 d1 d3 bt s1 s2 s3 r1 r2 r3 : Nat) (hF : zNew E G xo ta zo an b la x st sd o ol da dx d0 d1 d3 bt s1 s2 s3 r1 r2 r3) (out : Nat) (fo : Nat → Int64) (hout : G out = some (.inl (E.2.1 2, 1, .inr (.inl fo)))) (p0 p1 p2 : Int32) : zMiW l E y_La_told c_La_told 6 (some .int) [(0, 12, 15, 34), (0, 12, 19, 19)] rm_La_told_f [.ref xo, .int p0, .int p1, .int p2, .ref out] G (fun (r : Int32) (G2 : zg_G) => r = 1 ∧ G2 = G) := by
  refine zMiW.of (by decide) (Nat.le_of_ble_eq_true rfl) ?_
  intro p e s m args below meth c Q hZ hex hG hret ls hl
  obtain ⟨hx, hb, hr, hts, hown, hlocks, hml, hnm, hbase, hK, hN, hQ⟩ := hZ
  have hl : lv_has ls 6 [(0, .ref xo), (1, .int p0), (2, .int p1), (3, .int p2), (4, .ref out)] := hl
  have hS : zg_S (zc_b E) s.heap s.heap [] := va_S.rf
  obtain ⟨hX, hT, hZz, hLo, ho, hLs, hst, hLd, hdx, hsd, hnx, hbt, han, hs1, hs2, hs3, hr1, hr2, hr3⟩ := id hF
  refine lv_aload hx hb d_La_told_0 (lv_at hl 4 rfl) ?_
  refine lv_iconst (v := 0) hx hb d_La_told_2 (by decide) ?_
  refine zi_as (y := nI 0) (nI_0.symm) ?_
  refine lv_aload_n hx hb d_La_told_3 rfl (lv_at hl 0 rfl) ?_
  refine lv_iload_n hx hb d_La_told_4 rfl (lv_at hl 1 rfl) ?_
  refine lv_iload_n hx hb d_La_told_5 rfl (lv_at hl 2 rfl) ?_
  refine lv_iload_n hx hb d_La_told_6 rfl (lv_at hl 3 rfl) ?_
  refine zt_callV (hnd := (fun cls : String => 15)) (As := [.int p0, .int p1, .int p2]) (rest := [.int (nI 0), .ref out]) ⟨hx, hb, hml, hown, hts⟩ (t_ZA_told_f l hoff E G xo ta zo an b la x st sd o ol da dx d0 d1 d3 bt s1 s2 s3 r1 r2 r3 hF p0 p1 p2) (zcV 3 hts w_1212 w_1213 w_1214 w_1 w_1215 (by decide +kernel) ⟨Nat.le_of_ble_eq_true rfl, Nat.le_of_ble_eq_true rfl⟩) (zc_preV hbase hK hN hQ hG hS hX rfl) rfl hl.1 rfl (Nat.le_of_ble_eq_true rfl) d_La_told_7 ⟨(by decide), (by decide)⟩ hS (fun cls h9 => ?_) (fun v7 G7 H locs hp7 hG hS => ?_) (fun cls x7 H locs ht7 hG hS => ?_)
  · rcases h9 with ⟨rfl, -⟩
    exact zt_wayOf (pre := []) (h := (0, 12, 15, 34)) (tl := [(0, 12, 19, 19)]) hex (fun y hy => absurd hy List.not_mem_nil) (by decide) (by decide) (hts _ w_939) (zN.at hN (w := .castable "java/util/NoSuchElementException" "java/util/NoSuchElementException") (by decide +kernel)) (by decide)
  · exact hp7.elim
  · rcases ht7 with ⟨rfl, ht7⟩
    refine W.eq (g2 := F0 m 15 ls [.ref x7]) (congrArg (fun n9 => F0 m n9 ls [.ref x7]) (show (fun cls : String => 15) "java/util/NoSuchElementException" = 15 from by decide)) ?_
    refine lv_astore (lv' := [(5, .ref x7), (0, .ref xo), (1, .int p0), (2, .int p1), (3, .int p2), (4, .ref out)]) hx hb d_La_told_15 hl (by decide) rfl (fun ls hl => ?_)
    refine lv_iconst (v := 1) hx hb d_La_told_17 (by decide) ?_
    exact hret _ _ _ _ _ _ _ _ _ hr (rfl) (⟨rfl, rfl⟩) hG hS (by decide) (by decide) d_La_told_18
abbrev rm_La_byteOf_f : Room := { frames := 9, cells := 4, slots := 12, locals := 240 }
set_option maxHeartbeats 4000000 in
set_option maxRecDepth 100000 in
/-- La_byteOf, of a new object -/
theorem t_La_byteOf_f (l : Launch) (hoff : zl_off l) (E : zc_E) (G : zg_G) (xo ta zo an b la x st sd o ol da dx d0 d1 d3 bt s1 s2 s3 r1 r2 r3 : Nat) (hF : zNew E G xo ta zo an b la x st sd o ol da dx d0 d1 d3 bt s1 s2 s3 r1 r2 r3) (out : Nat) (fo : Nat → Int64) (hout : G out = some (.inl (E.2.1 2, 1, .inr (.inl fo)))) (p0 p1 p2 : Int32) : zMiW l E y_La_byteOf c_La_byteOf 6 (some .int) [(0, 12, 15, 34), (0, 12, 19, 53)] rm_La_byteOf_f [.ref xo, .int p0, .int p1, .int p2, .ref out] G (fun (r : Int32) (G2 : zg_G) => r = 1 ∧ G2 = G) := by
  refine zMiW.of (by decide) (Nat.le_of_ble_eq_true rfl) ?_
  intro p e s m args below meth c Q hZ hex hG hret ls hl
  obtain ⟨hx, hb, hr, hts, hown, hlocks, hml, hnm, hbase, hK, hN, hQ⟩ := hZ
  have hl : lv_has ls 6 [(0, .ref xo), (1, .int p0), (2, .int p1), (3, .int p2), (4, .ref out)] := hl
  have hS : zg_S (zc_b E) s.heap s.heap [] := va_S.rf
  obtain ⟨hX, hT, hZz, hLo, ho, hLs, hst, hLd, hdx, hsd, hnx, hbt, han, hs1, hs2, hs3, hr1, hr2, hr3⟩ := id hF
  refine lv_aload hx hb d_La_byteOf_0 (lv_at hl 4 rfl) ?_
  refine lv_iconst (v := 0) hx hb d_La_byteOf_2 (by decide) ?_
  refine zi_as (y := nI 0) (nI_0.symm) ?_
  refine lv_aload_n hx hb d_La_byteOf_3 rfl (lv_at hl 0 rfl) ?_
  refine lv_iload_n hx hb d_La_byteOf_4 rfl (lv_at hl 1 rfl) ?_
  refine lv_iload_n hx hb d_La_byteOf_5 rfl (lv_at hl 2 rfl) ?_
  refine lv_iload_n hx hb d_La_byteOf_6 rfl (lv_at hl 3 rfl) ?_
  refine zt_callV (hnd := (fun cls : String => 15)) (As := [.int p0, .int p1, .int p2]) (rest := [.int (nI 0), .ref out]) ⟨hx, hb, hml, hown, hts⟩ (t_ZA_byteOf_f l hoff E G xo ta zo an b la x st sd o ol da dx d0 d1 d3 bt s1 s2 s3 r1 r2 r3 hF p0 p1 p2) (zcV 3 hts w_1226 w_1227 w_1228 w_1 w_1229 (by decide +kernel) ⟨Nat.le_of_ble_eq_true rfl, Nat.le_of_ble_eq_true rfl⟩) (zc_preV hbase hK hN hQ hG hS hX rfl) rfl hl.1 rfl (Nat.le_of_ble_eq_true rfl) d_La_byteOf_7 ⟨(by decide), (by decide)⟩ hS (fun cls h9 => ?_) (fun v7 G7 H locs hp7 hG hS => ?_) (fun cls x7 H locs ht7 hG hS => ?_)
  · rcases h9 with ⟨rfl, -⟩
    exact zt_wayOf (pre := []) (h := (0, 12, 15, 34)) (tl := [(0, 12, 19, 53)]) hex (fun y hy => absurd hy List.not_mem_nil) (by decide) (by decide) (hts _ w_939) (zN.at hN (w := .castable "java/util/NoSuchElementException" "java/util/NoSuchElementException") (by decide +kernel)) (by decide)
  · exact hp7.elim
  · rcases ht7 with ⟨rfl, ht7⟩
    refine W.eq (g2 := F0 m 15 ls [.ref x7]) (congrArg (fun n9 => F0 m n9 ls [.ref x7]) (show (fun cls : String => 15) "java/util/NoSuchElementException" = 15 from by decide)) ?_
    refine lv_astore (lv' := [(5, .ref x7), (0, .ref xo), (1, .int p0), (2, .int p1), (3, .int p2), (4, .ref out)]) hx hb d_La_byteOf_15 hl (by decide) rfl (fun ls hl => ?_)
    refine lv_iconst (v := 1) hx hb d_La_byteOf_17 (by decide) ?_
    exact hret _ _ _ _ _ _ _ _ _ hr (rfl) (⟨rfl, rfl⟩) hG hS (by decide) (by decide) d_La_byteOf_18
abbrev rm_La_state_f : Room := { frames := 9, cells := 4, slots := 12, locals := 240 }
set_option maxHeartbeats 4000000 in
set_option maxRecDepth 100000 in
/-- La_state, of a new object -/
theorem t_La_state_f (l : Launch) (hoff : zl_off l) (E : zc_E) (G : zg_G) (xo ta zo an b la x st sd o ol da dx d0 d1 d3 bt s1 s2 s3 r1 r2 r3 : Nat) (hF : zNew E G xo ta zo an b la x st sd o ol da dx d0 d1 d3 bt s1 s2 s3 r1 r2 r3) (out : Nat) (fo : Nat → Int64) (hout : G out = some (.inl (E.2.1 2, 1, .inr (.inl fo)))) : zMiW l E y_La_state c_La_state 3 (some .int) [(0, 8, 11, 19)] rm_La_state_f [.ref xo, .ref out] G (fun (r : Int32) (G2 : zg_G) => r = 1 ∧ G2 = G) := by
  refine zMiW.of (by decide) (Nat.le_of_ble_eq_true rfl) ?_
  intro p e s m args below meth c Q hZ hex hG hret ls hl
  obtain ⟨hx, hb, hr, hts, hown, hlocks, hml, hnm, hbase, hK, hN, hQ⟩ := hZ
  have hl : lv_has ls 3 [(0, .ref xo), (1, .ref out)] := hl
  have hS : zg_S (zc_b E) s.heap s.heap [] := va_S.rf
  obtain ⟨hX, hT, hZz, hLo, ho, hLs, hst, hLd, hdx, hsd, hnx, hbt, han, hs1, hs2, hs3, hr1, hr2, hr3⟩ := id hF
  refine lv_aload_n hx hb d_La_state_0 rfl (lv_at hl 1 rfl) ?_
  refine lv_iconst (v := 0) hx hb d_La_state_1 (by decide) ?_
  refine zi_as (y := nI 0) (nI_0.symm) ?_
  refine lv_aload_n hx hb d_La_state_2 rfl (lv_at hl 0 rfl) ?_
  refine zt_callV (hnd := (fun cls : String => 11)) (As := []) (rest := [.int (nI 0), .ref out]) ⟨hx, hb, hml, hown, hts⟩ (t_ZA_state_f l hoff E G xo ta zo an b la x st sd o ol da dx d0 d1 d3 bt s1 s2 s3 r1 r2 r3 hF ) (zcV 0 hts w_1238 w_1239 w_1240 w_1 w_1241 (by decide +kernel) ⟨Nat.le_of_ble_eq_true rfl, Nat.le_of_ble_eq_true rfl⟩) (zc_preV hbase hK hN hQ hG hS hX rfl) rfl hl.1 rfl (Nat.le_of_ble_eq_true rfl) d_La_state_3 ⟨(by decide), (by decide)⟩ hS (fun cls h9 => ?_) (fun v3 G3 H locs hp3 hG hS => ?_) (fun cls x3 H locs ht3 hG hS => ?_)
  · rcases h9 with ⟨rfl, -⟩
    exact zt_wayOf (pre := []) (h := (0, 8, 11, 19)) (tl := []) hex (fun y hy => absurd hy List.not_mem_nil) (by decide) (by decide) (hts _ w_808) (zN.at hN (w := .castable "java/lang/IllegalArgumentException" "java/lang/IllegalArgumentException") (by decide +kernel)) (by decide)
  · exact hp3.elim
  · rcases ht3 with ⟨rfl, ht3⟩
    refine W.eq (g2 := F0 m 11 ls [.ref x3]) (congrArg (fun n9 => F0 m n9 ls [.ref x3]) (show (fun cls : String => 11) "java/lang/IllegalArgumentException" = 11 from by decide)) ?_
    refine lv_astore_n (lv' := [(2, .ref x3), (0, .ref xo), (1, .ref out)]) hx hb d_La_state_11 rfl hl (by decide) rfl (fun ls hl => ?_)
    refine lv_iconst (v := 1) hx hb d_La_state_12 (by decide) ?_
    exact hret _ _ _ _ _ _ _ _ _ hr (rfl) (⟨rfl, rfl⟩) hG hS (by decide) (by decide) d_La_state_13
abbrev rm_La_feed_f : Room := { frames := 9, cells := 6, slots := 240, locals := 240 }
set_option maxHeartbeats 4000000 in
set_option maxRecDepth 100000 in
/-- feed, of a new object -/
theorem t_La_feed_f (l : Launch) (hoff : zl_off l) (E : zc_E) (G : zg_G) (xo ta zo an b la x st sd o ol da dx d0 d1 d3 bt s1 s2 s3 r1 r2 r3 : Nat) (hF : zNew E G xo ta zo an b la x st sd o ol da dx d0 d1 d3 bt s1 s2 s3 r1 r2 r3) (out : Nat) (fo : Nat → Int64) (hout : G out = some (.inl (E.2.1 2, 1, .inr (.inl fo)))) (p0 p1 p2 p3 p4 : Int32) : zMiW l E y_La_feed c_La_feed 8 (some .int) [(0, 16, 19, 13)] rm_La_feed_f [.ref xo, .int p0, .int p1, .int p2, .int p3, .int p4, .ref out] G (fun (r : Int32) (G2 : zg_G) => r = 0 ∧ zx (fun q => q = out ∨ q = ta ∨ q = b) G G2 ∧ ∃ f2, G2 out = some (.inl (E.2.1 2, 1, .inr (.inl f2))) ∧ f2 0 = (nI 20).toInt64) := by
  refine zMiW.of (by decide) (Nat.le_of_ble_eq_true rfl) ?_
  intro p e s m args below meth c Q hZ hex hG hret ls hl
  obtain ⟨hx, hb, hr, hts, hown, hlocks, hml, hnm, hbase, hK, hN, hQ⟩ := hZ
  have hl : lv_has ls 8 [(0, .ref xo), (1, .int p0), (2, .int p1), (3, .int p2), (4, .int p3), (5, .int p4), (6, .ref out)] := hl
  have hS : zg_S (zc_b E) s.heap s.heap [] := va_S.rf
  obtain ⟨hX, hT, hZz, hLo, ho, hLs, hst, hLd, hdx, hsd, hnx, hbt, han, hs1, hs2, hs3, hr1, hr2, hr3⟩ := id hF
  obtain ⟨tn9, tf9, htb⟩ := hF.tp
  have hx0 : zx (fun q => q = out ∨ q = ta ∨ q = b) G G := zx.rf
  refine lv_aload hx hb d_La_feed_0 (lv_at hl 6 rfl) ?_
  refine lv_iconst (v := 0) hx hb d_La_feed_2 (by decide) ?_
  refine zi_as (y := nI 0) (nI_0.symm) ?_
  refine lv_aload_n hx hb d_La_feed_3 rfl (lv_at hl 0 rfl) ?_
  refine lv_iload_n hx hb d_La_feed_4 rfl (lv_at hl 1 rfl) ?_
  refine lv_iload_n hx hb d_La_feed_5 rfl (lv_at hl 2 rfl) ?_
  refine lv_iload_n hx hb d_La_feed_6 rfl (lv_at hl 3 rfl) ?_
  refine lv_iload hx hb d_La_feed_7 (lv_at hl 4 rfl) ?_
  refine lv_iload hx hb d_La_feed_9 (lv_at hl 5 rfl) ?_
  refine zt_callV (hnd := (fun cls : String => 19)) (As := [.int p0, .int p1, .int p2, .int p3, .int p4]) (rest := [.int (nI 0), .ref out]) ⟨hx, hb, hml, hown, hts⟩ (t_ZA_feed l hoff E G xo ta zo an b [] hX hT (by decide) p0 p1 p2 p3 p4 40 (by decide)) (zcV 5 hts w_769 w_770 w_771 w_1 w_772 (by decide +kernel) ⟨Nat.le_of_ble_eq_true rfl, Nat.le_of_ble_eq_true rfl⟩) (zc_preV hbase hK hN hQ hG hS hX rfl) rfl hl.1 rfl (Nat.le_of_ble_eq_true rfl) d_La_feed_11 ⟨(by decide), (by decide)⟩ hS (fun cls h9 => ?_) (fun v11 G11 H locs hp11 hG hS => ?_) (fun cls x11 H locs ht11 hG hS => ?_)
  · rcases h9 with ⟨rfl, -⟩
    exact zt_wayOf (pre := []) (h := (0, 16, 19, 13)) (tl := []) hex (fun y hy => absurd hy List.not_mem_nil) (by decide) (by decide) (hts _ w_768) (zN.at hN (w := .castable "java/lang/IllegalStateException" "java/lang/IllegalStateException") (by decide +kernel)) (by decide)
  · obtain ⟨-, rfl, b2, hT2, hb2, hx11⟩ := hp11
    have k_out : G11 out = some (.inl (E.2.1 2, 1, .inr (.inl fo))) := hx11 out _ (fun z => z.elim (zg_ne hout hT.1 (by intro h; simp at h)) (zg_ne hout htb (by intro h; simp at h))) hout
    have hx1 : zx (fun q => q = out ∨ q = ta ∨ q = b) G G11 := hx11.w (fun _ z => Or.inr z)
    refine W.eq (g2 := F0 m 14 ls [.int (nI 20), .int (nI 0), .ref out]) rfl ?_
    refine lv_i2l hx hb d_La_feed_14 rfl ?_
    refine zg_last hx hb hK hG hS 2 k_out rfl (vp_in_nI (by omega) (by omega)) d_La_feed_15 (fun H locs hG hS => ?_)
    obtain ⟨G2, eG2⟩ : ∃ z : zg_G, z = zg_up G11 out (.inl (E.2.1 2, 1, .inr (.inl (vp_updL fo (nI 0).toNatClampNeg ((nI 20).toInt64))))) := ⟨_, rfl⟩
    have hG : zP E G2 H := by rw [eG2]; exact hG
    have hx3 : zx (fun q => q = out ∨ q = ta ∨ q = b) G G2 := hx1.tr (by rw [eG2]; exact zx.up (Or.inl rfl))
    have k4 : G2 out = some (.inl (E.2.1 2, 1, .inr (.inl (vp_updL fo (nI 0).toNatClampNeg ((nI 20).toInt64))))) := by rw [eG2]; exact zg_up_self _ _ _
    refine lv_goto (tgt := 23) hx hb d_La_feed_16 (by decide) ?_
    refine lv_iconst (v := 0) hx hb d_La_feed_23 (by decide) ?_
    exact hret _ _ _ _ _ _ _ _ _ hr (rfl) (⟨rfl, hx3, _, k4, rfl⟩) hG hS (by decide) (by decide) d_La_feed_24
  · rcases ht11 with ⟨rfl, ht11⟩
    refine W.eq (g2 := F0 m 19 ls [.ref x11]) (congrArg (fun n9 => F0 m n9 ls [.ref x11]) (show (fun cls : String => 19) "java/lang/IllegalStateException" = 19 from by decide)) ?_
    exact absurd ht11 (by decide)
abbrev rm_La_end_f : Room := { frames := 9, cells := 2, slots := 8, locals := 240 }
set_option maxHeartbeats 4000000 in
set_option maxRecDepth 100000 in
/-- end, of a new object -/
theorem t_La_end_f (l : Launch) (hoff : zl_off l) (E : zc_E) (G : zg_G) (xo ta zo an b la x st sd o ol da dx d0 d1 d3 bt s1 s2 s3 r1 r2 r3 : Nat) (hF : zNew E G xo ta zo an b la x st sd o ol da dx d0 d1 d3 bt s1 s2 s3 r1 r2 r3) (out : Nat) (fo : Nat → Int64) (hout : G out = some (.inl (E.2.1 2, 1, .inr (.inl fo)))) (p0 : Int32) : zMiW l E y_La_end c_La_end 4 (some .int) [(0, 9, 12, 19)] rm_La_end_f [.ref xo, .int p0, .ref out] G (fun (r : Int32) (G2 : zg_G) => (r = 0 ∧ (¬ p0 < 0 ∧ ¬ nI 0 < p0) ∧ zx (fun q => q = out ∨ q = ta) G G2 ∧ ∃ f2, G2 out = some (.inl (E.2.1 2, 1, .inr (.inl f2))) ∧ f2 0 = p0.toInt64) ∨ (r = 1 ∧ (p0 < 0 ∨ nI 0 < p0) ∧ zx (fun q => q = out ∨ q = ta) G G2 ∧ ∃ f2, G2 out = some (.inl (E.2.1 2, 1, .inr (.inl f2))))) := by
  refine zMiW.of (by decide) (Nat.le_of_ble_eq_true rfl) ?_
  intro p e s m args below meth c Q hZ hex hG hret ls hl
  obtain ⟨hx, hb, hr, hts, hown, hlocks, hml, hnm, hbase, hK, hN, hQ⟩ := hZ
  have hl : lv_has ls 4 [(0, .ref xo), (1, .int p0), (2, .ref out)] := hl
  have hS : zg_S (zc_b E) s.heap s.heap [] := va_S.rf
  obtain ⟨hX, hT, hZz, hLo, ho, hLs, hst, hLd, hdx, hsd, hnx, hbt, han, hs1, hs2, hs3, hr1, hr2, hr3⟩ := id hF
  have hx0 : zx (fun q => q = out ∨ q = ta) G G := zx.rf
  refine lv_aload_n hx hb d_La_end_0 rfl (lv_at hl 2 rfl) ?_
  refine lv_iconst (v := 0) hx hb d_La_end_1 (by decide) ?_
  refine zi_as (y := nI 0) (nI_0.symm) ?_
  refine lv_aload_n hx hb d_La_end_2 rfl (lv_at hl 0 rfl) ?_
  refine lv_iload_n hx hb d_La_end_3 rfl (lv_at hl 1 rfl) ?_
  refine zt_callV (hnd := (fun cls : String => 12)) (As := [.int p0]) (rest := [.int (nI 0), .ref out]) ⟨hx, hb, hml, hown, hts⟩ (t_ZA_end l hoff E G xo ta zo an b [] hX hT (by decide) p0) (zcV 1 hts w_809 w_810 w_811 w_1 w_812 (by decide +kernel) ⟨Nat.le_of_ble_eq_true rfl, Nat.le_of_ble_eq_true rfl⟩) (zc_preV hbase hK hN hQ hG hS hX rfl) rfl hl.1 rfl (Nat.le_of_ble_eq_true rfl) d_La_end_4 ⟨(by decide), (by decide)⟩ hS (fun cls h9 => ?_) (fun v4 G4 H locs hp4 hG hS => ?_) (fun cls x4 H locs ht4 hG hS => ?_)
  · rcases h9 with ⟨rfl, -⟩
    exact zt_wayOf (pre := []) (h := (0, 9, 12, 19)) (tl := []) hex (fun y hy => absurd hy List.not_mem_nil) (by decide) (by decide) (hts _ w_808) (zN.at hN (w := .castable "java/lang/IllegalArgumentException" "java/lang/IllegalArgumentException") (by decide +kernel)) (by decide)
  · obtain ⟨rfl, hn1, hn2, eg4⟩ := hp4
    have k_out : G4 out = some (.inl (E.2.1 2, 1, .inr (.inl fo))) := by rw [eg4, zg_up_ne (zg_ne hout hT.1 (by intro h; simp at h))]; exact hout
    have hx1 : zx (fun q => q = out ∨ q = ta) G G4 := by rw [eg4]; exact zx.up (Or.inr rfl)
    refine W.eq (g2 := F0 m 7 ls [.int p0, .int (nI 0), .ref out]) rfl ?_
    refine lv_i2l hx hb d_La_end_7 rfl ?_
    refine zg_last hx hb hK hG hS 2 k_out rfl (vp_in_nI (by omega) (by omega)) d_La_end_8 (fun H locs hG hS => ?_)
    obtain ⟨G2, eG2⟩ : ∃ z : zg_G, z = zg_up G4 out (.inl (E.2.1 2, 1, .inr (.inl (vp_updL fo (nI 0).toNatClampNeg p0.toInt64)))) := ⟨_, rfl⟩
    have hG : zP E G2 H := by rw [eG2]; exact hG
    have hx3 : zx (fun q => q = out ∨ q = ta) G G2 := hx1.tr (by rw [eG2]; exact zx.up (Or.inl rfl))
    have k4 : G2 out = some (.inl (E.2.1 2, 1, .inr (.inl (vp_updL fo (nI 0).toNatClampNeg p0.toInt64)))) := by rw [eG2]; exact zg_up_self _ _ _
    refine lv_goto (tgt := 15) hx hb d_La_end_9 (by decide) ?_
    refine lv_iconst (v := 0) hx hb d_La_end_15 (by decide) ?_
    exact hret _ _ _ _ _ _ _ _ _ hr (rfl) (Or.inl ⟨rfl, ⟨hn1, hn2⟩, hx3, _, k4, rfl⟩) hG hS (by decide) (by decide) d_La_end_16
  · rcases ht4 with ⟨rfl, ht4⟩
    refine W.eq (g2 := F0 m 12 ls [.ref x4]) (congrArg (fun n9 => F0 m n9 ls [.ref x4]) (show (fun cls : String => 12) "java/lang/IllegalArgumentException" = 12 from by decide)) ?_
    refine lv_astore_n (lv' := [(3, .ref x4), (0, .ref xo), (1, .int p0), (2, .ref out)]) hx hb d_La_end_12 rfl hl (by decide) rfl (fun ls hl => ?_)
    refine lv_iconst (v := 1) hx hb d_La_end_13 (by decide) ?_
    exact hret _ _ _ _ _ _ _ _ _ hr (rfl) (Or.inr ⟨rfl, ht4, zx.rf, fo, hout⟩) hG hS (by decide) (by decide) d_La_end_14
abbrev rm_La_records_f : Room := { frames := 9, cells := 2, slots := 8, locals := 240 }
set_option maxHeartbeats 4000000 in
set_option maxRecDepth 100000 in
/-- records, of a new object -/
theorem t_La_records_f (l : Launch) (hoff : zl_off l) (E : zc_E) (G : zg_G) (xo ta zo an b la x st sd o ol da dx d0 d1 d3 bt s1 s2 s3 r1 r2 r3 : Nat) (hF : zNew E G xo ta zo an b la x st sd o ol da dx d0 d1 d3 bt s1 s2 s3 r1 r2 r3) (out : Nat) (fo : Nat → Int64) (hout : G out = some (.inl (E.2.1 2, 1, .inr (.inl fo)))) (p0 : Int32) : zMiW l E y_La_records c_La_records 4 (some .int) [(0, 9, 12, 34)] rm_La_records_f [.ref xo, .int p0, .ref out] G (fun (r : Int32) (G2 : zg_G) => (r = 0 ∧ (p0 = 1 ∨ p0 = 2 ∨ p0 = 3) ∧ zx (fun q => q = out) G G2 ∧ ∃ f2, G2 out = some (.inl (E.2.1 2, 1, .inr (.inl f2))) ∧ f2 0 = (0 : Int32).toInt64) ∨ (r = 1 ∧ (¬ p0 = 1 ∧ ¬ p0 = 2 ∧ ¬ p0 = 3) ∧ zx (fun q => q = out) G G2 ∧ ∃ f2, G2 out = some (.inl (E.2.1 2, 1, .inr (.inl f2))))) := by
  refine zMiW.of (by decide) (Nat.le_of_ble_eq_true rfl) ?_
  intro p e s m args below meth c Q hZ hex hG hret ls hl
  obtain ⟨hx, hb, hr, hts, hown, hlocks, hml, hnm, hbase, hK, hN, hQ⟩ := hZ
  have hl : lv_has ls 4 [(0, .ref xo), (1, .int p0), (2, .ref out)] := hl
  have hS : zg_S (zc_b E) s.heap s.heap [] := va_S.rf
  obtain ⟨hX, hT, hZz, hLo, ho, hLs, hst, hLd, hdx, hsd, hnx, hbt, han, hs1, hs2, hs3, hr1, hr2, hr3⟩ := id hF
  have hx0 : zx (fun q => q = out) G G := zx.rf
  refine lv_aload_n hx hb d_La_records_0 rfl (lv_at hl 2 rfl) ?_
  refine lv_iconst (v := 0) hx hb d_La_records_1 (by decide) ?_
  refine zi_as (y := nI 0) (nI_0.symm) ?_
  refine lv_aload_n hx hb d_La_records_2 rfl (lv_at hl 0 rfl) ?_
  refine lv_iload_n hx hb d_La_records_3 rfl (lv_at hl 1 rfl) ?_
  refine zt_callV (hnd := (fun cls : String => 12)) (As := [.int p0]) (rest := [.int (nI 0), .ref out]) ⟨hx, hb, hml, hown, hts⟩ (t_ZA_records_f l hoff E G xo ta zo an b la x st sd o ol da dx d0 d1 d3 bt s1 s2 s3 r1 r2 r3 hF p0) (zcV 1 hts w_1200 w_1201 w_1202 w_1 w_1203 (by decide +kernel) ⟨Nat.le_of_ble_eq_true rfl, Nat.le_of_ble_eq_true rfl⟩) (zc_preV hbase hK hN hQ hG hS hX rfl) rfl hl.1 rfl (Nat.le_of_ble_eq_true rfl) d_La_records_4 ⟨(by decide), (by decide)⟩ hS (fun cls h9 => ?_) (fun v4 G4 H locs hp4 hG hS => ?_) (fun cls x4 H locs ht4 hG hS => ?_)
  · rcases h9 with ⟨rfl, -⟩
    exact zt_wayOf (pre := []) (h := (0, 9, 12, 34)) (tl := []) hex (fun y hy => absurd hy List.not_mem_nil) (by decide) (by decide) (hts _ w_939) (zN.at hN (w := .castable "java/util/NoSuchElementException" "java/util/NoSuchElementException") (by decide +kernel)) (by decide)
  · obtain ⟨rfl, hn1, eg4⟩ := hp4
    have hG : zP E G H := eg4 ▸ hG
    refine W.eq (g2 := F0 m 7 ls [.int 0, .int (nI 0), .ref out]) rfl ?_
    refine lv_i2l hx hb d_La_records_7 rfl ?_
    refine zg_last hx hb hK hG hS 2 hout rfl (vp_in_nI (by omega) (by omega)) d_La_records_8 (fun H locs hG hS => ?_)
    obtain ⟨G1, eG1⟩ : ∃ z : zg_G, z = zg_up G out (.inl (E.2.1 2, 1, .inr (.inl (vp_updL fo (nI 0).toNatClampNeg ((0 : Int32).toInt64))))) := ⟨_, rfl⟩
    have hG : zP E G1 H := by rw [eG1]; exact hG
    have hx2 : zx (fun q => q = out) G G1 := hx0.tr (by rw [eG1]; exact zx.up (rfl))
    have k3 : G1 xo = some (.inr (10, [.ref ta, .ref zo, .ref an])) := by rw [eG1, zg_up_ne (zg_ne hX hout (by intro h; simp at h))]; exact hX
    have k4 : G1 out = some (.inl (E.2.1 2, 1, .inr (.inl (vp_updL fo (nI 0).toNatClampNeg ((0 : Int32).toInt64))))) := by rw [eG1]; exact zg_up_self _ _ _
    refine lv_goto (tgt := 15) hx hb d_La_records_9 (by decide) ?_
    refine lv_iconst (v := 0) hx hb d_La_records_15 (by decide) ?_
    exact hret _ _ _ _ _ _ _ _ _ hr (rfl) (Or.inl ⟨rfl, hn1, hx2, _, k4, rfl⟩) hG hS (by decide) (by decide) d_La_records_16
  · rcases ht4 with ⟨rfl, ht4⟩
    refine W.eq (g2 := F0 m 12 ls [.ref x4]) (congrArg (fun n9 => F0 m n9 ls [.ref x4]) (show (fun cls : String => 12) "java/util/NoSuchElementException" = 12 from by decide)) ?_
    refine lv_astore_n (lv' := [(3, .ref x4), (0, .ref xo), (1, .int p0), (2, .ref out)]) hx hb d_La_records_12 rfl hl (by decide) rfl (fun ls hl => ?_)
    refine lv_iconst (v := 1) hx hb d_La_records_13 (by decide) ?_
    exact hret _ _ _ _ _ _ _ _ _ hr (rfl) (Or.inr ⟨rfl, ht4, zx.rf, fo, hout⟩) hG hS (by decide) (by decide) d_La_records_14
