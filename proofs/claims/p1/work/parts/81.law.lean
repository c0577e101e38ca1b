theorem zNew.keep {E : zc_E} {G G2 : zg_G} {S : Nat → Prop} {xo ta zo an b la x st sd o ol da dx d0 d1 d3 bt s1 s2 s3 r1 r2 r3 : Nat} (h : zNew E G xo ta zo an b la x st sd o ol da dx d0 d1 d3 bt s1 s2 s3 r1 r2 r3) (hx : zx S G G2) (hS : ∀ q, S q → G q = none ∨ ∃ fs, G q = some (.inr (11, fs))) : zNew E G2 xo ta zo an b la x st sd o ol da dx d0 d1 d3 bt s1 s2 s3 r1 r2 r3 := by
  have go : ∀ (q : Nat) (y : va_E), G q = some y → (∀ fs, y ≠ .inr (11, fs)) → G2 q = some y := by
    intro q y hq hy
    refine hx q y (fun z => ?_) hq
    rcases hS q z with e | ⟨fs, e⟩
    · rw [hq] at e; cases e
    · rw [hq] at e; cases e; exact hy fs rfl
  have goL : ∀ (a1 dd : Nat) (xs : List Nat), zL E G a1 dd xs → zL E G2 a1 dd xs := by
    rintro a1 dd xs ⟨⟨k, h1⟩, h2⟩
    refine ⟨⟨k, go _ _ h1 (fun fs e => by cases e)⟩, ?_⟩
    rcases h2 with e | ⟨cap, f, h3, h4⟩
    · exact Or.inl e
    · exact Or.inr ⟨cap, f, go _ _ h3 (fun fs e => by cases e), h4⟩
  obtain ⟨hX, ⟨hT1, n, f, hT2, hT3⟩, hZz, hLo, ho, hLs, hst, hLd, hdx, hsd, hnx, hbt, han, hs1, hs2, hs3, hr1, hr2, hr3⟩ := h
  exact ⟨go _ _ hX (fun fs e => by cases e), ⟨go _ _ hT1 (fun fs e => by cases e), n, f, go _ _ hT2 (fun fs e => by cases e), hT3⟩, go _ _ hZz (fun fs e => by cases e), goL _ _ _ hLo, go _ _ ho (fun fs e => by cases e), goL _ _ _ hLs, go _ _ hst (fun fs e => by cases e), goL _ _ _ hLd, go _ _ hdx (fun fs e => by cases e), go _ _ hsd (fun fs e => by cases e), go _ _ hnx (fun fs e => by cases e), go _ _ hbt (fun fs e => by cases e), go _ _ han (fun fs e => by cases e), go _ _ hs1 (fun fs e => by cases e), go _ _ hs2 (fun fs e => by cases e), go _ _ hs3 (fun fs e => by cases e), go _ _ hr1 (fun fs e => by cases e), go _ _ hr2 (fun fs e => by cases e), go _ _ hr3 (fun fs e => by cases e)⟩
theorem zMod.keep {E : zc_E} {G G2 : zg_G} {S : Nat → Prop} {a m1 m3 m4 m6 m7 m8 m9 m10 m11 m12 m15 m18 rq dt : Nat} (h : zMod E G a m1 m3 m4 m6 m7 m8 m9 m10 m11 m12 m15 m18 rq dt) (hx : zx S G G2) (h1 : ¬ S a) (h2 : ¬ S m1) (h3 : ¬ S m3) (h4 : ¬ S m4) (h5 : ¬ S rq) (h6 : ¬ S dt) : zMod E G2 a m1 m3 m4 m6 m7 m8 m9 m10 m11 m12 m15 m18 rq dt := by
  obtain ⟨q1, q2, q3, q4, q5, q6⟩ := h
  exact ⟨hx _ _ h1 q1, hx _ _ h2 q2, hx _ _ h3 q3, hx _ _ h4 q4, hx _ _ h5 q5, hx _ _ h6 q6⟩
theorem zneg {L : Nat} (h : L < 6) : nI L - 6 < nI 0 := by
  rcases (show L = 0 ∨ L = 1 ∨ L = 2 ∨ L = 3 ∨ L = 4 ∨ L = 5 by omega) with rfl | rfl | rfl | rfl | rfl | rfl <;> decide
theorem zcmp0 (x : Int64) : lg_cmp x x = 0 := by simp [lg_cmp]
theorem w_0 : (.initialized "ZoneAnswersLaw" : Cond) ∈ zw := zw_at 0 (by decide +kernel) (by decide +kernel)
theorem w_37 : (.classLink "ZoneAnswersLaw" 8 "ZoneAnswers" : Cond) ∈ zw := zw_at 37 (by decide +kernel) (by decide +kernel)
theorem w_39 : (.methodLink "ZoneAnswersLaw" 59 ⟨"ZoneAnswers", "<init>", "()V"⟩ : Cond) ∈ zw := zw_at 39 (by decide +kernel) (by decide +kernel)
theorem w_40 : (.instanceMethod ⟨"ZoneAnswers", "<init>", "()V"⟩ : Cond) ∈ zw := zw_at 40 (by decide +kernel) (by decide +kernel)
theorem w_41 : (.code ⟨"ZoneAnswers", "<init>", "()V"⟩ prog_1_method_1_code 1 none : Cond) ∈ zw := zw_at 41 (by decide +kernel) (by decide +kernel)
theorem w_713 : (.methodLink "ZoneAnswersLaw" 90 ⟨"ZoneAnswers", "serial", "(I)I"⟩ : Cond) ∈ zw := zw_at 713 (by decide +kernel) (by decide +kernel)
theorem w_714 : (.instanceMethod ⟨"ZoneAnswers", "serial", "(I)I"⟩ : Cond) ∈ zw := zw_at 714 (by decide +kernel) (by decide +kernel)
theorem w_715 : (.selects "ZoneAnswers" ⟨"ZoneAnswers", "serial", "(I)I"⟩ ⟨"ZoneAnswers", "serial", "(I)I"⟩ : Cond) ∈ zw := zw_at 715 (by decide +kernel) (by decide +kernel)
theorem w_716 : (.code ⟨"ZoneAnswers", "serial", "(I)I"⟩ prog_1_method_8_code 3 (some .int) : Cond) ∈ zw := zw_at 716 (by decide +kernel) (by decide +kernel)
theorem w_725 : (.methodLink "ZoneAnswersLaw" 112 ⟨"ZoneAnswers", "count", "(I)I"⟩ : Cond) ∈ zw := zw_at 725 (by decide +kernel) (by decide +kernel)
theorem w_726 : (.instanceMethod ⟨"ZoneAnswers", "count", "(I)I"⟩ : Cond) ∈ zw := zw_at 726 (by decide +kernel) (by decide +kernel)
theorem w_727 : (.selects "ZoneAnswers" ⟨"ZoneAnswers", "count", "(I)I"⟩ ⟨"ZoneAnswers", "count", "(I)I"⟩ : Cond) ∈ zw := zw_at 727 (by decide +kernel) (by decide +kernel)
theorem w_728 : (.code ⟨"ZoneAnswers", "count", "(I)I"⟩ prog_1_method_14_code 2 (some .int) : Cond) ∈ zw := zw_at 728 (by decide +kernel) (by decide +kernel)
theorem w_765 : (.methodLink "ZoneAnswersLaw" 63 ⟨"ZoneAnswersLaw", "feed", "(LZoneAnswers;IIIII[J)I"⟩ : Cond) ∈ zw := zw_at 765 (by decide +kernel) (by decide +kernel)
theorem w_766 : (.static ⟨"ZoneAnswersLaw", "feed", "(LZoneAnswers;IIIII[J)I"⟩ : Cond) ∈ zw := zw_at 766 (by decide +kernel) (by decide +kernel)
theorem w_767 : (.codeWith ⟨"ZoneAnswersLaw", "feed", "(LZoneAnswers;IIIII[J)I"⟩ method_3_code 8 (some .int) [(0, 16, 19, 13)] : Cond) ∈ zw := zw_at 767 (by decide +kernel) (by decide +kernel)
theorem w_805 : (.methodLink "ZoneAnswersLaw" 72 ⟨"ZoneAnswersLaw", "end", "(LZoneAnswers;I[J)I"⟩ : Cond) ∈ zw := zw_at 805 (by decide +kernel) (by decide +kernel)
theorem w_806 : (.static ⟨"ZoneAnswersLaw", "end", "(LZoneAnswers;I[J)I"⟩ : Cond) ∈ zw := zw_at 806 (by decide +kernel) (by decide +kernel)
theorem w_807 : (.codeWith ⟨"ZoneAnswersLaw", "end", "(LZoneAnswers;I[J)I"⟩ method_4_code 4 (some .int) [(0, 9, 12, 19)] : Cond) ∈ zw := zw_at 807 (by decide +kernel) (by decide +kernel)
theorem w_822 : (.methodLink "ZoneAnswersLaw" 76 ⟨"ZoneAnswersLaw", "origin", "(LZoneAnswers;IIIII)I"⟩ : Cond) ∈ zw := zw_at 822 (by decide +kernel) (by decide +kernel)
theorem w_823 : (.static ⟨"ZoneAnswersLaw", "origin", "(LZoneAnswers;IIIII)I"⟩ : Cond) ∈ zw := zw_at 823 (by decide +kernel) (by decide +kernel)
theorem w_824 : (.codeWith ⟨"ZoneAnswersLaw", "origin", "(LZoneAnswers;IIIII)I"⟩ method_5_code 7 (some .int) [(0, 11, 14, 19)] : Cond) ∈ zw := zw_at 824 (by decide +kernel) (by decide +kernel)
theorem w_846 : (.methodLink "ZoneAnswersLaw" 80 ⟨"ZoneAnswersLaw", "put", "(LZoneAnswers;II[J)I"⟩ : Cond) ∈ zw := zw_at 846 (by decide +kernel) (by decide +kernel)
theorem w_847 : (.static ⟨"ZoneAnswersLaw", "put", "(LZoneAnswers;II[J)I"⟩ : Cond) ∈ zw := zw_at 847 (by decide +kernel) (by decide +kernel)
theorem w_848 : (.codeWith ⟨"ZoneAnswersLaw", "put", "(LZoneAnswers;II[J)I"⟩ method_6_code 5 (some .int) [(0, 10, 13, 19), (0, 10, 17, 13), (0, 10, 21, 29)] : Cond) ∈ zw := zw_at 848 (by decide +kernel) (by decide +kernel)
theorem w_936 : (.methodLink "ZoneAnswersLaw" 84 ⟨"ZoneAnswersLaw", "take", "(LZoneAnswers;I[J)I"⟩ : Cond) ∈ zw := zw_at 936 (by decide +kernel) (by decide +kernel)
theorem w_937 : (.static ⟨"ZoneAnswersLaw", "take", "(LZoneAnswers;I[J)I"⟩ : Cond) ∈ zw := zw_at 937 (by decide +kernel) (by decide +kernel)
theorem w_938 : (.codeWith ⟨"ZoneAnswersLaw", "take", "(LZoneAnswers;I[J)I"⟩ method_7_code 4 (some .int) [(0, 9, 12, 19), (0, 9, 15, 34)] : Cond) ∈ zw := zw_at 938 (by decide +kernel) (by decide +kernel)
theorem w_984 : (.methodLink "ZoneAnswersLaw" 87 ⟨"ZoneAnswersLaw", "takeAll", "(LZoneAnswers;I[J)I"⟩ : Cond) ∈ zw := zw_at 984 (by decide +kernel) (by decide +kernel)
theorem w_985 : (.static ⟨"ZoneAnswersLaw", "takeAll", "(LZoneAnswers;I[J)I"⟩ : Cond) ∈ zw := zw_at 985 (by decide +kernel) (by decide +kernel)
theorem w_986 : (.codeWith ⟨"ZoneAnswersLaw", "takeAll", "(LZoneAnswers;I[J)I"⟩ method_8_code 4 (some .int) [(0, 9, 12, 19)] : Cond) ∈ zw := zw_at 986 (by decide +kernel) (by decide +kernel)
theorem w_1001 : (.methodLink "ZoneAnswersLaw" 94 ⟨"ZoneAnswersLaw", "ask", "(LZoneAnswers;IZ[J)I"⟩ : Cond) ∈ zw := zw_at 1001 (by decide +kernel) (by decide +kernel)
theorem w_1002 : (.static ⟨"ZoneAnswersLaw", "ask", "(LZoneAnswers;IZ[J)I"⟩ : Cond) ∈ zw := zw_at 1002 (by decide +kernel) (by decide +kernel)
theorem w_1003 : (.codeWith ⟨"ZoneAnswersLaw", "ask", "(LZoneAnswers;IZ[J)I"⟩ method_9_code 5 (some .int) [(0, 10, 13, 19)] : Cond) ∈ zw := zw_at 1003 (by decide +kernel) (by decide +kernel)
theorem w_1197 : (.methodLink "ZoneAnswersLaw" 98 ⟨"ZoneAnswersLaw", "records", "(LZoneAnswers;I[J)I"⟩ : Cond) ∈ zw := zw_at 1197 (by decide +kernel) (by decide +kernel)
theorem w_1198 : (.static ⟨"ZoneAnswersLaw", "records", "(LZoneAnswers;I[J)I"⟩ : Cond) ∈ zw := zw_at 1198 (by decide +kernel) (by decide +kernel)
theorem w_1199 : (.codeWith ⟨"ZoneAnswersLaw", "records", "(LZoneAnswers;I[J)I"⟩ method_10_code 4 (some .int) [(0, 9, 12, 34)] : Cond) ∈ zw := zw_at 1199 (by decide +kernel) (by decide +kernel)
theorem w_1209 : (.methodLink "ZoneAnswersLaw" 101 ⟨"ZoneAnswersLaw", "told", "(LZoneAnswers;III[J)I"⟩ : Cond) ∈ zw := zw_at 1209 (by decide +kernel) (by decide +kernel)
theorem w_1210 : (.static ⟨"ZoneAnswersLaw", "told", "(LZoneAnswers;III[J)I"⟩ : Cond) ∈ zw := zw_at 1210 (by decide +kernel) (by decide +kernel)
theorem w_1211 : (.codeWith ⟨"ZoneAnswersLaw", "told", "(LZoneAnswers;III[J)I"⟩ method_11_code 6 (some .int) [(0, 12, 15, 34), (0, 12, 19, 19)] : Cond) ∈ zw := zw_at 1211 (by decide +kernel) (by decide +kernel)
theorem w_1222 : (.methodLink "ZoneAnswersLaw" 105 ⟨"ZoneAnswersLaw", "byteOf", "(LZoneAnswers;III[J)I"⟩ : Cond) ∈ zw := zw_at 1222 (by decide +kernel) (by decide +kernel)
theorem w_1223 : (.static ⟨"ZoneAnswersLaw", "byteOf", "(LZoneAnswers;III[J)I"⟩ : Cond) ∈ zw := zw_at 1223 (by decide +kernel) (by decide +kernel)
theorem w_1224 : (.codeWith ⟨"ZoneAnswersLaw", "byteOf", "(LZoneAnswers;III[J)I"⟩ method_12_code 6 (some .int) [(0, 12, 15, 34), (0, 12, 19, 53)] : Cond) ∈ zw := zw_at 1224 (by decide +kernel) (by decide +kernel)
theorem w_1235 : (.methodLink "ZoneAnswersLaw" 108 ⟨"ZoneAnswersLaw", "state", "(LZoneAnswers;[J)I"⟩ : Cond) ∈ zw := zw_at 1235 (by decide +kernel) (by decide +kernel)
theorem w_1236 : (.static ⟨"ZoneAnswersLaw", "state", "(LZoneAnswers;[J)I"⟩ : Cond) ∈ zw := zw_at 1236 (by decide +kernel) (by decide +kernel)
theorem w_1237 : (.codeWith ⟨"ZoneAnswersLaw", "state", "(LZoneAnswers;[J)I"⟩ method_13_code 3 (some .int) [(0, 8, 11, 19)] : Cond) ∈ zw := zw_at 1237 (by decide +kernel) (by decide +kernel)
theorem w_1245 : (.classLink "ZoneAnswersLaw" 60 "ZoneAnswersModel" : Cond) ∈ zw := zw_at 1245 (by decide +kernel) (by decide +kernel)
theorem w_1247 : (.methodLink "ZoneAnswersLaw" 62 ⟨"ZoneAnswersModel", "<init>", "()V"⟩ : Cond) ∈ zw := zw_at 1247 (by decide +kernel) (by decide +kernel)
theorem w_1248 : (.instanceMethod ⟨"ZoneAnswersModel", "<init>", "()V"⟩ : Cond) ∈ zw := zw_at 1248 (by decide +kernel) (by decide +kernel)
theorem w_1249 : (.code ⟨"ZoneAnswersModel", "<init>", "()V"⟩ prog_12_method_1_code 2 none : Cond) ∈ zw := zw_at 1249 (by decide +kernel) (by decide +kernel)
theorem w_1345 : (.methodLink "ZoneAnswersLaw" 69 ⟨"ZoneAnswersModel", "thrown", "()I"⟩ : Cond) ∈ zw := zw_at 1345 (by decide +kernel) (by decide +kernel)
theorem w_1346 : (.instanceMethod ⟨"ZoneAnswersModel", "thrown", "()I"⟩ : Cond) ∈ zw := zw_at 1346 (by decide +kernel) (by decide +kernel)
theorem w_1347 : (.selects "ZoneAnswersModel" ⟨"ZoneAnswersModel", "thrown", "()I"⟩ ⟨"ZoneAnswersModel", "thrown", "()I"⟩ : Cond) ∈ zw := zw_at 1347 (by decide +kernel) (by decide +kernel)
theorem w_1348 : (.code ⟨"ZoneAnswersModel", "thrown", "()I"⟩ prog_12_method_2_code 1 (some .int) : Cond) ∈ zw := zw_at 1348 (by decide +kernel) (by decide +kernel)
theorem w_1349 : (.methodLink "ZoneAnswersLaw" 68 ⟨"ZoneAnswersModel", "feed", "(IIIII)I"⟩ : Cond) ∈ zw := zw_at 1349 (by decide +kernel) (by decide +kernel)
theorem w_1350 : (.instanceMethod ⟨"ZoneAnswersModel", "feed", "(IIIII)I"⟩ : Cond) ∈ zw := zw_at 1350 (by decide +kernel) (by decide +kernel)
theorem w_1351 : (.selects "ZoneAnswersModel" ⟨"ZoneAnswersModel", "feed", "(IIIII)I"⟩ ⟨"ZoneAnswersModel", "feed", "(IIIII)I"⟩ : Cond) ∈ zw := zw_at 1351 (by decide +kernel) (by decide +kernel)
theorem w_1352 : (.code ⟨"ZoneAnswersModel", "feed", "(IIIII)I"⟩ prog_12_method_34_code 8 (some .int) : Cond) ∈ zw := zw_at 1352 (by decide +kernel) (by decide +kernel)
theorem w_1358 : (.methodLink "ZoneAnswersLaw" 75 ⟨"ZoneAnswersModel", "end", "(I)I"⟩ : Cond) ∈ zw := zw_at 1358 (by decide +kernel) (by decide +kernel)
theorem w_1359 : (.instanceMethod ⟨"ZoneAnswersModel", "end", "(I)I"⟩ : Cond) ∈ zw := zw_at 1359 (by decide +kernel) (by decide +kernel)
theorem w_1360 : (.selects "ZoneAnswersModel" ⟨"ZoneAnswersModel", "end", "(I)I"⟩ ⟨"ZoneAnswersModel", "end", "(I)I"⟩ : Cond) ∈ zw := zw_at 1360 (by decide +kernel) (by decide +kernel)
theorem w_1361 : (.code ⟨"ZoneAnswersModel", "end", "(I)I"⟩ prog_12_method_35_code 2 (some .int) : Cond) ∈ zw := zw_at 1361 (by decide +kernel) (by decide +kernel)
theorem w_1362 : (.methodLink "ZoneAnswersLaw" 79 ⟨"ZoneAnswersModel", "origin", "(IIIII)V"⟩ : Cond) ∈ zw := zw_at 1362 (by decide +kernel) (by decide +kernel)
theorem w_1363 : (.instanceMethod ⟨"ZoneAnswersModel", "origin", "(IIIII)V"⟩ : Cond) ∈ zw := zw_at 1363 (by decide +kernel) (by decide +kernel)
theorem w_1364 : (.selects "ZoneAnswersModel" ⟨"ZoneAnswersModel", "origin", "(IIIII)V"⟩ ⟨"ZoneAnswersModel", "origin", "(IIIII)V"⟩ : Cond) ∈ zw := zw_at 1364 (by decide +kernel) (by decide +kernel)
theorem w_1365 : (.code ⟨"ZoneAnswersModel", "origin", "(IIIII)V"⟩ prog_12_method_36_code 14 none : Cond) ∈ zw := zw_at 1365 (by decide +kernel) (by decide +kernel)
theorem w_1375 : (.methodLink "ZoneAnswersLaw" 83 ⟨"ZoneAnswersModel", "put", "(II)I"⟩ : Cond) ∈ zw := zw_at 1375 (by decide +kernel) (by decide +kernel)
theorem w_1376 : (.instanceMethod ⟨"ZoneAnswersModel", "put", "(II)I"⟩ : Cond) ∈ zw := zw_at 1376 (by decide +kernel) (by decide +kernel)
theorem w_1377 : (.selects "ZoneAnswersModel" ⟨"ZoneAnswersModel", "put", "(II)I"⟩ ⟨"ZoneAnswersModel", "put", "(II)I"⟩ : Cond) ∈ zw := zw_at 1377 (by decide +kernel) (by decide +kernel)
theorem w_1378 : (.code ⟨"ZoneAnswersModel", "put", "(II)I"⟩ prog_12_method_42_code 4 (some .int) : Cond) ∈ zw := zw_at 1378 (by decide +kernel) (by decide +kernel)
theorem w_1421 : (.methodLink "ZoneAnswersLaw" 86 ⟨"ZoneAnswersModel", "take", "(I)I"⟩ : Cond) ∈ zw := zw_at 1421 (by decide +kernel) (by decide +kernel)
theorem w_1422 : (.instanceMethod ⟨"ZoneAnswersModel", "take", "(I)I"⟩ : Cond) ∈ zw := zw_at 1422 (by decide +kernel) (by decide +kernel)
theorem w_1423 : (.selects "ZoneAnswersModel" ⟨"ZoneAnswersModel", "take", "(I)I"⟩ ⟨"ZoneAnswersModel", "take", "(I)I"⟩ : Cond) ∈ zw := zw_at 1423 (by decide +kernel) (by decide +kernel)
theorem w_1424 : (.code ⟨"ZoneAnswersModel", "take", "(I)I"⟩ prog_12_method_44_code 3 (some .int) : Cond) ∈ zw := zw_at 1424 (by decide +kernel) (by decide +kernel)
theorem w_1429 : (.methodLink "ZoneAnswersLaw" 89 ⟨"ZoneAnswersModel", "takeAll", "(I)I"⟩ : Cond) ∈ zw := zw_at 1429 (by decide +kernel) (by decide +kernel)
theorem w_1430 : (.instanceMethod ⟨"ZoneAnswersModel", "takeAll", "(I)I"⟩ : Cond) ∈ zw := zw_at 1430 (by decide +kernel) (by decide +kernel)
theorem w_1431 : (.selects "ZoneAnswersModel" ⟨"ZoneAnswersModel", "takeAll", "(I)I"⟩ ⟨"ZoneAnswersModel", "takeAll", "(I)I"⟩ : Cond) ∈ zw := zw_at 1431 (by decide +kernel) (by decide +kernel)
theorem w_1432 : (.code ⟨"ZoneAnswersModel", "takeAll", "(I)I"⟩ prog_12_method_46_code 5 (some .int) : Cond) ∈ zw := zw_at 1432 (by decide +kernel) (by decide +kernel)
theorem w_1437 : (.methodLink "ZoneAnswersLaw" 93 ⟨"ZoneAnswersModel", "serial", "(I)I"⟩ : Cond) ∈ zw := zw_at 1437 (by decide +kernel) (by decide +kernel)
theorem w_1438 : (.instanceMethod ⟨"ZoneAnswersModel", "serial", "(I)I"⟩ : Cond) ∈ zw := zw_at 1438 (by decide +kernel) (by decide +kernel)
theorem w_1439 : (.selects "ZoneAnswersModel" ⟨"ZoneAnswersModel", "serial", "(I)I"⟩ ⟨"ZoneAnswersModel", "serial", "(I)I"⟩ : Cond) ∈ zw := zw_at 1439 (by decide +kernel) (by decide +kernel)
theorem w_1440 : (.code ⟨"ZoneAnswersModel", "serial", "(I)I"⟩ prog_12_method_47_code 6 (some .int) : Cond) ∈ zw := zw_at 1440 (by decide +kernel) (by decide +kernel)
theorem w_1448 : (.methodLink "ZoneAnswersLaw" 97 ⟨"ZoneAnswersModel", "ask", "(IZ)I"⟩ : Cond) ∈ zw := zw_at 1448 (by decide +kernel) (by decide +kernel)
theorem w_1449 : (.instanceMethod ⟨"ZoneAnswersModel", "ask", "(IZ)I"⟩ : Cond) ∈ zw := zw_at 1449 (by decide +kernel) (by decide +kernel)
theorem w_1450 : (.selects "ZoneAnswersModel" ⟨"ZoneAnswersModel", "ask", "(IZ)I"⟩ ⟨"ZoneAnswersModel", "ask", "(IZ)I"⟩ : Cond) ∈ zw := zw_at 1450 (by decide +kernel) (by decide +kernel)
theorem w_1451 : (.code ⟨"ZoneAnswersModel", "ask", "(IZ)I"⟩ prog_12_method_48_code 7 (some .int) : Cond) ∈ zw := zw_at 1451 (by decide +kernel) (by decide +kernel)
theorem w_1576 : (.methodLink "ZoneAnswersLaw" 100 ⟨"ZoneAnswersModel", "records", "(I)I"⟩ : Cond) ∈ zw := zw_at 1576 (by decide +kernel) (by decide +kernel)
theorem w_1577 : (.instanceMethod ⟨"ZoneAnswersModel", "records", "(I)I"⟩ : Cond) ∈ zw := zw_at 1577 (by decide +kernel) (by decide +kernel)
theorem w_1578 : (.selects "ZoneAnswersModel" ⟨"ZoneAnswersModel", "records", "(I)I"⟩ ⟨"ZoneAnswersModel", "records", "(I)I"⟩ : Cond) ∈ zw := zw_at 1578 (by decide +kernel) (by decide +kernel)
theorem w_1579 : (.code ⟨"ZoneAnswersModel", "records", "(I)I"⟩ prog_12_method_50_code 4 (some .int) : Cond) ∈ zw := zw_at 1579 (by decide +kernel) (by decide +kernel)
theorem w_1580 : (.methodLink "ZoneAnswersLaw" 104 ⟨"ZoneAnswersModel", "told", "(III)I"⟩ : Cond) ∈ zw := zw_at 1580 (by decide +kernel) (by decide +kernel)
theorem w_1581 : (.instanceMethod ⟨"ZoneAnswersModel", "told", "(III)I"⟩ : Cond) ∈ zw := zw_at 1581 (by decide +kernel) (by decide +kernel)
theorem w_1582 : (.selects "ZoneAnswersModel" ⟨"ZoneAnswersModel", "told", "(III)I"⟩ ⟨"ZoneAnswersModel", "told", "(III)I"⟩ : Cond) ∈ zw := zw_at 1582 (by decide +kernel) (by decide +kernel)
theorem w_1583 : (.code ⟨"ZoneAnswersModel", "told", "(III)I"⟩ prog_12_method_52_code 5 (some .int) : Cond) ∈ zw := zw_at 1583 (by decide +kernel) (by decide +kernel)
theorem w_1588 : (.methodLink "ZoneAnswersLaw" 107 ⟨"ZoneAnswersModel", "byteOf", "(III)I"⟩ : Cond) ∈ zw := zw_at 1588 (by decide +kernel) (by decide +kernel)
theorem w_1589 : (.instanceMethod ⟨"ZoneAnswersModel", "byteOf", "(III)I"⟩ : Cond) ∈ zw := zw_at 1589 (by decide +kernel) (by decide +kernel)
theorem w_1590 : (.selects "ZoneAnswersModel" ⟨"ZoneAnswersModel", "byteOf", "(III)I"⟩ ⟨"ZoneAnswersModel", "byteOf", "(III)I"⟩ : Cond) ∈ zw := zw_at 1590 (by decide +kernel) (by decide +kernel)
theorem w_1591 : (.code ⟨"ZoneAnswersModel", "byteOf", "(III)I"⟩ prog_12_method_53_code 6 (some .int) : Cond) ∈ zw := zw_at 1591 (by decide +kernel) (by decide +kernel)
theorem w_1592 : (.methodLink "ZoneAnswersLaw" 111 ⟨"ZoneAnswersModel", "state", "()I"⟩ : Cond) ∈ zw := zw_at 1592 (by decide +kernel) (by decide +kernel)
theorem w_1593 : (.instanceMethod ⟨"ZoneAnswersModel", "state", "()I"⟩ : Cond) ∈ zw := zw_at 1593 (by decide +kernel) (by decide +kernel)
theorem w_1594 : (.selects "ZoneAnswersModel" ⟨"ZoneAnswersModel", "state", "()I"⟩ ⟨"ZoneAnswersModel", "state", "()I"⟩ : Cond) ∈ zw := zw_at 1594 (by decide +kernel) (by decide +kernel)
theorem w_1595 : (.code ⟨"ZoneAnswersModel", "state", "()I"⟩ prog_12_method_54_code 2 (some .int) : Cond) ∈ zw := zw_at 1595 (by decide +kernel) (by decide +kernel)
theorem w_1596 : (.methodLink "ZoneAnswersLaw" 115 ⟨"ZoneAnswersModel", "count", "(I)I"⟩ : Cond) ∈ zw := zw_at 1596 (by decide +kernel) (by decide +kernel)
theorem w_1597 : (.instanceMethod ⟨"ZoneAnswersModel", "count", "(I)I"⟩ : Cond) ∈ zw := zw_at 1597 (by decide +kernel) (by decide +kernel)
theorem w_1598 : (.selects "ZoneAnswersModel" ⟨"ZoneAnswersModel", "count", "(I)I"⟩ ⟨"ZoneAnswersModel", "count", "(I)I"⟩ : Cond) ∈ zw := zw_at 1598 (by decide +kernel) (by decide +kernel)
theorem w_1599 : (.code ⟨"ZoneAnswersModel", "count", "(I)I"⟩ prog_12_method_55_code 8 (some .int) : Cond) ∈ zw := zw_at 1599 (by decide +kernel) (by decide +kernel)
abbrev c_La_law : ByteArray := code
abbrev y_La_law : MethodName := ⟨"ZoneAnswersLaw", "law", "([I)Z"⟩
theorem d_La_law_0 : decode c_La_law 0 = .ok (.new 8, 3) := by decide +kernel
theorem d_La_law_3 : decode c_La_law 3 = .ok (.dup, 1) := by decide +kernel
theorem d_La_law_4 : decode c_La_law 4 = .ok (.invokespecial 59, 3) := by decide +kernel
theorem d_La_law_7 : decode c_La_law 7 = .ok (.astore_n 1, 1) := by decide +kernel
theorem d_La_law_8 : decode c_La_law 8 = .ok (.new 60, 3) := by decide +kernel
theorem d_La_law_11 : decode c_La_law 11 = .ok (.dup, 1) := by decide +kernel
theorem d_La_law_12 : decode c_La_law 12 = .ok (.invokespecial 62, 3) := by decide +kernel
theorem d_La_law_15 : decode c_La_law 15 = .ok (.astore_n 2, 1) := by decide +kernel
theorem d_La_law_16 : decode c_La_law 16 = .ok (.iconst 1, 1) := by decide +kernel
theorem d_La_law_17 : decode c_La_law 17 = .ok (.newarray .long, 2) := by decide +kernel
theorem d_La_law_19 : decode c_La_law 19 = .ok (.astore_n 3, 1) := by decide +kernel
theorem d_La_law_20 : decode c_La_law 20 = .ok (.iconst 0, 1) := by decide +kernel
theorem d_La_law_21 : decode c_La_law 21 = .ok (.istore 4, 2) := by decide +kernel
theorem d_La_law_23 : decode c_La_law 23 = .ok (.iload 4, 2) := by decide +kernel
theorem d_La_law_25 : decode c_La_law 25 = .ok (.aload_n 0, 1) := by decide +kernel
theorem d_La_law_26 : decode c_La_law 26 = .ok (.arraylength, 1) := by decide +kernel
theorem d_La_law_27 : decode c_La_law 27 = .ok (.bipush 6, 2) := by decide +kernel
theorem d_La_law_29 : decode c_La_law 29 = .ok (.isub, 1) := by decide +kernel
theorem d_La_law_30 : decode c_La_law 30 = .ok (.if_icmp .gt 902, 3) := by decide +kernel
theorem d_La_law_33 : decode c_La_law 33 = .ok (.aload_n 0, 1) := by decide +kernel
theorem d_La_law_34 : decode c_La_law 34 = .ok (.iload 4, 2) := by decide +kernel
theorem d_La_law_36 : decode c_La_law 36 = .ok (.iaload, 1) := by decide +kernel
theorem d_La_law_37 : decode c_La_law 37 = .ok (.bipush 15, 2) := by decide +kernel
theorem d_La_law_39 : decode c_La_law 39 = .ok (.iand, 1) := by decide +kernel
theorem d_La_law_40 : decode c_La_law 40 = .ok (.tableswitch 886 0 12 #[68, 172, 228, 312, 380, 436, 492, 517, 601, 657, 737, 817, 861], 68) := by decide +kernel
theorem d_La_law_108 : decode c_La_law 108 = .ok (.aload_n 1, 1) := by decide +kernel
theorem d_La_law_109 : decode c_La_law 109 = .ok (.aload_n 0, 1) := by decide +kernel
theorem d_La_law_110 : decode c_La_law 110 = .ok (.iload 4, 2) := by decide +kernel
theorem d_La_law_112 : decode c_La_law 112 = .ok (.iconst 1, 1) := by decide +kernel
theorem d_La_law_113 : decode c_La_law 113 = .ok (.iadd, 1) := by decide +kernel
theorem d_La_law_114 : decode c_La_law 114 = .ok (.iaload, 1) := by decide +kernel
theorem d_La_law_115 : decode c_La_law 115 = .ok (.aload_n 0, 1) := by decide +kernel
theorem d_La_law_116 : decode c_La_law 116 = .ok (.iload 4, 2) := by decide +kernel
theorem d_La_law_118 : decode c_La_law 118 = .ok (.iconst 2, 1) := by decide +kernel
theorem d_La_law_119 : decode c_La_law 119 = .ok (.iadd, 1) := by decide +kernel
theorem d_La_law_120 : decode c_La_law 120 = .ok (.iaload, 1) := by decide +kernel
theorem d_La_law_121 : decode c_La_law 121 = .ok (.aload_n 0, 1) := by decide +kernel
theorem d_La_law_122 : decode c_La_law 122 = .ok (.iload 4, 2) := by decide +kernel
theorem d_La_law_124 : decode c_La_law 124 = .ok (.iconst 3, 1) := by decide +kernel
theorem d_La_law_125 : decode c_La_law 125 = .ok (.iadd, 1) := by decide +kernel
theorem d_La_law_126 : decode c_La_law 126 = .ok (.iaload, 1) := by decide +kernel
theorem d_La_law_127 : decode c_La_law 127 = .ok (.aload_n 0, 1) := by decide +kernel
theorem d_La_law_128 : decode c_La_law 128 = .ok (.iload 4, 2) := by decide +kernel
theorem d_La_law_130 : decode c_La_law 130 = .ok (.iconst 4, 1) := by decide +kernel
theorem d_La_law_131 : decode c_La_law 131 = .ok (.iadd, 1) := by decide +kernel
theorem d_La_law_132 : decode c_La_law 132 = .ok (.iaload, 1) := by decide +kernel
theorem d_La_law_133 : decode c_La_law 133 = .ok (.aload_n 0, 1) := by decide +kernel
theorem d_La_law_134 : decode c_La_law 134 = .ok (.iload 4, 2) := by decide +kernel
theorem d_La_law_136 : decode c_La_law 136 = .ok (.iconst 5, 1) := by decide +kernel
theorem d_La_law_137 : decode c_La_law 137 = .ok (.iadd, 1) := by decide +kernel
theorem d_La_law_138 : decode c_La_law 138 = .ok (.iaload, 1) := by decide +kernel
theorem d_La_law_139 : decode c_La_law 139 = .ok (.aload_n 3, 1) := by decide +kernel
theorem d_La_law_140 : decode c_La_law 140 = .ok (.invokestatic 63, 3) := by decide +kernel
theorem d_La_law_143 : decode c_La_law 143 = .ok (.istore 5, 2) := by decide +kernel
theorem d_La_law_145 : decode c_La_law 145 = .ok (.aload_n 2, 1) := by decide +kernel
theorem d_La_law_146 : decode c_La_law 146 = .ok (.aload_n 0, 1) := by decide +kernel
theorem d_La_law_147 : decode c_La_law 147 = .ok (.iload 4, 2) := by decide +kernel
theorem d_La_law_149 : decode c_La_law 149 = .ok (.iconst 1, 1) := by decide +kernel
theorem d_La_law_150 : decode c_La_law 150 = .ok (.iadd, 1) := by decide +kernel
theorem d_La_law_151 : decode c_La_law 151 = .ok (.iaload, 1) := by decide +kernel
theorem d_La_law_152 : decode c_La_law 152 = .ok (.aload_n 0, 1) := by decide +kernel
theorem d_La_law_153 : decode c_La_law 153 = .ok (.iload 4, 2) := by decide +kernel
theorem d_La_law_155 : decode c_La_law 155 = .ok (.iconst 2, 1) := by decide +kernel
theorem d_La_law_156 : decode c_La_law 156 = .ok (.iadd, 1) := by decide +kernel
theorem d_La_law_157 : decode c_La_law 157 = .ok (.iaload, 1) := by decide +kernel
theorem d_La_law_158 : decode c_La_law 158 = .ok (.aload_n 0, 1) := by decide +kernel
theorem d_La_law_159 : decode c_La_law 159 = .ok (.iload 4, 2) := by decide +kernel
theorem d_La_law_161 : decode c_La_law 161 = .ok (.iconst 3, 1) := by decide +kernel
theorem d_La_law_162 : decode c_La_law 162 = .ok (.iadd, 1) := by decide +kernel
theorem d_La_law_163 : decode c_La_law 163 = .ok (.iaload, 1) := by decide +kernel
theorem d_La_law_164 : decode c_La_law 164 = .ok (.aload_n 0, 1) := by decide +kernel
theorem d_La_law_165 : decode c_La_law 165 = .ok (.iload 4, 2) := by decide +kernel
theorem d_La_law_167 : decode c_La_law 167 = .ok (.iconst 4, 1) := by decide +kernel
theorem d_La_law_168 : decode c_La_law 168 = .ok (.iadd, 1) := by decide +kernel
theorem d_La_law_169 : decode c_La_law 169 = .ok (.iaload, 1) := by decide +kernel
theorem d_La_law_170 : decode c_La_law 170 = .ok (.aload_n 0, 1) := by decide +kernel
theorem d_La_law_171 : decode c_La_law 171 = .ok (.iload 4, 2) := by decide +kernel
theorem d_La_law_173 : decode c_La_law 173 = .ok (.iconst 5, 1) := by decide +kernel
theorem d_La_law_174 : decode c_La_law 174 = .ok (.iadd, 1) := by decide +kernel
theorem d_La_law_175 : decode c_La_law 175 = .ok (.iaload, 1) := by decide +kernel
theorem d_La_law_176 : decode c_La_law 176 = .ok (.invokevirtual 68, 3) := by decide +kernel
theorem d_La_law_179 : decode c_La_law 179 = .ok (.istore 6, 2) := by decide +kernel
theorem d_La_law_181 : decode c_La_law 181 = .ok (.aload_n 2, 1) := by decide +kernel
theorem d_La_law_182 : decode c_La_law 182 = .ok (.invokevirtual 69, 3) := by decide +kernel
theorem d_La_law_185 : decode c_La_law 185 = .ok (.iload 5, 2) := by decide +kernel
theorem d_La_law_187 : decode c_La_law 187 = .ok (.if_icmp .eq 5, 3) := by decide +kernel
theorem d_La_law_190 : decode c_La_law 190 = .ok (.iconst 0, 1) := by decide +kernel
theorem d_La_law_191 : decode c_La_law 191 = .ok (.ireturn, 1) := by decide +kernel
theorem d_La_law_192 : decode c_La_law 192 = .ok (.iload 5, 2) := by decide +kernel
theorem d_La_law_194 : decode c_La_law 194 = .ok (.ifCond .ne 15, 3) := by decide +kernel
theorem d_La_law_197 : decode c_La_law 197 = .ok (.aload_n 3, 1) := by decide +kernel
theorem d_La_law_198 : decode c_La_law 198 = .ok (.iconst 0, 1) := by decide +kernel
theorem d_La_law_199 : decode c_La_law 199 = .ok (.laload, 1) := by decide +kernel
theorem d_La_law_200 : decode c_La_law 200 = .ok (.iload 6, 2) := by decide +kernel
theorem d_La_law_202 : decode c_La_law 202 = .ok (.i2l, 1) := by decide +kernel
theorem d_La_law_203 : decode c_La_law 203 = .ok (.lcmp, 1) := by decide +kernel
theorem d_La_law_204 : decode c_La_law 204 = .ok (.ifCond .eq 5, 3) := by decide +kernel
theorem d_La_law_207 : decode c_La_law 207 = .ok (.iconst 0, 1) := by decide +kernel
theorem d_La_law_208 : decode c_La_law 208 = .ok (.ireturn, 1) := by decide +kernel
theorem d_La_law_209 : decode c_La_law 209 = .ok (.goto 717, 3) := by decide +kernel
theorem d_La_law_212 : decode c_La_law 212 = .ok (.aload_n 1, 1) := by decide +kernel
theorem d_La_law_213 : decode c_La_law 213 = .ok (.aload_n 0, 1) := by decide +kernel
theorem d_La_law_214 : decode c_La_law 214 = .ok (.iload 4, 2) := by decide +kernel
theorem d_La_law_216 : decode c_La_law 216 = .ok (.iconst 1, 1) := by decide +kernel
theorem d_La_law_217 : decode c_La_law 217 = .ok (.iadd, 1) := by decide +kernel
theorem d_La_law_218 : decode c_La_law 218 = .ok (.iaload, 1) := by decide +kernel
theorem d_La_law_219 : decode c_La_law 219 = .ok (.aload_n 3, 1) := by decide +kernel
theorem d_La_law_220 : decode c_La_law 220 = .ok (.invokestatic 72, 3) := by decide +kernel
theorem d_La_law_223 : decode c_La_law 223 = .ok (.istore 5, 2) := by decide +kernel
theorem d_La_law_225 : decode c_La_law 225 = .ok (.aload_n 2, 1) := by decide +kernel
theorem d_La_law_226 : decode c_La_law 226 = .ok (.aload_n 0, 1) := by decide +kernel
theorem d_La_law_227 : decode c_La_law 227 = .ok (.iload 4, 2) := by decide +kernel
theorem d_La_law_229 : decode c_La_law 229 = .ok (.iconst 1, 1) := by decide +kernel
theorem d_La_law_230 : decode c_La_law 230 = .ok (.iadd, 1) := by decide +kernel
theorem d_La_law_231 : decode c_La_law 231 = .ok (.iaload, 1) := by decide +kernel
theorem d_La_law_232 : decode c_La_law 232 = .ok (.invokevirtual 75, 3) := by decide +kernel
theorem d_La_law_235 : decode c_La_law 235 = .ok (.istore 6, 2) := by decide +kernel
theorem d_La_law_237 : decode c_La_law 237 = .ok (.aload_n 2, 1) := by decide +kernel
theorem d_La_law_238 : decode c_La_law 238 = .ok (.invokevirtual 69, 3) := by decide +kernel
theorem d_La_law_241 : decode c_La_law 241 = .ok (.iload 5, 2) := by decide +kernel
theorem d_La_law_243 : decode c_La_law 243 = .ok (.if_icmp .eq 5, 3) := by decide +kernel
theorem d_La_law_246 : decode c_La_law 246 = .ok (.iconst 0, 1) := by decide +kernel
theorem d_La_law_247 : decode c_La_law 247 = .ok (.ireturn, 1) := by decide +kernel
theorem d_La_law_248 : decode c_La_law 248 = .ok (.iload 5, 2) := by decide +kernel
theorem d_La_law_250 : decode c_La_law 250 = .ok (.ifCond .ne 15, 3) := by decide +kernel
theorem d_La_law_253 : decode c_La_law 253 = .ok (.aload_n 3, 1) := by decide +kernel
theorem d_La_law_254 : decode c_La_law 254 = .ok (.iconst 0, 1) := by decide +kernel
theorem d_La_law_255 : decode c_La_law 255 = .ok (.laload, 1) := by decide +kernel
theorem d_La_law_256 : decode c_La_law 256 = .ok (.iload 6, 2) := by decide +kernel
theorem d_La_law_258 : decode c_La_law 258 = .ok (.i2l, 1) := by decide +kernel
theorem d_La_law_259 : decode c_La_law 259 = .ok (.lcmp, 1) := by decide +kernel
theorem d_La_law_260 : decode c_La_law 260 = .ok (.ifCond .eq 5, 3) := by decide +kernel
theorem d_La_law_263 : decode c_La_law 263 = .ok (.iconst 0, 1) := by decide +kernel
theorem d_La_law_264 : decode c_La_law 264 = .ok (.ireturn, 1) := by decide +kernel
theorem d_La_law_265 : decode c_La_law 265 = .ok (.goto 661, 3) := by decide +kernel
theorem d_La_law_268 : decode c_La_law 268 = .ok (.aload_n 1, 1) := by decide +kernel
theorem d_La_law_269 : decode c_La_law 269 = .ok (.aload_n 0, 1) := by decide +kernel
theorem d_La_law_270 : decode c_La_law 270 = .ok (.iload 4, 2) := by decide +kernel
theorem d_La_law_272 : decode c_La_law 272 = .ok (.iconst 1, 1) := by decide +kernel
theorem d_La_law_273 : decode c_La_law 273 = .ok (.iadd, 1) := by decide +kernel
theorem d_La_law_274 : decode c_La_law 274 = .ok (.iaload, 1) := by decide +kernel
theorem d_La_law_275 : decode c_La_law 275 = .ok (.aload_n 0, 1) := by decide +kernel
theorem d_La_law_276 : decode c_La_law 276 = .ok (.iload 4, 2) := by decide +kernel
theorem d_La_law_278 : decode c_La_law 278 = .ok (.iconst 2, 1) := by decide +kernel
theorem d_La_law_279 : decode c_La_law 279 = .ok (.iadd, 1) := by decide +kernel
theorem d_La_law_280 : decode c_La_law 280 = .ok (.iaload, 1) := by decide +kernel
theorem d_La_law_281 : decode c_La_law 281 = .ok (.aload_n 0, 1) := by decide +kernel
theorem d_La_law_282 : decode c_La_law 282 = .ok (.iload 4, 2) := by decide +kernel
theorem d_La_law_284 : decode c_La_law 284 = .ok (.iconst 3, 1) := by decide +kernel
theorem d_La_law_285 : decode c_La_law 285 = .ok (.iadd, 1) := by decide +kernel
theorem d_La_law_286 : decode c_La_law 286 = .ok (.iaload, 1) := by decide +kernel
theorem d_La_law_287 : decode c_La_law 287 = .ok (.aload_n 0, 1) := by decide +kernel
theorem d_La_law_288 : decode c_La_law 288 = .ok (.iload 4, 2) := by decide +kernel
theorem d_La_law_290 : decode c_La_law 290 = .ok (.iconst 4, 1) := by decide +kernel
theorem d_La_law_291 : decode c_La_law 291 = .ok (.iadd, 1) := by decide +kernel
theorem d_La_law_292 : decode c_La_law 292 = .ok (.iaload, 1) := by decide +kernel
theorem d_La_law_293 : decode c_La_law 293 = .ok (.aload_n 0, 1) := by decide +kernel
theorem d_La_law_294 : decode c_La_law 294 = .ok (.iload 4, 2) := by decide +kernel
theorem d_La_law_296 : decode c_La_law 296 = .ok (.iconst 5, 1) := by decide +kernel
theorem d_La_law_297 : decode c_La_law 297 = .ok (.iadd, 1) := by decide +kernel
theorem d_La_law_298 : decode c_La_law 298 = .ok (.iaload, 1) := by decide +kernel
theorem d_La_law_299 : decode c_La_law 299 = .ok (.invokestatic 76, 3) := by decide +kernel
theorem d_La_law_302 : decode c_La_law 302 = .ok (.istore 5, 2) := by decide +kernel
theorem d_La_law_304 : decode c_La_law 304 = .ok (.aload_n 2, 1) := by decide +kernel
theorem d_La_law_305 : decode c_La_law 305 = .ok (.aload_n 0, 1) := by decide +kernel
theorem d_La_law_306 : decode c_La_law 306 = .ok (.iload 4, 2) := by decide +kernel
theorem d_La_law_308 : decode c_La_law 308 = .ok (.iconst 1, 1) := by decide +kernel
theorem d_La_law_309 : decode c_La_law 309 = .ok (.iadd, 1) := by decide +kernel
theorem d_La_law_310 : decode c_La_law 310 = .ok (.iaload, 1) := by decide +kernel
theorem d_La_law_311 : decode c_La_law 311 = .ok (.aload_n 0, 1) := by decide +kernel
theorem d_La_law_312 : decode c_La_law 312 = .ok (.iload 4, 2) := by decide +kernel
theorem d_La_law_314 : decode c_La_law 314 = .ok (.iconst 2, 1) := by decide +kernel
theorem d_La_law_315 : decode c_La_law 315 = .ok (.iadd, 1) := by decide +kernel
theorem d_La_law_316 : decode c_La_law 316 = .ok (.iaload, 1) := by decide +kernel
theorem d_La_law_317 : decode c_La_law 317 = .ok (.aload_n 0, 1) := by decide +kernel
theorem d_La_law_318 : decode c_La_law 318 = .ok (.iload 4, 2) := by decide +kernel
theorem d_La_law_320 : decode c_La_law 320 = .ok (.iconst 3, 1) := by decide +kernel
theorem d_La_law_321 : decode c_La_law 321 = .ok (.iadd, 1) := by decide +kernel
theorem d_La_law_322 : decode c_La_law 322 = .ok (.iaload, 1) := by decide +kernel
theorem d_La_law_323 : decode c_La_law 323 = .ok (.aload_n 0, 1) := by decide +kernel
theorem d_La_law_324 : decode c_La_law 324 = .ok (.iload 4, 2) := by decide +kernel
theorem d_La_law_326 : decode c_La_law 326 = .ok (.iconst 4, 1) := by decide +kernel
theorem d_La_law_327 : decode c_La_law 327 = .ok (.iadd, 1) := by decide +kernel
theorem d_La_law_328 : decode c_La_law 328 = .ok (.iaload, 1) := by decide +kernel
theorem d_La_law_329 : decode c_La_law 329 = .ok (.aload_n 0, 1) := by decide +kernel
theorem d_La_law_330 : decode c_La_law 330 = .ok (.iload 4, 2) := by decide +kernel
theorem d_La_law_332 : decode c_La_law 332 = .ok (.iconst 5, 1) := by decide +kernel
theorem d_La_law_333 : decode c_La_law 333 = .ok (.iadd, 1) := by decide +kernel
theorem d_La_law_334 : decode c_La_law 334 = .ok (.iaload, 1) := by decide +kernel
theorem d_La_law_335 : decode c_La_law 335 = .ok (.invokevirtual 79, 3) := by decide +kernel
theorem d_La_law_338 : decode c_La_law 338 = .ok (.aload_n 2, 1) := by decide +kernel
theorem d_La_law_339 : decode c_La_law 339 = .ok (.invokevirtual 69, 3) := by decide +kernel
theorem d_La_law_342 : decode c_La_law 342 = .ok (.iload 5, 2) := by decide +kernel
theorem d_La_law_344 : decode c_La_law 344 = .ok (.if_icmp .eq 5, 3) := by decide +kernel
theorem d_La_law_347 : decode c_La_law 347 = .ok (.iconst 0, 1) := by decide +kernel
theorem d_La_law_348 : decode c_La_law 348 = .ok (.ireturn, 1) := by decide +kernel
theorem d_La_law_349 : decode c_La_law 349 = .ok (.goto 577, 3) := by decide +kernel
theorem d_La_law_352 : decode c_La_law 352 = .ok (.aload_n 1, 1) := by decide +kernel
theorem d_La_law_353 : decode c_La_law 353 = .ok (.aload_n 0, 1) := by decide +kernel
theorem d_La_law_354 : decode c_La_law 354 = .ok (.iload 4, 2) := by decide +kernel
theorem d_La_law_356 : decode c_La_law 356 = .ok (.iconst 1, 1) := by decide +kernel
theorem d_La_law_357 : decode c_La_law 357 = .ok (.iadd, 1) := by decide +kernel
theorem d_La_law_358 : decode c_La_law 358 = .ok (.iaload, 1) := by decide +kernel
theorem d_La_law_359 : decode c_La_law 359 = .ok (.aload_n 0, 1) := by decide +kernel
theorem d_La_law_360 : decode c_La_law 360 = .ok (.iload 4, 2) := by decide +kernel
theorem d_La_law_362 : decode c_La_law 362 = .ok (.iconst 2, 1) := by decide +kernel
theorem d_La_law_363 : decode c_La_law 363 = .ok (.iadd, 1) := by decide +kernel
theorem d_La_law_364 : decode c_La_law 364 = .ok (.iaload, 1) := by decide +kernel
theorem d_La_law_365 : decode c_La_law 365 = .ok (.aload_n 3, 1) := by decide +kernel
theorem d_La_law_366 : decode c_La_law 366 = .ok (.invokestatic 80, 3) := by decide +kernel
theorem d_La_law_369 : decode c_La_law 369 = .ok (.istore 5, 2) := by decide +kernel
theorem d_La_law_371 : decode c_La_law 371 = .ok (.aload_n 2, 1) := by decide +kernel
theorem d_La_law_372 : decode c_La_law 372 = .ok (.aload_n 0, 1) := by decide +kernel
theorem d_La_law_373 : decode c_La_law 373 = .ok (.iload 4, 2) := by decide +kernel
theorem d_La_law_375 : decode c_La_law 375 = .ok (.iconst 1, 1) := by decide +kernel
theorem d_La_law_376 : decode c_La_law 376 = .ok (.iadd, 1) := by decide +kernel
theorem d_La_law_377 : decode c_La_law 377 = .ok (.iaload, 1) := by decide +kernel
theorem d_La_law_378 : decode c_La_law 378 = .ok (.aload_n 0, 1) := by decide +kernel
theorem d_La_law_379 : decode c_La_law 379 = .ok (.iload 4, 2) := by decide +kernel
theorem d_La_law_381 : decode c_La_law 381 = .ok (.iconst 2, 1) := by decide +kernel
theorem d_La_law_382 : decode c_La_law 382 = .ok (.iadd, 1) := by decide +kernel
theorem d_La_law_383 : decode c_La_law 383 = .ok (.iaload, 1) := by decide +kernel
theorem d_La_law_384 : decode c_La_law 384 = .ok (.invokevirtual 83, 3) := by decide +kernel
theorem d_La_law_387 : decode c_La_law 387 = .ok (.istore 6, 2) := by decide +kernel
theorem d_La_law_389 : decode c_La_law 389 = .ok (.aload_n 2, 1) := by decide +kernel
theorem d_La_law_390 : decode c_La_law 390 = .ok (.invokevirtual 69, 3) := by decide +kernel
theorem d_La_law_393 : decode c_La_law 393 = .ok (.iload 5, 2) := by decide +kernel
theorem d_La_law_395 : decode c_La_law 395 = .ok (.if_icmp .eq 5, 3) := by decide +kernel
theorem d_La_law_398 : decode c_La_law 398 = .ok (.iconst 0, 1) := by decide +kernel
theorem d_La_law_399 : decode c_La_law 399 = .ok (.ireturn, 1) := by decide +kernel
theorem d_La_law_400 : decode c_La_law 400 = .ok (.iload 5, 2) := by decide +kernel
theorem d_La_law_402 : decode c_La_law 402 = .ok (.ifCond .ne 15, 3) := by decide +kernel
theorem d_La_law_405 : decode c_La_law 405 = .ok (.aload_n 3, 1) := by decide +kernel
theorem d_La_law_406 : decode c_La_law 406 = .ok (.iconst 0, 1) := by decide +kernel
theorem d_La_law_407 : decode c_La_law 407 = .ok (.laload, 1) := by decide +kernel
theorem d_La_law_408 : decode c_La_law 408 = .ok (.iload 6, 2) := by decide +kernel
theorem d_La_law_410 : decode c_La_law 410 = .ok (.i2l, 1) := by decide +kernel
theorem d_La_law_411 : decode c_La_law 411 = .ok (.lcmp, 1) := by decide +kernel
theorem d_La_law_412 : decode c_La_law 412 = .ok (.ifCond .eq 5, 3) := by decide +kernel
theorem d_La_law_415 : decode c_La_law 415 = .ok (.iconst 0, 1) := by decide +kernel
theorem d_La_law_416 : decode c_La_law 416 = .ok (.ireturn, 1) := by decide +kernel
theorem d_La_law_417 : decode c_La_law 417 = .ok (.goto 509, 3) := by decide +kernel
theorem d_La_law_420 : decode c_La_law 420 = .ok (.aload_n 1, 1) := by decide +kernel
theorem d_La_law_421 : decode c_La_law 421 = .ok (.aload_n 0, 1) := by decide +kernel
theorem d_La_law_422 : decode c_La_law 422 = .ok (.iload 4, 2) := by decide +kernel
theorem d_La_law_424 : decode c_La_law 424 = .ok (.iconst 1, 1) := by decide +kernel
theorem d_La_law_425 : decode c_La_law 425 = .ok (.iadd, 1) := by decide +kernel
theorem d_La_law_426 : decode c_La_law 426 = .ok (.iaload, 1) := by decide +kernel
theorem d_La_law_427 : decode c_La_law 427 = .ok (.aload_n 3, 1) := by decide +kernel
theorem d_La_law_428 : decode c_La_law 428 = .ok (.invokestatic 84, 3) := by decide +kernel
theorem d_La_law_431 : decode c_La_law 431 = .ok (.istore 5, 2) := by decide +kernel
theorem d_La_law_433 : decode c_La_law 433 = .ok (.aload_n 2, 1) := by decide +kernel
theorem d_La_law_434 : decode c_La_law 434 = .ok (.aload_n 0, 1) := by decide +kernel
theorem d_La_law_435 : decode c_La_law 435 = .ok (.iload 4, 2) := by decide +kernel
theorem d_La_law_437 : decode c_La_law 437 = .ok (.iconst 1, 1) := by decide +kernel
theorem d_La_law_438 : decode c_La_law 438 = .ok (.iadd, 1) := by decide +kernel
theorem d_La_law_439 : decode c_La_law 439 = .ok (.iaload, 1) := by decide +kernel
theorem d_La_law_440 : decode c_La_law 440 = .ok (.invokevirtual 86, 3) := by decide +kernel
theorem d_La_law_443 : decode c_La_law 443 = .ok (.istore 6, 2) := by decide +kernel
theorem d_La_law_445 : decode c_La_law 445 = .ok (.aload_n 2, 1) := by decide +kernel
theorem d_La_law_446 : decode c_La_law 446 = .ok (.invokevirtual 69, 3) := by decide +kernel
theorem d_La_law_449 : decode c_La_law 449 = .ok (.iload 5, 2) := by decide +kernel
theorem d_La_law_451 : decode c_La_law 451 = .ok (.if_icmp .eq 5, 3) := by decide +kernel
theorem d_La_law_454 : decode c_La_law 454 = .ok (.iconst 0, 1) := by decide +kernel
theorem d_La_law_455 : decode c_La_law 455 = .ok (.ireturn, 1) := by decide +kernel
theorem d_La_law_456 : decode c_La_law 456 = .ok (.iload 5, 2) := by decide +kernel
theorem d_La_law_458 : decode c_La_law 458 = .ok (.ifCond .ne 15, 3) := by decide +kernel
theorem d_La_law_461 : decode c_La_law 461 = .ok (.aload_n 3, 1) := by decide +kernel
theorem d_La_law_462 : decode c_La_law 462 = .ok (.iconst 0, 1) := by decide +kernel
theorem d_La_law_463 : decode c_La_law 463 = .ok (.laload, 1) := by decide +kernel
theorem d_La_law_464 : decode c_La_law 464 = .ok (.iload 6, 2) := by decide +kernel
theorem d_La_law_466 : decode c_La_law 466 = .ok (.i2l, 1) := by decide +kernel
theorem d_La_law_467 : decode c_La_law 467 = .ok (.lcmp, 1) := by decide +kernel
theorem d_La_law_468 : decode c_La_law 468 = .ok (.ifCond .eq 5, 3) := by decide +kernel
theorem d_La_law_471 : decode c_La_law 471 = .ok (.iconst 0, 1) := by decide +kernel
theorem d_La_law_472 : decode c_La_law 472 = .ok (.ireturn, 1) := by decide +kernel
theorem d_La_law_473 : decode c_La_law 473 = .ok (.goto 453, 3) := by decide +kernel
theorem d_La_law_476 : decode c_La_law 476 = .ok (.aload_n 1, 1) := by decide +kernel
theorem d_La_law_477 : decode c_La_law 477 = .ok (.aload_n 0, 1) := by decide +kernel
theorem d_La_law_478 : decode c_La_law 478 = .ok (.iload 4, 2) := by decide +kernel
theorem d_La_law_480 : decode c_La_law 480 = .ok (.iconst 1, 1) := by decide +kernel
theorem d_La_law_481 : decode c_La_law 481 = .ok (.iadd, 1) := by decide +kernel
theorem d_La_law_482 : decode c_La_law 482 = .ok (.iaload, 1) := by decide +kernel
theorem d_La_law_483 : decode c_La_law 483 = .ok (.aload_n 3, 1) := by decide +kernel
theorem d_La_law_484 : decode c_La_law 484 = .ok (.invokestatic 87, 3) := by decide +kernel
theorem d_La_law_487 : decode c_La_law 487 = .ok (.istore 5, 2) := by decide +kernel
theorem d_La_law_489 : decode c_La_law 489 = .ok (.aload_n 2, 1) := by decide +kernel
theorem d_La_law_490 : decode c_La_law 490 = .ok (.aload_n 0, 1) := by decide +kernel
theorem d_La_law_491 : decode c_La_law 491 = .ok (.iload 4, 2) := by decide +kernel
theorem d_La_law_493 : decode c_La_law 493 = .ok (.iconst 1, 1) := by decide +kernel
theorem d_La_law_494 : decode c_La_law 494 = .ok (.iadd, 1) := by decide +kernel
theorem d_La_law_495 : decode c_La_law 495 = .ok (.iaload, 1) := by decide +kernel
theorem d_La_law_496 : decode c_La_law 496 = .ok (.invokevirtual 89, 3) := by decide +kernel
theorem d_La_law_499 : decode c_La_law 499 = .ok (.istore 6, 2) := by decide +kernel
theorem d_La_law_501 : decode c_La_law 501 = .ok (.aload_n 2, 1) := by decide +kernel
theorem d_La_law_502 : decode c_La_law 502 = .ok (.invokevirtual 69, 3) := by decide +kernel
theorem d_La_law_505 : decode c_La_law 505 = .ok (.iload 5, 2) := by decide +kernel
theorem d_La_law_507 : decode c_La_law 507 = .ok (.if_icmp .eq 5, 3) := by decide +kernel
theorem d_La_law_510 : decode c_La_law 510 = .ok (.iconst 0, 1) := by decide +kernel
theorem d_La_law_511 : decode c_La_law 511 = .ok (.ireturn, 1) := by decide +kernel
theorem d_La_law_512 : decode c_La_law 512 = .ok (.iload 5, 2) := by decide +kernel
theorem d_La_law_514 : decode c_La_law 514 = .ok (.ifCond .ne 15, 3) := by decide +kernel
theorem d_La_law_517 : decode c_La_law 517 = .ok (.aload_n 3, 1) := by decide +kernel
theorem d_La_law_518 : decode c_La_law 518 = .ok (.iconst 0, 1) := by decide +kernel
theorem d_La_law_519 : decode c_La_law 519 = .ok (.laload, 1) := by decide +kernel
theorem d_La_law_520 : decode c_La_law 520 = .ok (.iload 6, 2) := by decide +kernel
theorem d_La_law_522 : decode c_La_law 522 = .ok (.i2l, 1) := by decide +kernel
theorem d_La_law_523 : decode c_La_law 523 = .ok (.lcmp, 1) := by decide +kernel
theorem d_La_law_524 : decode c_La_law 524 = .ok (.ifCond .eq 5, 3) := by decide +kernel
theorem d_La_law_527 : decode c_La_law 527 = .ok (.iconst 0, 1) := by decide +kernel
theorem d_La_law_528 : decode c_La_law 528 = .ok (.ireturn, 1) := by decide +kernel
theorem d_La_law_529 : decode c_La_law 529 = .ok (.goto 397, 3) := by decide +kernel
theorem d_La_law_532 : decode c_La_law 532 = .ok (.aload_n 1, 1) := by decide +kernel
theorem d_La_law_533 : decode c_La_law 533 = .ok (.aload_n 0, 1) := by decide +kernel
theorem d_La_law_534 : decode c_La_law 534 = .ok (.iload 4, 2) := by decide +kernel
theorem d_La_law_536 : decode c_La_law 536 = .ok (.iconst 1, 1) := by decide +kernel
theorem d_La_law_537 : decode c_La_law 537 = .ok (.iadd, 1) := by decide +kernel
theorem d_La_law_538 : decode c_La_law 538 = .ok (.iaload, 1) := by decide +kernel
theorem d_La_law_539 : decode c_La_law 539 = .ok (.invokevirtual 90, 3) := by decide +kernel
theorem d_La_law_542 : decode c_La_law 542 = .ok (.aload_n 2, 1) := by decide +kernel
theorem d_La_law_543 : decode c_La_law 543 = .ok (.aload_n 0, 1) := by decide +kernel
theorem d_La_law_544 : decode c_La_law 544 = .ok (.iload 4, 2) := by decide +kernel
theorem d_La_law_546 : decode c_La_law 546 = .ok (.iconst 1, 1) := by decide +kernel
theorem d_La_law_547 : decode c_La_law 547 = .ok (.iadd, 1) := by decide +kernel
theorem d_La_law_548 : decode c_La_law 548 = .ok (.iaload, 1) := by decide +kernel
theorem d_La_law_549 : decode c_La_law 549 = .ok (.invokevirtual 93, 3) := by decide +kernel
theorem d_La_law_552 : decode c_La_law 552 = .ok (.if_icmp .eq 374, 3) := by decide +kernel
theorem d_La_law_555 : decode c_La_law 555 = .ok (.iconst 0, 1) := by decide +kernel
theorem d_La_law_556 : decode c_La_law 556 = .ok (.ireturn, 1) := by decide +kernel
theorem d_La_law_557 : decode c_La_law 557 = .ok (.aload_n 1, 1) := by decide +kernel
theorem d_La_law_558 : decode c_La_law 558 = .ok (.aload_n 0, 1) := by decide +kernel
theorem d_La_law_559 : decode c_La_law 559 = .ok (.iload 4, 2) := by decide +kernel
theorem d_La_law_561 : decode c_La_law 561 = .ok (.iconst 1, 1) := by decide +kernel
theorem d_La_law_562 : decode c_La_law 562 = .ok (.iadd, 1) := by decide +kernel
theorem d_La_law_563 : decode c_La_law 563 = .ok (.iaload, 1) := by decide +kernel
theorem d_La_law_564 : decode c_La_law 564 = .ok (.aload_n 0, 1) := by decide +kernel
theorem d_La_law_565 : decode c_La_law 565 = .ok (.iload 4, 2) := by decide +kernel
theorem d_La_law_567 : decode c_La_law 567 = .ok (.iconst 2, 1) := by decide +kernel
theorem d_La_law_568 : decode c_La_law 568 = .ok (.iadd, 1) := by decide +kernel
theorem d_La_law_569 : decode c_La_law 569 = .ok (.iaload, 1) := by decide +kernel
theorem d_La_law_570 : decode c_La_law 570 = .ok (.ifCond .eq 7, 3) := by decide +kernel
theorem d_La_law_573 : decode c_La_law 573 = .ok (.iconst 1, 1) := by decide +kernel
theorem d_La_law_574 : decode c_La_law 574 = .ok (.goto 4, 3) := by decide +kernel
theorem d_La_law_577 : decode c_La_law 577 = .ok (.iconst 0, 1) := by decide +kernel
theorem d_La_law_578 : decode c_La_law 578 = .ok (.aload_n 3, 1) := by decide +kernel
theorem d_La_law_579 : decode c_La_law 579 = .ok (.invokestatic 94, 3) := by decide +kernel
theorem d_La_law_582 : decode c_La_law 582 = .ok (.istore 5, 2) := by decide +kernel
theorem d_La_law_584 : decode c_La_law 584 = .ok (.aload_n 2, 1) := by decide +kernel
theorem d_La_law_585 : decode c_La_law 585 = .ok (.aload_n 0, 1) := by decide +kernel
theorem d_La_law_586 : decode c_La_law 586 = .ok (.iload 4, 2) := by decide +kernel
theorem d_La_law_588 : decode c_La_law 588 = .ok (.iconst 1, 1) := by decide +kernel
theorem d_La_law_589 : decode c_La_law 589 = .ok (.iadd, 1) := by decide +kernel
theorem d_La_law_590 : decode c_La_law 590 = .ok (.iaload, 1) := by decide +kernel
theorem d_La_law_591 : decode c_La_law 591 = .ok (.aload_n 0, 1) := by decide +kernel
theorem d_La_law_592 : decode c_La_law 592 = .ok (.iload 4, 2) := by decide +kernel
theorem d_La_law_594 : decode c_La_law 594 = .ok (.iconst 2, 1) := by decide +kernel
theorem d_La_law_595 : decode c_La_law 595 = .ok (.iadd, 1) := by decide +kernel
theorem d_La_law_596 : decode c_La_law 596 = .ok (.iaload, 1) := by decide +kernel
theorem d_La_law_597 : decode c_La_law 597 = .ok (.ifCond .eq 7, 3) := by decide +kernel
theorem d_La_law_600 : decode c_La_law 600 = .ok (.iconst 1, 1) := by decide +kernel
theorem d_La_law_601 : decode c_La_law 601 = .ok (.goto 4, 3) := by decide +kernel
theorem d_La_law_604 : decode c_La_law 604 = .ok (.iconst 0, 1) := by decide +kernel
theorem d_La_law_605 : decode c_La_law 605 = .ok (.invokevirtual 97, 3) := by decide +kernel
theorem d_La_law_608 : decode c_La_law 608 = .ok (.istore 6, 2) := by decide +kernel
theorem d_La_law_610 : decode c_La_law 610 = .ok (.aload_n 2, 1) := by decide +kernel
theorem d_La_law_611 : decode c_La_law 611 = .ok (.invokevirtual 69, 3) := by decide +kernel
theorem d_La_law_614 : decode c_La_law 614 = .ok (.iload 5, 2) := by decide +kernel
theorem d_La_law_616 : decode c_La_law 616 = .ok (.if_icmp .eq 5, 3) := by decide +kernel
theorem d_La_law_619 : decode c_La_law 619 = .ok (.iconst 0, 1) := by decide +kernel
theorem d_La_law_620 : decode c_La_law 620 = .ok (.ireturn, 1) := by decide +kernel
theorem d_La_law_621 : decode c_La_law 621 = .ok (.iload 5, 2) := by decide +kernel
theorem d_La_law_623 : decode c_La_law 623 = .ok (.ifCond .ne 15, 3) := by decide +kernel
theorem d_La_law_626 : decode c_La_law 626 = .ok (.aload_n 3, 1) := by decide +kernel
theorem d_La_law_627 : decode c_La_law 627 = .ok (.iconst 0, 1) := by decide +kernel
theorem d_La_law_628 : decode c_La_law 628 = .ok (.laload, 1) := by decide +kernel
theorem d_La_law_629 : decode c_La_law 629 = .ok (.iload 6, 2) := by decide +kernel
theorem d_La_law_631 : decode c_La_law 631 = .ok (.i2l, 1) := by decide +kernel
theorem d_La_law_632 : decode c_La_law 632 = .ok (.lcmp, 1) := by decide +kernel
theorem d_La_law_633 : decode c_La_law 633 = .ok (.ifCond .eq 5, 3) := by decide +kernel
theorem d_La_law_636 : decode c_La_law 636 = .ok (.iconst 0, 1) := by decide +kernel
theorem d_La_law_637 : decode c_La_law 637 = .ok (.ireturn, 1) := by decide +kernel
theorem d_La_law_638 : decode c_La_law 638 = .ok (.goto 288, 3) := by decide +kernel
theorem d_La_law_641 : decode c_La_law 641 = .ok (.aload_n 1, 1) := by decide +kernel
theorem d_La_law_642 : decode c_La_law 642 = .ok (.aload_n 0, 1) := by decide +kernel
theorem d_La_law_643 : decode c_La_law 643 = .ok (.iload 4, 2) := by decide +kernel
theorem d_La_law_645 : decode c_La_law 645 = .ok (.iconst 1, 1) := by decide +kernel
theorem d_La_law_646 : decode c_La_law 646 = .ok (.iadd, 1) := by decide +kernel
theorem d_La_law_647 : decode c_La_law 647 = .ok (.iaload, 1) := by decide +kernel
theorem d_La_law_648 : decode c_La_law 648 = .ok (.aload_n 3, 1) := by decide +kernel
theorem d_La_law_649 : decode c_La_law 649 = .ok (.invokestatic 98, 3) := by decide +kernel
theorem d_La_law_652 : decode c_La_law 652 = .ok (.istore 5, 2) := by decide +kernel
theorem d_La_law_654 : decode c_La_law 654 = .ok (.aload_n 2, 1) := by decide +kernel
theorem d_La_law_655 : decode c_La_law 655 = .ok (.aload_n 0, 1) := by decide +kernel
theorem d_La_law_656 : decode c_La_law 656 = .ok (.iload 4, 2) := by decide +kernel
theorem d_La_law_658 : decode c_La_law 658 = .ok (.iconst 1, 1) := by decide +kernel
theorem d_La_law_659 : decode c_La_law 659 = .ok (.iadd, 1) := by decide +kernel
theorem d_La_law_660 : decode c_La_law 660 = .ok (.iaload, 1) := by decide +kernel
theorem d_La_law_661 : decode c_La_law 661 = .ok (.invokevirtual 100, 3) := by decide +kernel
theorem d_La_law_664 : decode c_La_law 664 = .ok (.istore 6, 2) := by decide +kernel
theorem d_La_law_666 : decode c_La_law 666 = .ok (.aload_n 2, 1) := by decide +kernel
theorem d_La_law_667 : decode c_La_law 667 = .ok (.invokevirtual 69, 3) := by decide +kernel
theorem d_La_law_670 : decode c_La_law 670 = .ok (.iload 5, 2) := by decide +kernel
theorem d_La_law_672 : decode c_La_law 672 = .ok (.if_icmp .eq 5, 3) := by decide +kernel
theorem d_La_law_675 : decode c_La_law 675 = .ok (.iconst 0, 1) := by decide +kernel
theorem d_La_law_676 : decode c_La_law 676 = .ok (.ireturn, 1) := by decide +kernel
theorem d_La_law_677 : decode c_La_law 677 = .ok (.iload 5, 2) := by decide +kernel
theorem d_La_law_679 : decode c_La_law 679 = .ok (.ifCond .ne 15, 3) := by decide +kernel
theorem d_La_law_682 : decode c_La_law 682 = .ok (.aload_n 3, 1) := by decide +kernel
theorem d_La_law_683 : decode c_La_law 683 = .ok (.iconst 0, 1) := by decide +kernel
theorem d_La_law_684 : decode c_La_law 684 = .ok (.laload, 1) := by decide +kernel
theorem d_La_law_685 : decode c_La_law 685 = .ok (.iload 6, 2) := by decide +kernel
theorem d_La_law_687 : decode c_La_law 687 = .ok (.i2l, 1) := by decide +kernel
theorem d_La_law_688 : decode c_La_law 688 = .ok (.lcmp, 1) := by decide +kernel
theorem d_La_law_689 : decode c_La_law 689 = .ok (.ifCond .eq 5, 3) := by decide +kernel
theorem d_La_law_692 : decode c_La_law 692 = .ok (.iconst 0, 1) := by decide +kernel
theorem d_La_law_693 : decode c_La_law 693 = .ok (.ireturn, 1) := by decide +kernel
theorem d_La_law_694 : decode c_La_law 694 = .ok (.goto 232, 3) := by decide +kernel
theorem d_La_law_697 : decode c_La_law 697 = .ok (.aload_n 1, 1) := by decide +kernel
theorem d_La_law_698 : decode c_La_law 698 = .ok (.aload_n 0, 1) := by decide +kernel
theorem d_La_law_699 : decode c_La_law 699 = .ok (.iload 4, 2) := by decide +kernel
theorem d_La_law_701 : decode c_La_law 701 = .ok (.iconst 1, 1) := by decide +kernel
theorem d_La_law_702 : decode c_La_law 702 = .ok (.iadd, 1) := by decide +kernel
theorem d_La_law_703 : decode c_La_law 703 = .ok (.iaload, 1) := by decide +kernel
theorem d_La_law_704 : decode c_La_law 704 = .ok (.aload_n 0, 1) := by decide +kernel
theorem d_La_law_705 : decode c_La_law 705 = .ok (.iload 4, 2) := by decide +kernel
theorem d_La_law_707 : decode c_La_law 707 = .ok (.iconst 2, 1) := by decide +kernel
theorem d_La_law_708 : decode c_La_law 708 = .ok (.iadd, 1) := by decide +kernel
theorem d_La_law_709 : decode c_La_law 709 = .ok (.iaload, 1) := by decide +kernel
theorem d_La_law_710 : decode c_La_law 710 = .ok (.aload_n 0, 1) := by decide +kernel
theorem d_La_law_711 : decode c_La_law 711 = .ok (.iload 4, 2) := by decide +kernel
theorem d_La_law_713 : decode c_La_law 713 = .ok (.iconst 3, 1) := by decide +kernel
theorem d_La_law_714 : decode c_La_law 714 = .ok (.iadd, 1) := by decide +kernel
theorem d_La_law_715 : decode c_La_law 715 = .ok (.iaload, 1) := by decide +kernel
theorem d_La_law_716 : decode c_La_law 716 = .ok (.aload_n 3, 1) := by decide +kernel
theorem d_La_law_717 : decode c_La_law 717 = .ok (.invokestatic 101, 3) := by decide +kernel
theorem d_La_law_720 : decode c_La_law 720 = .ok (.istore 5, 2) := by decide +kernel
theorem d_La_law_722 : decode c_La_law 722 = .ok (.aload_n 2, 1) := by decide +kernel
theorem d_La_law_723 : decode c_La_law 723 = .ok (.aload_n 0, 1) := by decide +kernel
theorem d_La_law_724 : decode c_La_law 724 = .ok (.iload 4, 2) := by decide +kernel
theorem d_La_law_726 : decode c_La_law 726 = .ok (.iconst 1, 1) := by decide +kernel
theorem d_La_law_727 : decode c_La_law 727 = .ok (.iadd, 1) := by decide +kernel
theorem d_La_law_728 : decode c_La_law 728 = .ok (.iaload, 1) := by decide +kernel
theorem d_La_law_729 : decode c_La_law 729 = .ok (.aload_n 0, 1) := by decide +kernel
theorem d_La_law_730 : decode c_La_law 730 = .ok (.iload 4, 2) := by decide +kernel
theorem d_La_law_732 : decode c_La_law 732 = .ok (.iconst 2, 1) := by decide +kernel
theorem d_La_law_733 : decode c_La_law 733 = .ok (.iadd, 1) := by decide +kernel
theorem d_La_law_734 : decode c_La_law 734 = .ok (.iaload, 1) := by decide +kernel
theorem d_La_law_735 : decode c_La_law 735 = .ok (.aload_n 0, 1) := by decide +kernel
theorem d_La_law_736 : decode c_La_law 736 = .ok (.iload 4, 2) := by decide +kernel
theorem d_La_law_738 : decode c_La_law 738 = .ok (.iconst 3, 1) := by decide +kernel
theorem d_La_law_739 : decode c_La_law 739 = .ok (.iadd, 1) := by decide +kernel
theorem d_La_law_740 : decode c_La_law 740 = .ok (.iaload, 1) := by decide +kernel
theorem d_La_law_741 : decode c_La_law 741 = .ok (.invokevirtual 104, 3) := by decide +kernel
theorem d_La_law_744 : decode c_La_law 744 = .ok (.istore 6, 2) := by decide +kernel
theorem d_La_law_746 : decode c_La_law 746 = .ok (.aload_n 2, 1) := by decide +kernel
theorem d_La_law_747 : decode c_La_law 747 = .ok (.invokevirtual 69, 3) := by decide +kernel
theorem d_La_law_750 : decode c_La_law 750 = .ok (.iload 5, 2) := by decide +kernel
theorem d_La_law_752 : decode c_La_law 752 = .ok (.if_icmp .eq 5, 3) := by decide +kernel
theorem d_La_law_755 : decode c_La_law 755 = .ok (.iconst 0, 1) := by decide +kernel
theorem d_La_law_756 : decode c_La_law 756 = .ok (.ireturn, 1) := by decide +kernel
theorem d_La_law_757 : decode c_La_law 757 = .ok (.iload 5, 2) := by decide +kernel
theorem d_La_law_759 : decode c_La_law 759 = .ok (.ifCond .ne 15, 3) := by decide +kernel
theorem d_La_law_762 : decode c_La_law 762 = .ok (.aload_n 3, 1) := by decide +kernel
theorem d_La_law_763 : decode c_La_law 763 = .ok (.iconst 0, 1) := by decide +kernel
theorem d_La_law_764 : decode c_La_law 764 = .ok (.laload, 1) := by decide +kernel
theorem d_La_law_765 : decode c_La_law 765 = .ok (.iload 6, 2) := by decide +kernel
theorem d_La_law_767 : decode c_La_law 767 = .ok (.i2l, 1) := by decide +kernel
theorem d_La_law_768 : decode c_La_law 768 = .ok (.lcmp, 1) := by decide +kernel
theorem d_La_law_769 : decode c_La_law 769 = .ok (.ifCond .eq 5, 3) := by decide +kernel
theorem d_La_law_772 : decode c_La_law 772 = .ok (.iconst 0, 1) := by decide +kernel
theorem d_La_law_773 : decode c_La_law 773 = .ok (.ireturn, 1) := by decide +kernel
theorem d_La_law_774 : decode c_La_law 774 = .ok (.goto 152, 3) := by decide +kernel
theorem d_La_law_777 : decode c_La_law 777 = .ok (.aload_n 1, 1) := by decide +kernel
theorem d_La_law_778 : decode c_La_law 778 = .ok (.aload_n 0, 1) := by decide +kernel
theorem d_La_law_779 : decode c_La_law 779 = .ok (.iload 4, 2) := by decide +kernel
theorem d_La_law_781 : decode c_La_law 781 = .ok (.iconst 1, 1) := by decide +kernel
theorem d_La_law_782 : decode c_La_law 782 = .ok (.iadd, 1) := by decide +kernel
theorem d_La_law_783 : decode c_La_law 783 = .ok (.iaload, 1) := by decide +kernel
theorem d_La_law_784 : decode c_La_law 784 = .ok (.aload_n 0, 1) := by decide +kernel
theorem d_La_law_785 : decode c_La_law 785 = .ok (.iload 4, 2) := by decide +kernel
theorem d_La_law_787 : decode c_La_law 787 = .ok (.iconst 2, 1) := by decide +kernel
theorem d_La_law_788 : decode c_La_law 788 = .ok (.iadd, 1) := by decide +kernel
theorem d_La_law_789 : decode c_La_law 789 = .ok (.iaload, 1) := by decide +kernel
theorem d_La_law_790 : decode c_La_law 790 = .ok (.aload_n 0, 1) := by decide +kernel
theorem d_La_law_791 : decode c_La_law 791 = .ok (.iload 4, 2) := by decide +kernel
theorem d_La_law_793 : decode c_La_law 793 = .ok (.iconst 3, 1) := by decide +kernel
theorem d_La_law_794 : decode c_La_law 794 = .ok (.iadd, 1) := by decide +kernel
theorem d_La_law_795 : decode c_La_law 795 = .ok (.iaload, 1) := by decide +kernel
theorem d_La_law_796 : decode c_La_law 796 = .ok (.aload_n 3, 1) := by decide +kernel
theorem d_La_law_797 : decode c_La_law 797 = .ok (.invokestatic 105, 3) := by decide +kernel
theorem d_La_law_800 : decode c_La_law 800 = .ok (.istore 5, 2) := by decide +kernel
theorem d_La_law_802 : decode c_La_law 802 = .ok (.aload_n 2, 1) := by decide +kernel
theorem d_La_law_803 : decode c_La_law 803 = .ok (.aload_n 0, 1) := by decide +kernel
theorem d_La_law_804 : decode c_La_law 804 = .ok (.iload 4, 2) := by decide +kernel
theorem d_La_law_806 : decode c_La_law 806 = .ok (.iconst 1, 1) := by decide +kernel
theorem d_La_law_807 : decode c_La_law 807 = .ok (.iadd, 1) := by decide +kernel
theorem d_La_law_808 : decode c_La_law 808 = .ok (.iaload, 1) := by decide +kernel
theorem d_La_law_809 : decode c_La_law 809 = .ok (.aload_n 0, 1) := by decide +kernel
theorem d_La_law_810 : decode c_La_law 810 = .ok (.iload 4, 2) := by decide +kernel
theorem d_La_law_812 : decode c_La_law 812 = .ok (.iconst 2, 1) := by decide +kernel
theorem d_La_law_813 : decode c_La_law 813 = .ok (.iadd, 1) := by decide +kernel
theorem d_La_law_814 : decode c_La_law 814 = .ok (.iaload, 1) := by decide +kernel
theorem d_La_law_815 : decode c_La_law 815 = .ok (.aload_n 0, 1) := by decide +kernel
theorem d_La_law_816 : decode c_La_law 816 = .ok (.iload 4, 2) := by decide +kernel
theorem d_La_law_818 : decode c_La_law 818 = .ok (.iconst 3, 1) := by decide +kernel
theorem d_La_law_819 : decode c_La_law 819 = .ok (.iadd, 1) := by decide +kernel
theorem d_La_law_820 : decode c_La_law 820 = .ok (.iaload, 1) := by decide +kernel
theorem d_La_law_821 : decode c_La_law 821 = .ok (.invokevirtual 107, 3) := by decide +kernel
theorem d_La_law_824 : decode c_La_law 824 = .ok (.istore 6, 2) := by decide +kernel
theorem d_La_law_826 : decode c_La_law 826 = .ok (.aload_n 2, 1) := by decide +kernel
theorem d_La_law_827 : decode c_La_law 827 = .ok (.invokevirtual 69, 3) := by decide +kernel
theorem d_La_law_830 : decode c_La_law 830 = .ok (.iload 5, 2) := by decide +kernel
theorem d_La_law_832 : decode c_La_law 832 = .ok (.if_icmp .eq 5, 3) := by decide +kernel
theorem d_La_law_835 : decode c_La_law 835 = .ok (.iconst 0, 1) := by decide +kernel
theorem d_La_law_836 : decode c_La_law 836 = .ok (.ireturn, 1) := by decide +kernel
theorem d_La_law_837 : decode c_La_law 837 = .ok (.iload 5, 2) := by decide +kernel
theorem d_La_law_839 : decode c_La_law 839 = .ok (.ifCond .ne 15, 3) := by decide +kernel
theorem d_La_law_842 : decode c_La_law 842 = .ok (.aload_n 3, 1) := by decide +kernel
theorem d_La_law_843 : decode c_La_law 843 = .ok (.iconst 0, 1) := by decide +kernel
theorem d_La_law_844 : decode c_La_law 844 = .ok (.laload, 1) := by decide +kernel
theorem d_La_law_845 : decode c_La_law 845 = .ok (.iload 6, 2) := by decide +kernel
theorem d_La_law_847 : decode c_La_law 847 = .ok (.i2l, 1) := by decide +kernel
theorem d_La_law_848 : decode c_La_law 848 = .ok (.lcmp, 1) := by decide +kernel
theorem d_La_law_849 : decode c_La_law 849 = .ok (.ifCond .eq 5, 3) := by decide +kernel
theorem d_La_law_852 : decode c_La_law 852 = .ok (.iconst 0, 1) := by decide +kernel
theorem d_La_law_853 : decode c_La_law 853 = .ok (.ireturn, 1) := by decide +kernel
theorem d_La_law_854 : decode c_La_law 854 = .ok (.goto 72, 3) := by decide +kernel
theorem d_La_law_857 : decode c_La_law 857 = .ok (.aload_n 1, 1) := by decide +kernel
theorem d_La_law_858 : decode c_La_law 858 = .ok (.aload_n 3, 1) := by decide +kernel
theorem d_La_law_859 : decode c_La_law 859 = .ok (.invokestatic 108, 3) := by decide +kernel
theorem d_La_law_862 : decode c_La_law 862 = .ok (.istore 5, 2) := by decide +kernel
theorem d_La_law_864 : decode c_La_law 864 = .ok (.aload_n 2, 1) := by decide +kernel
theorem d_La_law_865 : decode c_La_law 865 = .ok (.invokevirtual 111, 3) := by decide +kernel
theorem d_La_law_868 : decode c_La_law 868 = .ok (.istore 6, 2) := by decide +kernel
theorem d_La_law_870 : decode c_La_law 870 = .ok (.aload_n 2, 1) := by decide +kernel
theorem d_La_law_871 : decode c_La_law 871 = .ok (.invokevirtual 69, 3) := by decide +kernel
theorem d_La_law_874 : decode c_La_law 874 = .ok (.iload 5, 2) := by decide +kernel
theorem d_La_law_876 : decode c_La_law 876 = .ok (.if_icmp .eq 5, 3) := by decide +kernel
theorem d_La_law_879 : decode c_La_law 879 = .ok (.iconst 0, 1) := by decide +kernel
theorem d_La_law_880 : decode c_La_law 880 = .ok (.ireturn, 1) := by decide +kernel
theorem d_La_law_881 : decode c_La_law 881 = .ok (.iload 5, 2) := by decide +kernel
theorem d_La_law_883 : decode c_La_law 883 = .ok (.ifCond .ne 15, 3) := by decide +kernel
theorem d_La_law_886 : decode c_La_law 886 = .ok (.aload_n 3, 1) := by decide +kernel
theorem d_La_law_887 : decode c_La_law 887 = .ok (.iconst 0, 1) := by decide +kernel
theorem d_La_law_888 : decode c_La_law 888 = .ok (.laload, 1) := by decide +kernel
theorem d_La_law_889 : decode c_La_law 889 = .ok (.iload 6, 2) := by decide +kernel
theorem d_La_law_891 : decode c_La_law 891 = .ok (.i2l, 1) := by decide +kernel
theorem d_La_law_892 : decode c_La_law 892 = .ok (.lcmp, 1) := by decide +kernel
theorem d_La_law_893 : decode c_La_law 893 = .ok (.ifCond .eq 5, 3) := by decide +kernel
theorem d_La_law_896 : decode c_La_law 896 = .ok (.iconst 0, 1) := by decide +kernel
theorem d_La_law_897 : decode c_La_law 897 = .ok (.ireturn, 1) := by decide +kernel
theorem d_La_law_898 : decode c_La_law 898 = .ok (.goto 28, 3) := by decide +kernel
theorem d_La_law_901 : decode c_La_law 901 = .ok (.aload_n 1, 1) := by decide +kernel
theorem d_La_law_902 : decode c_La_law 902 = .ok (.aload_n 0, 1) := by decide +kernel
theorem d_La_law_903 : decode c_La_law 903 = .ok (.iload 4, 2) := by decide +kernel
theorem d_La_law_905 : decode c_La_law 905 = .ok (.iconst 1, 1) := by decide +kernel
theorem d_La_law_906 : decode c_La_law 906 = .ok (.iadd, 1) := by decide +kernel
theorem d_La_law_907 : decode c_La_law 907 = .ok (.iaload, 1) := by decide +kernel
theorem d_La_law_908 : decode c_La_law 908 = .ok (.invokevirtual 112, 3) := by decide +kernel
theorem d_La_law_911 : decode c_La_law 911 = .ok (.aload_n 2, 1) := by decide +kernel
theorem d_La_law_912 : decode c_La_law 912 = .ok (.aload_n 0, 1) := by decide +kernel
theorem d_La_law_913 : decode c_La_law 913 = .ok (.iload 4, 2) := by decide +kernel
theorem d_La_law_915 : decode c_La_law 915 = .ok (.iconst 1, 1) := by decide +kernel
theorem d_La_law_916 : decode c_La_law 916 = .ok (.iadd, 1) := by decide +kernel
theorem d_La_law_917 : decode c_La_law 917 = .ok (.iaload, 1) := by decide +kernel
theorem d_La_law_918 : decode c_La_law 918 = .ok (.invokevirtual 115, 3) := by decide +kernel
theorem d_La_law_921 : decode c_La_law 921 = .ok (.if_icmp .eq 5, 3) := by decide +kernel
theorem d_La_law_924 : decode c_La_law 924 = .ok (.iconst 0, 1) := by decide +kernel
theorem d_La_law_925 : decode c_La_law 925 = .ok (.ireturn, 1) := by decide +kernel
theorem d_La_law_926 : decode c_La_law 926 = .ok (.iinc 4 6, 3) := by decide +kernel
theorem d_La_law_929 : decode c_La_law 929 = .ok (.goto (-906), 3) := by decide +kernel
theorem d_La_law_932 : decode c_La_law 932 = .ok (.iconst 1, 1) := by decide +kernel
theorem d_La_law_933 : decode c_La_law 933 = .ok (.ireturn, 1) := by decide +kernel
set_option maxHeartbeats 40000000 in
set_option maxRecDepth 100000 in
/-- THE LAW, from its entry -/
theorem whole_start {p : Program} {e : Env} {s : State} {m : MethodId} {below : List Frame} {meth : Method} {c : Code} (l : Launch) (hoff : zl_off l) {sc L : Nat} {xs : Nat → Int32} (hL : L ≤ 6) (C0 : lw_At p s m meth c sc L xs) : W p l e room_1 s m #[Value.ref sc] below meth c s.heap [] 0 0 (lw_Z below #[Value.ref sc] s) (entryFrame m ([Value.ref sc] : List Value).toArray 7) := by
  obtain ⟨E, hbE, hK, hN, hQ⟩ := zs_start C0
  obtain ⟨hx, hb, hr, hml, hown, hts0, hX, hbl, hlocks, hgv⟩ := id C0
  have hts : ∀ w ∈ zw, w.before #[Value.ref sc] s = true := fun w hw => hts0 w (List.mem_filter.mp hw).1
  have hbase : zc_b E ≤ s.heap.size := Nat.le_of_eq hbE
  have hbA : ¬ (fun q : Nat => zc_b E ≤ q) sc := by show ¬ zc_b E ≤ sc; rw [hbE]; exact Nat.not_le.mpr hbl
  have hS : zg_S (zc_b E) s.heap s.heap [] := va_S.rf
  obtain ⟨G, eG0⟩ : ∃ G : zg_G, G = fun _ => none := ⟨_, rfl⟩
  have hG : zP E G s.heap := fun a e h => by rw [eG0] at h; cases h
  have hl := lv_entry ([.ref sc]) (n := 7) (Nat.le_of_ble_eq_true rfl)
  rw [lg_entry_eq]
  generalize (lg_sl ([.ref sc]) ++ List.replicate (7 - (lg_sl ([.ref sc])).length) Slot.unset).toArray = ls at hl ⊢
  have hl : lv_has ls 7 [(0, .ref sc)] := hl
  rcases (show L < 6 ∨ L = 6 by omega) with hL6 | rfl
  · refine zg_new (ci := 10) (fs := [.null, .null, .null]) (C := "ZoneAnswers") (T := T_ZA) (N := 3) hx hb hts zi_ZA t_ZA t_ZA_ok hown (hts _ w_37) (hts _ w_38) (hts _ w_1) hK hG hS hbase rfl (fun j hj => by rcases (show j = 0 ∨ j = 1 ∨ j = 2 by omega) with rfl | rfl | rfl <;> rfl) (by decide) (by decide) d_La_law_0 (fun q0 H n0 hG hS => ?_)
    obtain ⟨G1, eG1⟩ : ∃ z : zg_G, z = zg_up G q0 (.inr (10, [.null, .null, .null])) := ⟨_, rfl⟩
    have hG : zP E G1 H := by rw [eG1]; exact hG
    have k2 : G1 q0 = some (.inr (10, [.null, .null, .null])) := by rw [eG1]; exact zg_up_self _ _ _
    refine lv_dup hx hb d_La_law_3 rfl ?_
    have hGo4 := hG
    refine zk_v (va_runI (As := []) (rest := [.ref q0]) ⟨hx, hb, hml, hown, hts⟩ (t_ZA_init l E G1 q0 k2) (zcI 0 hts w_39 w_40 w_1 w_41 rfl (by decide +kernel) ⟨Nat.le_of_ble_eq_true rfl, Nat.le_of_ble_eq_true rfl⟩) (zc_pre hbase hK hN hQ hG hS) rfl rfl hl.1 rfl (lv_room (Nat.le_of_ble_eq_true rfl)) d_La_law_4 ⟨(by decide), (by decide)⟩) hS (fun G4 H locs hp4 hG hS => ?_)
    obtain ⟨ta, zo, an, b, la, x, st, sd, o, ol, da, dx, d0, d1, d3, bt, s1, s2, s3, r1, r2, r3, hx4, hF⟩ := hp4
    obtain ⟨hXo, hT, hZz, hLo, ho, hLs, hst, hLd, hdx, hsd, hnx, hbt, han, hs1, hs2, hs3, hr1, hr2, hr3⟩ := id hF
    obtain ⟨tn9, tf9, htb⟩ := hF.tp
    obtain ⟨kz9, c9, f9, hda, hd3, -⟩ := hLd.un
    refine lv_astore_n (lv' := [(1, .ref q0), (0, .ref sc)]) hx hb d_La_law_7 rfl hl (by decide) rfl (fun ls hl => ?_)
    refine zg_new (ci := 11) (fs := [.int 0, .null, .int 0, .null, .null, .int 0, .null, .null, .null, .null, .null, .null, .null, .int 0, .int 0, .null, .int 0, .int 0, .null, .null, .null]) (C := "ZoneAnswersModel") (T := T_Mo) (N := 21) hx hb hts zi_Mo t_Mo t_Mo_ok hown (hts _ w_1245) (hts _ w_1246) (hts _ w_30) hK hG hS hbase rfl (fun j hj => by rcases (show j = 0 ∨ j = 1 ∨ j = 2 ∨ j = 3 ∨ j = 4 ∨ j = 5 ∨ j = 6 ∨ j = 7 ∨ j = 8 ∨ j = 9 ∨ j = 10 ∨ j = 11 ∨ j = 12 ∨ j = 13 ∨ j = 14 ∨ j = 15 ∨ j = 16 ∨ j = 17 ∨ j = 18 ∨ j = 19 ∨ j = 20 by omega) with rfl | rfl | rfl | rfl | rfl | rfl | rfl | rfl | rfl | rfl | rfl | rfl | rfl | rfl | rfl | rfl | rfl | rfl | rfl | rfl | rfl <;> rfl) (by decide) (by decide) d_La_law_8 (fun q8 H n8 hG hS => ?_)
    obtain ⟨G3, eG3⟩ : ∃ z : zg_G, z = zg_up G4 q8 (.inr (11, [.int 0, .null, .int 0, .null, .null, .int 0, .null, .null, .null, .null, .null, .null, .null, .int 0, .int 0, .null, .int 0, .int 0, .null, .null, .null])) := ⟨_, rfl⟩
    have hG : zP E G3 H := by rw [eG3]; exact hG
    have ne8_q0 : q0 ≠ q8 := zg_fr n8 hXo
    have k4 : G3 q0 = some (.inr (10, [.ref ta, .ref zo, .ref an])) := by rw [eG3, zg_up_ne (zg_fr n8 hXo)]; exact hXo
    have ne8_ta : ta ≠ q8 := zg_fr n8 hT.1
    have k5 : G3 ta = some (.inr (7, [.ref b, .int (nI 0)])) := by rw [eG3, zg_up_ne (zg_fr n8 hT.1)]; exact hT.1
    have ne8_b : b ≠ q8 := zg_fr n8 htb
    have k6 : G3 b = some (.inl (E.2.1 0, tn9, .inl tf9)) := by rw [eG3, zg_up_ne (zg_fr n8 htb)]; exact htb
    have ne8_zo : zo ≠ q8 := zg_fr n8 hZz
    have k7 : G3 zo = some (.inr (9, [.ref la, .ref x, .ref st, .ref sd, .int (0 + 1)])) := by rw [eG3, zg_up_ne (zg_fr n8 hZz)]; exact hZz
    have ne8_da : da ≠ q8 := zg_fr n8 hda
    have k8 : G3 da = some (.inr (0, [.ref d3, .int (nI (([] : List Nat).length + 1)), .int kz9])) := by rw [eG3, zg_up_ne (zg_fr n8 hda)]; exact hda
    have ne8_d3 : d3 ≠ q8 := zg_fr n8 hd3
    have k9 : G3 d3 = some (.inl (E.2.1 3, c9, .inr (.inr (.inr (.inr f9))))) := by rw [eG3, zg_up_ne (zg_fr n8 hd3)]; exact hd3
    have k10 : G3 q8 = some (.inr (11, [.int 0, .null, .int 0, .null, .null, .int 0, .null, .null, .null, .null, .null, .null, .null, .int 0, .int 0, .null, .int 0, .int 0, .null, .null, .null])) := by rw [eG3]; exact zg_up_self _ _ _
    refine lv_dup hx hb d_La_law_11 rfl ?_
    have hF1 : zNew E G3 q0 ta zo an b la x st sd o ol da dx d0 d1 d3 bt s1 s2 s3 r1 r2 r3 := by rw [eG3]; exact hF.keep (S := z0) (zx.nw n8) (fun _ z => z.elim)
    have hGo12 := hG
    refine zk_v (va_runI (As := []) (rest := [.ref q8]) ⟨hx, hb, hml, hown, hts⟩ (t_Mo_init l E G3 q8 k10) (zcI 0 hts w_1247 w_1248 w_30 w_1249 rfl (by decide +kernel) ⟨Nat.le_of_ble_eq_true rfl, Nat.le_of_ble_eq_true rfl⟩) (zc_pre hbase hK hN hQ hG hS) rfl rfl hl.1 rfl (lv_room (Nat.le_of_ble_eq_true rfl)) d_La_law_12 ⟨(by decide), (by decide)⟩) hS (fun G12 H locs hp12 hG hS => ?_)
    obtain ⟨m1, m3, m4, m6, m7, m8, m9, m10, m11, m12, m15, m18, rq, dt, nm1, nm3, nm4, nrq, ndt, hx12, hM⟩ := hp12
    have hF2 : zNew E G12 q0 ta zo an b la x st sd o ol da dx d0 d1 d3 bt s1 s2 s3 r1 r2 r3 := hF1.keep hx12 (fun q z => Or.inr ⟨_, z ▸ k10⟩)
    obtain ⟨hm0, hm1, hm3, hm4, hrq, hdt⟩ := id hM
    have ne_m1_q0 : q0 ≠ m1 := zg_fr nm1 k4
    have ne_m1_ta : ta ≠ m1 := zg_fr nm1 k5
    have ne_m1_b : b ≠ m1 := zg_fr nm1 k6
    have ne_m1_zo : zo ≠ m1 := zg_fr nm1 k7
    have ne_m1_da : da ≠ m1 := zg_fr nm1 k8
    have ne_m1_d3 : d3 ≠ m1 := zg_fr nm1 k9
    have ne_m1_q8 : q8 ≠ m1 := zg_fr nm1 k10
    have ne_m3_q0 : q0 ≠ m3 := zg_fr nm3 k4
    have ne_m3_ta : ta ≠ m3 := zg_fr nm3 k5
    have ne_m3_b : b ≠ m3 := zg_fr nm3 k6
    have ne_m3_zo : zo ≠ m3 := zg_fr nm3 k7
    have ne_m3_da : da ≠ m3 := zg_fr nm3 k8
    have ne_m3_d3 : d3 ≠ m3 := zg_fr nm3 k9
    have ne_m3_q8 : q8 ≠ m3 := zg_fr nm3 k10
    have ne_m4_q0 : q0 ≠ m4 := zg_fr nm4 k4
    have ne_m4_ta : ta ≠ m4 := zg_fr nm4 k5
    have ne_m4_b : b ≠ m4 := zg_fr nm4 k6
    have ne_m4_zo : zo ≠ m4 := zg_fr nm4 k7
    have ne_m4_da : da ≠ m4 := zg_fr nm4 k8
    have ne_m4_d3 : d3 ≠ m4 := zg_fr nm4 k9
    have ne_m4_q8 : q8 ≠ m4 := zg_fr nm4 k10
    have ne_rq_q0 : q0 ≠ rq := zg_fr nrq k4
    have ne_rq_ta : ta ≠ rq := zg_fr nrq k5
    have ne_rq_b : b ≠ rq := zg_fr nrq k6
    have ne_rq_zo : zo ≠ rq := zg_fr nrq k7
    have ne_rq_da : da ≠ rq := zg_fr nrq k8
    have ne_rq_d3 : d3 ≠ rq := zg_fr nrq k9
    have ne_rq_q8 : q8 ≠ rq := zg_fr nrq k10
    have ne_dt_q0 : q0 ≠ dt := zg_fr ndt k4
    have ne_dt_ta : ta ≠ dt := zg_fr ndt k5
    have ne_dt_b : b ≠ dt := zg_fr ndt k6
    have ne_dt_zo : zo ≠ dt := zg_fr ndt k7
    have ne_dt_da : da ≠ dt := zg_fr ndt k8
    have ne_dt_d3 : d3 ≠ dt := zg_fr ndt k9
    have ne_dt_q8 : q8 ≠ dt := zg_fr ndt k10
    have k11 : G12 q0 = some (.inr (10, [.ref ta, .ref zo, .ref an])) := hx12 q0 _ (ne8_q0) k4
    have k12 : G12 ta = some (.inr (7, [.ref b, .int (nI 0)])) := hx12 ta _ (ne8_ta) k5
    have k13 : G12 b = some (.inl (E.2.1 0, tn9, .inl tf9)) := hx12 b _ (ne8_b) k6
    have k14 : G12 zo = some (.inr (9, [.ref la, .ref x, .ref st, .ref sd, .int (0 + 1)])) := hx12 zo _ (ne8_zo) k7
    have k15 : G12 da = some (.inr (0, [.ref d3, .int (nI (([] : List Nat).length + 1)), .int kz9])) := hx12 da _ (ne8_da) k8
    have k16 : G12 d3 = some (.inl (E.2.1 3, c9, .inr (.inr (.inr (.inr f9))))) := hx12 d3 _ (ne8_d3) k9
    refine lv_astore_n (lv' := [(2, .ref q8), (1, .ref q0), (0, .ref sc)]) hx hb d_La_law_15 rfl hl (by decide) rfl (fun ls hl => ?_)
    refine lv_iconst (v := 1) hx hb d_La_law_16 (by decide) ?_
    refine zg_newp (atype := .long) (ty := .long) (N' := 1) (a0 := (1, .inr (.inl (fun _ => 0)))) hx hb (hts _ w_1604) rfl hK hG hS hbase (fun _ => rfl) (by decide) (by decide) (by show _ * _ ≤ _; simp only [componentBytes]; omega) (by decide) (by decide) d_La_law_17 2 rfl (fun _ h => h) (fun q17 H n17 hG hS => ?_)
    obtain ⟨G17, eG17⟩ : ∃ z : zg_G, z = zg_up G12 q17 (.inl (E.2.1 2, 1, .inr (.inl (fun _ => 0)))) := ⟨_, rfl⟩
    have hG : zP E G17 H := by rw [eG17]; exact hG
    have ne17_q0 : q0 ≠ q17 := zg_fr n17 k11
    have k18 : G17 q0 = some (.inr (10, [.ref ta, .ref zo, .ref an])) := by rw [eG17, zg_up_ne (zg_fr n17 k11)]; exact k11
    have ne17_ta : ta ≠ q17 := zg_fr n17 k12
    have k19 : G17 ta = some (.inr (7, [.ref b, .int (nI 0)])) := by rw [eG17, zg_up_ne (zg_fr n17 k12)]; exact k12
    have ne17_b : b ≠ q17 := zg_fr n17 k13
    have k20 : G17 b = some (.inl (E.2.1 0, tn9, .inl tf9)) := by rw [eG17, zg_up_ne (zg_fr n17 k13)]; exact k13
    have ne17_zo : zo ≠ q17 := zg_fr n17 k14
    have k21 : G17 zo = some (.inr (9, [.ref la, .ref x, .ref st, .ref sd, .int (0 + 1)])) := by rw [eG17, zg_up_ne (zg_fr n17 k14)]; exact k14
    have ne17_da : da ≠ q17 := zg_fr n17 k15
    have k22 : G17 da = some (.inr (0, [.ref d3, .int (nI (([] : List Nat).length + 1)), .int kz9])) := by rw [eG17, zg_up_ne (zg_fr n17 k15)]; exact k15
    have ne17_d3 : d3 ≠ q17 := zg_fr n17 k16
    have k23 : G17 d3 = some (.inl (E.2.1 3, c9, .inr (.inr (.inr (.inr f9))))) := by rw [eG17, zg_up_ne (zg_fr n17 k16)]; exact k16
    have ne17_q8 : q8 ≠ q17 := zg_fr n17 hm0
    have k24 : G17 q8 = some (.inr (11, [.int 0, .ref m1, .int (nI 0), .ref m3, .ref m4, .int 1, .ref m6, .ref m7, .ref m8, .ref m9, .ref m10, .ref m11, .ref m12, .int 0, .int 0, .ref m15, .int 0, .int 0, .ref m18, .null, .null])) := by rw [eG17, zg_up_ne (zg_fr n17 hm0)]; exact hm0
    have ne17_m1 : m1 ≠ q17 := zg_fr n17 hm1
    have k25 : G17 m1 = some (.inl (E.2.1 0, 65536, .inl (fun _ => 0))) := by rw [eG17, zg_up_ne (zg_fr n17 hm1)]; exact hm1
    have ne17_m3 : m3 ≠ q17 := zg_fr n17 hm3
    have k26 : G17 m3 = some (.inl (E.2.1 0, 1, .inl (fun _ => 0))) := by rw [eG17, zg_up_ne (zg_fr n17 hm3)]; exact hm3
    have ne17_m4 : m4 ≠ q17 := zg_fr n17 hm4
    have k27 : G17 m4 = some (.inl (E.2.1 4, 2000, .inr (.inr (.inr (.inr (va_up (fun _ => none) 0 (some rq))))))) := by rw [eG17, zg_up_ne (zg_fr n17 hm4)]; exact hm4
    have ne17_rq : rq ≠ q17 := zg_fr n17 hrq
    have k28 : G17 rq = some (.inr (12, [.ref m3, .ref dt, .null, .int 6, .int 0])) := by rw [eG17, zg_up_ne (zg_fr n17 hrq)]; exact hrq
    have ne17_dt : dt ≠ q17 := zg_fr n17 hdt
    have k29 : G17 dt = some (.inl (E.2.1 0, 22, .inl (upd (fun _ => 0) 5 (vp_nar .byte 1)))) := by rw [eG17, zg_up_ne (zg_fr n17 hdt)]; exact hdt
    have k30 : G17 q17 = some (.inl (E.2.1 2, 1, .inr (.inl (fun _ => 0)))) := by rw [eG17]; exact zg_up_self _ _ _
    have hF3 : zNew E G17 q0 ta zo an b la x st sd o ol da dx d0 d1 d3 bt s1 s2 s3 r1 r2 r3 := by rw [eG17]; exact hF2.keep (S := z0) (zx.nw n17) (fun _ z => z.elim)
    refine lv_astore_n (lv' := [(3, .ref q17), (2, .ref q8), (1, .ref q0), (0, .ref sc)]) hx hb d_La_law_19 rfl hl (by decide) rfl (fun ls hl => ?_)
    refine lv_iconst (v := 0) hx hb d_La_law_20 (by decide) ?_
    refine zi_as (y := nI 0) (nI_0.symm) ?_
    refine lv_istore (lv' := [(4, .int (nI 0)), (3, .ref q17), (2, .ref q8), (1, .ref q0), (0, .ref sc)]) hx hb d_La_law_21 hl (by decide) rfl (fun ls hl => ?_)
    refine lv_iload hx hb d_La_law_23 (lv_at hl 0 rfl) ?_
    refine lv_aload_n hx hb d_La_law_25 rfl (lv_at hl 4 rfl) ?_
    refine va_slen hx hb hX hbl hbA hS d_La_law_26 ?_
    refine lv_bipush (v := 6) hx hb d_La_law_27 (by decide) ?_
    refine lv_isub hx hb d_La_law_29 ?_
    refine lv_icmp_gt (tgt := 932) hx hb d_La_law_30 (by decide) (fun c30 => ?_) (fun c30 => ?_)
    · refine lv_iconst (v := 1) hx hb d_La_law_932 (by decide) ?_
      exact va_forget (fun q hq => by rw [← hbE]; exact hS.2.2 q hq) (W.widen (k := 600002) (n := 7302232) (by decide) (by decide) (lw_ret hx hb hr hlocks d_La_law_933))
    · exact absurd (zneg hL6) c30
  · refine zg_new (ci := 10) (fs := [.null, .null, .null]) (C := "ZoneAnswers") (T := T_ZA) (N := 3) hx hb hts zi_ZA t_ZA t_ZA_ok hown (hts _ w_37) (hts _ w_38) (hts _ w_1) hK hG hS hbase rfl (fun j hj => by rcases (show j = 0 ∨ j = 1 ∨ j = 2 by omega) with rfl | rfl | rfl <;> rfl) (by decide) (by decide) d_La_law_0 (fun q0 H n0 hG hS => ?_)
    obtain ⟨G31, eG31⟩ : ∃ z : zg_G, z = zg_up G q0 (.inr (10, [.null, .null, .null])) := ⟨_, rfl⟩
    have hG : zP E G31 H := by rw [eG31]; exact hG
    have k32 : G31 q0 = some (.inr (10, [.null, .null, .null])) := by rw [eG31]; exact zg_up_self _ _ _
    refine lv_dup hx hb d_La_law_3 rfl ?_
    have hGo4 := hG
    refine zk_v (va_runI (As := []) (rest := [.ref q0]) ⟨hx, hb, hml, hown, hts⟩ (t_ZA_init l E G31 q0 k32) (zcI 0 hts w_39 w_40 w_1 w_41 rfl (by decide +kernel) ⟨Nat.le_of_ble_eq_true rfl, Nat.le_of_ble_eq_true rfl⟩) (zc_pre hbase hK hN hQ hG hS) rfl rfl hl.1 rfl (lv_room (Nat.le_of_ble_eq_true rfl)) d_La_law_4 ⟨(by decide), (by decide)⟩) hS (fun G4 H locs hp4 hG hS => ?_)
    obtain ⟨ta, zo, an, b, la, x, st, sd, o, ol, da, dx, d0, d1, d3, bt, s1, s2, s3, r1, r2, r3, hx4, hF⟩ := hp4
    obtain ⟨hXo, hT, hZz, hLo, ho, hLs, hst, hLd, hdx, hsd, hnx, hbt, han, hs1, hs2, hs3, hr1, hr2, hr3⟩ := id hF
    obtain ⟨tn9, tf9, htb⟩ := hF.tp
    obtain ⟨kz9, c9, f9, hda, hd3, -⟩ := hLd.un
    refine lv_astore_n (lv' := [(1, .ref q0), (0, .ref sc)]) hx hb d_La_law_7 rfl hl (by decide) rfl (fun ls hl => ?_)
    refine zg_new (ci := 11) (fs := [.int 0, .null, .int 0, .null, .null, .int 0, .null, .null, .null, .null, .null, .null, .null, .int 0, .int 0, .null, .int 0, .int 0, .null, .null, .null]) (C := "ZoneAnswersModel") (T := T_Mo) (N := 21) hx hb hts zi_Mo t_Mo t_Mo_ok hown (hts _ w_1245) (hts _ w_1246) (hts _ w_30) hK hG hS hbase rfl (fun j hj => by rcases (show j = 0 ∨ j = 1 ∨ j = 2 ∨ j = 3 ∨ j = 4 ∨ j = 5 ∨ j = 6 ∨ j = 7 ∨ j = 8 ∨ j = 9 ∨ j = 10 ∨ j = 11 ∨ j = 12 ∨ j = 13 ∨ j = 14 ∨ j = 15 ∨ j = 16 ∨ j = 17 ∨ j = 18 ∨ j = 19 ∨ j = 20 by omega) with rfl | rfl | rfl | rfl | rfl | rfl | rfl | rfl | rfl | rfl | rfl | rfl | rfl | rfl | rfl | rfl | rfl | rfl | rfl | rfl | rfl <;> rfl) (by decide) (by decide) d_La_law_8 (fun q8 H n8 hG hS => ?_)
    obtain ⟨G33, eG33⟩ : ∃ z : zg_G, z = zg_up G4 q8 (.inr (11, [.int 0, .null, .int 0, .null, .null, .int 0, .null, .null, .null, .null, .null, .null, .null, .int 0, .int 0, .null, .int 0, .int 0, .null, .null, .null])) := ⟨_, rfl⟩
    have hG : zP E G33 H := by rw [eG33]; exact hG
    have ne8_q0 : q0 ≠ q8 := zg_fr n8 hXo
    have k34 : G33 q0 = some (.inr (10, [.ref ta, .ref zo, .ref an])) := by rw [eG33, zg_up_ne (zg_fr n8 hXo)]; exact hXo
    have ne8_ta : ta ≠ q8 := zg_fr n8 hT.1
    have k35 : G33 ta = some (.inr (7, [.ref b, .int (nI 0)])) := by rw [eG33, zg_up_ne (zg_fr n8 hT.1)]; exact hT.1
    have ne8_b : b ≠ q8 := zg_fr n8 htb
    have k36 : G33 b = some (.inl (E.2.1 0, tn9, .inl tf9)) := by rw [eG33, zg_up_ne (zg_fr n8 htb)]; exact htb
    have ne8_zo : zo ≠ q8 := zg_fr n8 hZz
    have k37 : G33 zo = some (.inr (9, [.ref la, .ref x, .ref st, .ref sd, .int (0 + 1)])) := by rw [eG33, zg_up_ne (zg_fr n8 hZz)]; exact hZz
    have ne8_da : da ≠ q8 := zg_fr n8 hda
    have k38 : G33 da = some (.inr (0, [.ref d3, .int (nI (([] : List Nat).length + 1)), .int kz9])) := by rw [eG33, zg_up_ne (zg_fr n8 hda)]; exact hda
    have ne8_d3 : d3 ≠ q8 := zg_fr n8 hd3
    have k39 : G33 d3 = some (.inl (E.2.1 3, c9, .inr (.inr (.inr (.inr f9))))) := by rw [eG33, zg_up_ne (zg_fr n8 hd3)]; exact hd3
    have k40 : G33 q8 = some (.inr (11, [.int 0, .null, .int 0, .null, .null, .int 0, .null, .null, .null, .null, .null, .null, .null, .int 0, .int 0, .null, .int 0, .int 0, .null, .null, .null])) := by rw [eG33]; exact zg_up_self _ _ _
    refine lv_dup hx hb d_La_law_11 rfl ?_
    have hF1 : zNew E G33 q0 ta zo an b la x st sd o ol da dx d0 d1 d3 bt s1 s2 s3 r1 r2 r3 := by rw [eG33]; exact hF.keep (S := z0) (zx.nw n8) (fun _ z => z.elim)
    have hGo12 := hG
    refine zk_v (va_runI (As := []) (rest := [.ref q8]) ⟨hx, hb, hml, hown, hts⟩ (t_Mo_init l E G33 q8 k40) (zcI 0 hts w_1247 w_1248 w_30 w_1249 rfl (by decide +kernel) ⟨Nat.le_of_ble_eq_true rfl, Nat.le_of_ble_eq_true rfl⟩) (zc_pre hbase hK hN hQ hG hS) rfl rfl hl.1 rfl (lv_room (Nat.le_of_ble_eq_true rfl)) d_La_law_12 ⟨(by decide), (by decide)⟩) hS (fun G12 H locs hp12 hG hS => ?_)
    obtain ⟨m1, m3, m4, m6, m7, m8, m9, m10, m11, m12, m15, m18, rq, dt, nm1, nm3, nm4, nrq, ndt, hx12, hM⟩ := hp12
    have hF2 : zNew E G12 q0 ta zo an b la x st sd o ol da dx d0 d1 d3 bt s1 s2 s3 r1 r2 r3 := hF1.keep hx12 (fun q z => Or.inr ⟨_, z ▸ k40⟩)
    obtain ⟨hm0, hm1, hm3, hm4, hrq, hdt⟩ := id hM
    have ne_m1_q0 : q0 ≠ m1 := zg_fr nm1 k34
    have ne_m1_ta : ta ≠ m1 := zg_fr nm1 k35
    have ne_m1_b : b ≠ m1 := zg_fr nm1 k36
    have ne_m1_zo : zo ≠ m1 := zg_fr nm1 k37
    have ne_m1_da : da ≠ m1 := zg_fr nm1 k38
    have ne_m1_d3 : d3 ≠ m1 := zg_fr nm1 k39
    have ne_m1_q8 : q8 ≠ m1 := zg_fr nm1 k40
    have ne_m3_q0 : q0 ≠ m3 := zg_fr nm3 k34
    have ne_m3_ta : ta ≠ m3 := zg_fr nm3 k35
    have ne_m3_b : b ≠ m3 := zg_fr nm3 k36
    have ne_m3_zo : zo ≠ m3 := zg_fr nm3 k37
    have ne_m3_da : da ≠ m3 := zg_fr nm3 k38
    have ne_m3_d3 : d3 ≠ m3 := zg_fr nm3 k39
    have ne_m3_q8 : q8 ≠ m3 := zg_fr nm3 k40
    have ne_m4_q0 : q0 ≠ m4 := zg_fr nm4 k34
    have ne_m4_ta : ta ≠ m4 := zg_fr nm4 k35
    have ne_m4_b : b ≠ m4 := zg_fr nm4 k36
    have ne_m4_zo : zo ≠ m4 := zg_fr nm4 k37
    have ne_m4_da : da ≠ m4 := zg_fr nm4 k38
    have ne_m4_d3 : d3 ≠ m4 := zg_fr nm4 k39
    have ne_m4_q8 : q8 ≠ m4 := zg_fr nm4 k40
    have ne_rq_q0 : q0 ≠ rq := zg_fr nrq k34
    have ne_rq_ta : ta ≠ rq := zg_fr nrq k35
    have ne_rq_b : b ≠ rq := zg_fr nrq k36
    have ne_rq_zo : zo ≠ rq := zg_fr nrq k37
    have ne_rq_da : da ≠ rq := zg_fr nrq k38
    have ne_rq_d3 : d3 ≠ rq := zg_fr nrq k39
    have ne_rq_q8 : q8 ≠ rq := zg_fr nrq k40
    have ne_dt_q0 : q0 ≠ dt := zg_fr ndt k34
    have ne_dt_ta : ta ≠ dt := zg_fr ndt k35
    have ne_dt_b : b ≠ dt := zg_fr ndt k36
    have ne_dt_zo : zo ≠ dt := zg_fr ndt k37
    have ne_dt_da : da ≠ dt := zg_fr ndt k38
    have ne_dt_d3 : d3 ≠ dt := zg_fr ndt k39
    have ne_dt_q8 : q8 ≠ dt := zg_fr ndt k40
    have k41 : G12 q0 = some (.inr (10, [.ref ta, .ref zo, .ref an])) := hx12 q0 _ (ne8_q0) k34
    have k42 : G12 ta = some (.inr (7, [.ref b, .int (nI 0)])) := hx12 ta _ (ne8_ta) k35
    have k43 : G12 b = some (.inl (E.2.1 0, tn9, .inl tf9)) := hx12 b _ (ne8_b) k36
    have k44 : G12 zo = some (.inr (9, [.ref la, .ref x, .ref st, .ref sd, .int (0 + 1)])) := hx12 zo _ (ne8_zo) k37
    have k45 : G12 da = some (.inr (0, [.ref d3, .int (nI (([] : List Nat).length + 1)), .int kz9])) := hx12 da _ (ne8_da) k38
    have k46 : G12 d3 = some (.inl (E.2.1 3, c9, .inr (.inr (.inr (.inr f9))))) := hx12 d3 _ (ne8_d3) k39
    refine lv_astore_n (lv' := [(2, .ref q8), (1, .ref q0), (0, .ref sc)]) hx hb d_La_law_15 rfl hl (by decide) rfl (fun ls hl => ?_)
    refine lv_iconst (v := 1) hx hb d_La_law_16 (by decide) ?_
    refine zg_newp (atype := .long) (ty := .long) (N' := 1) (a0 := (1, .inr (.inl (fun _ => 0)))) hx hb (hts _ w_1604) rfl hK hG hS hbase (fun _ => rfl) (by decide) (by decide) (by show _ * _ ≤ _; simp only [componentBytes]; omega) (by decide) (by decide) d_La_law_17 2 rfl (fun _ h => h) (fun q17 H n17 hG hS => ?_)
    obtain ⟨G47, eG47⟩ : ∃ z : zg_G, z = zg_up G12 q17 (.inl (E.2.1 2, 1, .inr (.inl (fun _ => 0)))) := ⟨_, rfl⟩
    have hG : zP E G47 H := by rw [eG47]; exact hG
    have ne17_q0 : q0 ≠ q17 := zg_fr n17 k41
    have k48 : G47 q0 = some (.inr (10, [.ref ta, .ref zo, .ref an])) := by rw [eG47, zg_up_ne (zg_fr n17 k41)]; exact k41
    have ne17_ta : ta ≠ q17 := zg_fr n17 k42
    have k49 : G47 ta = some (.inr (7, [.ref b, .int (nI 0)])) := by rw [eG47, zg_up_ne (zg_fr n17 k42)]; exact k42
    have ne17_b : b ≠ q17 := zg_fr n17 k43
    have k50 : G47 b = some (.inl (E.2.1 0, tn9, .inl tf9)) := by rw [eG47, zg_up_ne (zg_fr n17 k43)]; exact k43
    have ne17_zo : zo ≠ q17 := zg_fr n17 k44
    have k51 : G47 zo = some (.inr (9, [.ref la, .ref x, .ref st, .ref sd, .int (0 + 1)])) := by rw [eG47, zg_up_ne (zg_fr n17 k44)]; exact k44
    have ne17_da : da ≠ q17 := zg_fr n17 k45
    have k52 : G47 da = some (.inr (0, [.ref d3, .int (nI (([] : List Nat).length + 1)), .int kz9])) := by rw [eG47, zg_up_ne (zg_fr n17 k45)]; exact k45
    have ne17_d3 : d3 ≠ q17 := zg_fr n17 k46
    have k53 : G47 d3 = some (.inl (E.2.1 3, c9, .inr (.inr (.inr (.inr f9))))) := by rw [eG47, zg_up_ne (zg_fr n17 k46)]; exact k46
    have ne17_q8 : q8 ≠ q17 := zg_fr n17 hm0
    have k54 : G47 q8 = some (.inr (11, [.int 0, .ref m1, .int (nI 0), .ref m3, .ref m4, .int 1, .ref m6, .ref m7, .ref m8, .ref m9, .ref m10, .ref m11, .ref m12, .int 0, .int 0, .ref m15, .int 0, .int 0, .ref m18, .null, .null])) := by rw [eG47, zg_up_ne (zg_fr n17 hm0)]; exact hm0
    have ne17_m1 : m1 ≠ q17 := zg_fr n17 hm1
    have k55 : G47 m1 = some (.inl (E.2.1 0, 65536, .inl (fun _ => 0))) := by rw [eG47, zg_up_ne (zg_fr n17 hm1)]; exact hm1
    have ne17_m3 : m3 ≠ q17 := zg_fr n17 hm3
    have k56 : G47 m3 = some (.inl (E.2.1 0, 1, .inl (fun _ => 0))) := by rw [eG47, zg_up_ne (zg_fr n17 hm3)]; exact hm3
    have ne17_m4 : m4 ≠ q17 := zg_fr n17 hm4
    have k57 : G47 m4 = some (.inl (E.2.1 4, 2000, .inr (.inr (.inr (.inr (va_up (fun _ => none) 0 (some rq))))))) := by rw [eG47, zg_up_ne (zg_fr n17 hm4)]; exact hm4
    have ne17_rq : rq ≠ q17 := zg_fr n17 hrq
    have k58 : G47 rq = some (.inr (12, [.ref m3, .ref dt, .null, .int 6, .int 0])) := by rw [eG47, zg_up_ne (zg_fr n17 hrq)]; exact hrq
    have ne17_dt : dt ≠ q17 := zg_fr n17 hdt
    have k59 : G47 dt = some (.inl (E.2.1 0, 22, .inl (upd (fun _ => 0) 5 (vp_nar .byte 1)))) := by rw [eG47, zg_up_ne (zg_fr n17 hdt)]; exact hdt
    have k60 : G47 q17 = some (.inl (E.2.1 2, 1, .inr (.inl (fun _ => 0)))) := by rw [eG47]; exact zg_up_self _ _ _
    have hF3 : zNew E G47 q0 ta zo an b la x st sd o ol da dx d0 d1 d3 bt s1 s2 s3 r1 r2 r3 := by rw [eG47]; exact hF2.keep (S := z0) (zx.nw n17) (fun _ z => z.elim)
    refine lv_astore_n (lv' := [(3, .ref q17), (2, .ref q8), (1, .ref q0), (0, .ref sc)]) hx hb d_La_law_19 rfl hl (by decide) rfl (fun ls hl => ?_)
    refine lv_iconst (v := 0) hx hb d_La_law_20 (by decide) ?_
    refine zi_as (y := nI 0) (nI_0.symm) ?_
    refine lv_istore (lv' := [(4, .int (nI 0)), (3, .ref q17), (2, .ref q8), (1, .ref q0), (0, .ref sc)]) hx hb d_La_law_21 hl (by decide) rfl (fun ls hl => ?_)
    refine lv_iload hx hb d_La_law_23 (lv_at hl 0 rfl) ?_
    refine lv_aload_n hx hb d_La_law_25 rfl (lv_at hl 4 rfl) ?_
    refine va_slen hx hb hX hbl hbA hS d_La_law_26 ?_
    refine lv_bipush (v := 6) hx hb d_La_law_27 (by decide) ?_
    refine lv_isub hx hb d_La_law_29 ?_
    refine zi_as (y := 0) (by decide) ?_
    refine lv_icmp_gt (tgt := 932) hx hb d_La_law_30 (by decide) (fun c30 => ?_) (fun c30 => ?_)
    · have b30 : 0 < 0 := (nI_ltI (a := 0) (b := 0) (by omega) (by omega)).mp c30
      exact absurd b30 (by decide)
    · have b30 : ¬ 0 < 0 := fun q => c30 ((nI_ltI (a := 0) (b := 0) (by omega) (by omega)).mpr q)
      refine lv_aload_n hx hb d_La_law_33 rfl (lv_at hl 4 rfl) ?_
      refine lv_iload hx hb d_La_law_34 (lv_at hl 0 rfl) ?_
      refine va_sld hx hb hX hbl hbA hS (vp_in_nI (by omega) (by omega)) d_La_law_36 ?_
      refine zi_as (y := xs 0) (by rw [zi_n _ (by omega)]) ?_
      refine lv_bipush (v := 15) hx hb d_La_law_37 (by decide) ?_
      refine lv_iand hx hb d_La_law_39 ?_
      by_cases s40_0 : ((xs 0) &&& 15) = 0
      · refine lv_tableIn (off := 68) (tgt := 108) hx hb d_La_law_40 (by rw [s40_0]; decide) (by rw [s40_0]; decide) (by rw [s40_0]; rfl) (by decide) ?_
        refine lv_aload_n hx hb d_La_law_108 rfl (lv_at hl 3 rfl) ?_
        refine lv_aload_n hx hb d_La_law_109 rfl (lv_at hl 4 rfl) ?_
        refine lv_iload hx hb d_La_law_110 (lv_at hl 0 rfl) ?_
        refine lv_iconst (v := 1) hx hb d_La_law_112 (by decide) ?_
        refine lv_iadd hx hb d_La_law_113 ?_
        refine zi_as (y := nI (0 + 1)) (nI_add 0 1) ?_
        refine va_sld hx hb hX hbl hbA hS (vp_in_nI (by omega) (by omega)) d_La_law_114 ?_
        refine zi_as (y := xs (0 + 1)) (by rw [zi_n _ (by omega)]) ?_
        refine lv_aload_n hx hb d_La_law_115 rfl (lv_at hl 4 rfl) ?_
        refine lv_iload hx hb d_La_law_116 (lv_at hl 0 rfl) ?_
        refine lv_iconst (v := 2) hx hb d_La_law_118 (by decide) ?_
        refine lv_iadd hx hb d_La_law_119 ?_
        refine zi_as (y := nI (0 + 2)) (nI_add 0 2) ?_
        refine va_sld hx hb hX hbl hbA hS (vp_in_nI (by omega) (by omega)) d_La_law_120 ?_
        refine zi_as (y := xs (0 + 2)) (by rw [zi_n _ (by omega)]) ?_
        refine lv_aload_n hx hb d_La_law_121 rfl (lv_at hl 4 rfl) ?_
        refine lv_iload hx hb d_La_law_122 (lv_at hl 0 rfl) ?_
        refine lv_iconst (v := 3) hx hb d_La_law_124 (by decide) ?_
        refine lv_iadd hx hb d_La_law_125 ?_
        refine zi_as (y := nI (0 + 3)) (nI_add 0 3) ?_
        refine va_sld hx hb hX hbl hbA hS (vp_in_nI (by omega) (by omega)) d_La_law_126 ?_
        refine zi_as (y := xs (0 + 3)) (by rw [zi_n _ (by omega)]) ?_
        refine lv_aload_n hx hb d_La_law_127 rfl (lv_at hl 4 rfl) ?_
        refine lv_iload hx hb d_La_law_128 (lv_at hl 0 rfl) ?_
        refine lv_iconst (v := 4) hx hb d_La_law_130 (by decide) ?_
        refine lv_iadd hx hb d_La_law_131 ?_
        refine zi_as (y := nI (0 + 4)) (nI_add 0 4) ?_
        refine va_sld hx hb hX hbl hbA hS (vp_in_nI (by omega) (by omega)) d_La_law_132 ?_
        refine zi_as (y := xs (0 + 4)) (by rw [zi_n _ (by omega)]) ?_
        refine lv_aload_n hx hb d_La_law_133 rfl (lv_at hl 4 rfl) ?_
        refine lv_iload hx hb d_La_law_134 (lv_at hl 0 rfl) ?_
        refine lv_iconst (v := 5) hx hb d_La_law_136 (by decide) ?_
        refine lv_iadd hx hb d_La_law_137 ?_
        refine zi_as (y := nI (0 + 5)) (nI_add 0 5) ?_
        refine va_sld hx hb hX hbl hbA hS (vp_in_nI (by omega) (by omega)) d_La_law_138 ?_
        refine zi_as (y := xs (0 + 5)) (by rw [zi_n _ (by omega)]) ?_
        refine lv_aload_n hx hb d_La_law_139 rfl (lv_at hl 1 rfl) ?_
        have hGo140 := hG
        refine zk_i (zl_runS (n := 7) (As := [.ref q0, .int (xs (0 + 1)), .int (xs (0 + 2)), .int (xs (0 + 3)), .int (xs (0 + 4)), .int (xs (0 + 5)), .ref q17]) (rest := []) ⟨hx, hb, hml, hown, hts⟩ (t_La_feed_f l hoff E G47 q0 ta zo an b la x st sd o ol da dx d0 d1 d3 bt s1 s2 s3 r1 r2 r3 hF3 q17 (fun _ => 0) k60 (xs (0 + 1)) (xs (0 + 2)) (xs (0 + 3)) (xs (0 + 4)) (xs (0 + 5))) w_765 w_766 w_0 w_767 (by decide +kernel) ⟨Nat.le_of_ble_eq_true rfl, Nat.le_of_ble_eq_true rfl⟩ (zc_pre hbase hK hN hQ hG hS) rfl rfl hl.1 rfl (lv_room (Nat.le_of_ble_eq_true rfl)) d_La_law_140 ⟨(by decide), (by decide)⟩) hS (fun r140 G140 H locs hp140 hG hS => ?_)
        obtain ⟨er, hx140, f2, ho2, e2⟩ := hp140
        refine zi_as (y := 0) er ?_
        have hM4 : zMod E G140 q8 m1 m3 m4 m6 m7 m8 m9 m10 m11 m12 m15 m18 rq dt := zMod.keep (show zMod E G47 q8 m1 m3 m4 m6 m7 m8 m9 m10 m11 m12 m15 m18 rq dt from ⟨k54, k55, k56, k57, k58, k59⟩) hx140 (fun z => z.elim (ne17_q8) (fun z => z.elim (Ne.symm ne8_ta) (Ne.symm ne8_b))) (fun z => z.elim (ne17_m1) (fun z => z.elim (Ne.symm ne_m1_ta) (Ne.symm ne_m1_b))) (fun z => z.elim (ne17_m3) (fun z => z.elim (Ne.symm ne_m3_ta) (Ne.symm ne_m3_b))) (fun z => z.elim (ne17_m4) (fun z => z.elim (Ne.symm ne_m4_ta) (Ne.symm ne_m4_b))) (fun z => z.elim (ne17_rq) (fun z => z.elim (Ne.symm ne_rq_ta) (Ne.symm ne_rq_b))) (fun z => z.elim (ne17_dt) (fun z => z.elim (Ne.symm ne_dt_ta) (Ne.symm ne_dt_b)))
        obtain ⟨km0, km1, km3, km4, krq, kdt⟩ := id hM4
        refine lv_istore (lv' := [(5, .int 0), (4, .int (nI 0)), (3, .ref q17), (2, .ref q8), (1, .ref q0), (0, .ref sc)]) hx hb d_La_law_143 hl (by decide) rfl (fun ls hl => ?_)
        refine lv_aload_n hx hb d_La_law_145 rfl (lv_at hl 3 rfl) ?_
        refine lv_aload_n hx hb d_La_law_146 rfl (lv_at hl 5 rfl) ?_
        refine lv_iload hx hb d_La_law_147 (lv_at hl 1 rfl) ?_
        refine lv_iconst (v := 1) hx hb d_La_law_149 (by decide) ?_
        refine lv_iadd hx hb d_La_law_150 ?_
        refine zi_as (y := nI (0 + 1)) (nI_add 0 1) ?_
        refine va_sld hx hb hX hbl hbA hS (vp_in_nI (by omega) (by omega)) d_La_law_151 ?_
        refine zi_as (y := xs (0 + 1)) (by rw [zi_n _ (by omega)]) ?_
        refine lv_aload_n hx hb d_La_law_152 rfl (lv_at hl 5 rfl) ?_
        refine lv_iload hx hb d_La_law_153 (lv_at hl 1 rfl) ?_
        refine lv_iconst (v := 2) hx hb d_La_law_155 (by decide) ?_
        refine lv_iadd hx hb d_La_law_156 ?_
        refine zi_as (y := nI (0 + 2)) (nI_add 0 2) ?_
        refine va_sld hx hb hX hbl hbA hS (vp_in_nI (by omega) (by omega)) d_La_law_157 ?_
        refine zi_as (y := xs (0 + 2)) (by rw [zi_n _ (by omega)]) ?_
        refine lv_aload_n hx hb d_La_law_158 rfl (lv_at hl 5 rfl) ?_
        refine lv_iload hx hb d_La_law_159 (lv_at hl 1 rfl) ?_
        refine lv_iconst (v := 3) hx hb d_La_law_161 (by decide) ?_
        refine lv_iadd hx hb d_La_law_162 ?_
        refine zi_as (y := nI (0 + 3)) (nI_add 0 3) ?_
        refine va_sld hx hb hX hbl hbA hS (vp_in_nI (by omega) (by omega)) d_La_law_163 ?_
        refine zi_as (y := xs (0 + 3)) (by rw [zi_n _ (by omega)]) ?_
        refine lv_aload_n hx hb d_La_law_164 rfl (lv_at hl 5 rfl) ?_
        refine lv_iload hx hb d_La_law_165 (lv_at hl 1 rfl) ?_
        refine lv_iconst (v := 4) hx hb d_La_law_167 (by decide) ?_
        refine lv_iadd hx hb d_La_law_168 ?_
        refine zi_as (y := nI (0 + 4)) (nI_add 0 4) ?_
        refine va_sld hx hb hX hbl hbA hS (vp_in_nI (by omega) (by omega)) d_La_law_169 ?_
        refine zi_as (y := xs (0 + 4)) (by rw [zi_n _ (by omega)]) ?_
        refine lv_aload_n hx hb d_La_law_170 rfl (lv_at hl 5 rfl) ?_
        refine lv_iload hx hb d_La_law_171 (lv_at hl 1 rfl) ?_
        refine lv_iconst (v := 5) hx hb d_La_law_173 (by decide) ?_
        refine lv_iadd hx hb d_La_law_174 ?_
        refine zi_as (y := nI (0 + 5)) (nI_add 0 5) ?_
        refine va_sld hx hb hX hbl hbA hS (vp_in_nI (by omega) (by omega)) d_La_law_175 ?_
        refine zi_as (y := xs (0 + 5)) (by rw [zi_n _ (by omega)]) ?_
        have hGo176 := hG
        refine zk_i (va_runV (As := [.int (xs (0 + 1)), .int (xs (0 + 2)), .int (xs (0 + 3)), .int (xs (0 + 4)), .int (xs (0 + 5))]) (rest := []) ⟨hx, hb, hml, hown, hts⟩ (t_Mo_feed l E G140 0 q8 m1 m3 m4 m6 m7 m8 m9 m10 m11 m12 m15 m18 0 1 0 0 0 0 .null .null km0 (fun _ => 0) km1 zf_fit0 (by decide) (xs (0 + 1)) (xs (0 + 2)) (xs (0 + 3)) (xs (0 + 4)) (xs (0 + 5))) (zcV 5 hts w_1349 w_1350 w_1351 w_30 w_1352 (by decide +kernel) ⟨Nat.le_of_ble_eq_true rfl, Nat.le_of_ble_eq_true rfl⟩) (zc_preV hbase hK hN hQ hG hS km0 rfl) rfl rfl hl.1 rfl (lv_room (Nat.le_of_ble_eq_true rfl)) d_La_law_176 ⟨(by decide), (by decide)⟩) hS (fun r176 G176 H locs hp176 hG hS => ?_)
        rcases hp176 with ⟨q9, -⟩ | ⟨-, er2, hx176, hk176, -⟩
        · exact absurd q9 (by decide)
        refine zi_as (y := nI 20) er2 ?_
        have ko : G176 q17 = some (.inl (E.2.1 2, 1, .inr (.inl f2))) := hx176 _ _ (fun z => z.elim (Ne.symm ne17_q8) (Ne.symm ne17_m1)) ho2
        refine lv_istore (lv' := [(6, .int (nI 20)), (5, .int 0), (4, .int (nI 0)), (3, .ref q17), (2, .ref q8), (1, .ref q0), (0, .ref sc)]) hx hb d_La_law_179 hl (by decide) rfl (fun ls hl => ?_)
        refine lv_aload_n hx hb d_La_law_181 rfl (lv_at hl 4 rfl) ?_
        refine zk_i (va_runV (As := []) (rest := []) ⟨hx, hb, hml, hown, hts⟩ (t_Mo_thrown l E G176 q8 m1 m3 m4 m6 m7 m8 m9 m10 m11 m12 m15 m18 0 (nI 20) 1 0 0 0 0 .null .null hk176) (zcV 0 hts w_1345 w_1346 w_1347 w_30 w_1348 (by decide +kernel) ⟨Nat.le_of_ble_eq_true rfl, Nat.le_of_ble_eq_true rfl⟩) (zc_preV hbase hK hN hQ hG hS hk176 rfl) rfl rfl hl.1 rfl (lv_room (Nat.le_of_ble_eq_true rfl)) d_La_law_182 ⟨(by decide), (by decide)⟩) hS (fun r182 G182 H locs hp182 hG hS => ?_)
        have hG : zP E G176 H := hp182.2 ▸ hG
        refine zi_as (y := 0) hp182.1 ?_
        refine lv_iload hx hb d_La_law_185 (lv_at hl 1 rfl) ?_
        refine lv_icmp_eq (tgt := 192) hx hb d_La_law_187 (by decide) (fun c187 => ?_) (fun c187 => ?_)
        · have b187 : 0 = 0 := (nI_eq (a := 0) (b := 0) (by omega) (by omega)).mp c187
          refine lv_iload hx hb d_La_law_192 (lv_at hl 1 rfl) ?_
          refine lv_if_ne (tgt := 209) hx hb d_La_law_194 (by decide) (fun c194 => ?_) (fun c194 => ?_)
          · have b194 : ¬ 0 = 0 := fun q => c194 ((nI_eq (a := 0) (b := 0) (by omega) (by omega)).mpr q)
            exact absurd b194 (by decide)
          · have b194 : 0 = 0 := (nI_eq (a := 0) (b := 0) (by omega) (by omega)).mp c194
            refine lv_aload_n hx hb d_La_law_197 rfl (lv_at hl 3 rfl) ?_
            refine lv_iconst (v := 0) hx hb d_La_law_198 (by decide) ?_
            refine zi_as (y := nI 0) (nI_0.symm) ?_
            refine zg_lald hx hb hK hG 2 ko rfl (vp_in_nI (by omega) (by omega)) d_La_law_199 ?_
            refine zl_as (y := (nI 20).toInt64) (by rw [zi_n 0 (by decide)]; exact e2) ?_
            refine lv_iload hx hb d_La_law_200 (lv_at hl 0 rfl) ?_
            refine lv_i2l hx hb d_La_law_202 rfl ?_
            refine W.lcmp hx hb d_La_law_203 ?_
            refine zi_as (y := 0) (zcmp0 _) ?_
            refine lv_if_eq (tgt := 209) hx hb d_La_law_204 (by decide) (fun c204 => ?_) (fun c204 => ?_)
            · have b204 : 0 = 0 := (nI_eq (a := 0) (b := 0) (by omega) (by omega)).mp c204
              refine lv_goto (tgt := 926) hx hb d_La_law_209 (by decide) ?_
              refine lv_iinc (v := nI (0 + 6)) (lv' := [(4, .int (nI (0 + 6))), (6, .int (nI 20)), (5, .int 0), (3, .ref q17), (2, .ref q8), (1, .ref q0), (0, .ref sc)]) hx hb d_La_law_926 hl (k := 2) rfl (nI_add 0 6) (by decide) rfl (fun ls hl => ?_)
              refine lv_goto (tgt := 23) hx hb d_La_law_929 (by decide) ?_
              refine lv_iload hx hb d_La_law_23 (lv_at hl 0 rfl) ?_
              refine lv_aload_n hx hb d_La_law_25 rfl (lv_at hl 6 rfl) ?_
              refine va_slen hx hb hX hbl hbA hS d_La_law_26 ?_
              refine lv_bipush (v := 6) hx hb d_La_law_27 (by decide) ?_
              refine lv_isub hx hb d_La_law_29 ?_
              refine zi_as (y := 0) (by decide) ?_
              refine lv_icmp_gt (tgt := 932) hx hb d_La_law_30 (by decide) (fun c30 => ?_) (fun c30 => ?_)
              · have b30 : 0 < (0 + 6) := (nI_ltI (a := 0) (b := (0 + 6)) (by omega) (by omega)).mp c30
                refine lv_iconst (v := 1) hx hb d_La_law_932 (by decide) ?_
                exact va_forget (fun q hq => by rw [← hbE]; exact hS.2.2 q hq) (W.widen (k := 600002) (n := 7302232) (by decide) (by decide) (lw_ret hx hb hr hlocks d_La_law_933))
              · have b30 : ¬ 0 < (0 + 6) := fun q => c30 ((nI_ltI (a := 0) (b := (0 + 6)) (by omega) (by omega)).mpr q)
                exact absurd b30 (by decide)
            · have b204 : ¬ 0 = 0 := fun q => c204 ((nI_eq (a := 0) (b := 0) (by omega) (by omega)).mpr q)
              exact absurd b204 (by decide)
        · have b187 : ¬ 0 = 0 := fun q => c187 ((nI_eq (a := 0) (b := 0) (by omega) (by omega)).mpr q)
          exact absurd b187 (by decide)
      by_cases s40_1 : ((xs 0) &&& 15) = 1
      · refine lv_tableIn (off := 172) (tgt := 212) hx hb d_La_law_40 (by rw [s40_1]; decide) (by rw [s40_1]; decide) (by rw [s40_1]; rfl) (by decide) ?_
        refine lv_aload_n hx hb d_La_law_212 rfl (lv_at hl 3 rfl) ?_
        refine lv_aload_n hx hb d_La_law_213 rfl (lv_at hl 4 rfl) ?_
        refine lv_iload hx hb d_La_law_214 (lv_at hl 0 rfl) ?_
        refine lv_iconst (v := 1) hx hb d_La_law_216 (by decide) ?_
        refine lv_iadd hx hb d_La_law_217 ?_
        refine zi_as (y := nI (0 + 1)) (nI_add 0 1) ?_
        refine va_sld hx hb hX hbl hbA hS (vp_in_nI (by omega) (by omega)) d_La_law_218 ?_
        refine zi_as (y := xs (0 + 1)) (by rw [zi_n _ (by omega)]) ?_
        refine lv_aload_n hx hb d_La_law_219 rfl (lv_at hl 1 rfl) ?_
        have hGo220 := hG
        refine zk_i (zl_runS (n := 3) (As := [.ref q0, .int (xs (0 + 1)), .ref q17]) (rest := []) ⟨hx, hb, hml, hown, hts⟩ (t_La_end_f l hoff E G47 q0 ta zo an b la x st sd o ol da dx d0 d1 d3 bt s1 s2 s3 r1 r2 r3 hF3 q17 (fun _ => 0) k60 (xs (0 + 1))) w_805 w_806 w_0 w_807 (by decide +kernel) ⟨Nat.le_of_ble_eq_true rfl, Nat.le_of_ble_eq_true rfl⟩ (zc_pre hbase hK hN hQ hG hS) rfl rfl hl.1 rfl (lv_room (Nat.le_of_ble_eq_true rfl)) d_La_law_220 ⟨(by decide), (by decide)⟩) hS (fun r220 G220 H locs hp220 hG hS => ?_)
        rcases hp220 with ⟨er, hcl, hx220, f2, ho2, e2⟩ | ⟨er, hcl, hx220, f2, ho2⟩
        · refine zi_as (y := 0) er ?_
          have hM4 : zMod E G220 q8 m1 m3 m4 m6 m7 m8 m9 m10 m11 m12 m15 m18 rq dt := zMod.keep (show zMod E G47 q8 m1 m3 m4 m6 m7 m8 m9 m10 m11 m12 m15 m18 rq dt from ⟨k54, k55, k56, k57, k58, k59⟩) hx220 (fun z => z.elim (ne17_q8) (Ne.symm ne8_ta)) (fun z => z.elim (ne17_m1) (Ne.symm ne_m1_ta)) (fun z => z.elim (ne17_m3) (Ne.symm ne_m3_ta)) (fun z => z.elim (ne17_m4) (Ne.symm ne_m4_ta)) (fun z => z.elim (ne17_rq) (Ne.symm ne_rq_ta)) (fun z => z.elim (ne17_dt) (Ne.symm ne_dt_ta))
          obtain ⟨km0, km1, km3, km4, krq, kdt⟩ := id hM4
          refine lv_istore (lv' := [(5, .int 0), (4, .int (nI 0)), (3, .ref q17), (2, .ref q8), (1, .ref q0), (0, .ref sc)]) hx hb d_La_law_223 hl (by decide) rfl (fun ls hl => ?_)
          refine lv_aload_n hx hb d_La_law_225 rfl (lv_at hl 3 rfl) ?_
          refine lv_aload_n hx hb d_La_law_226 rfl (lv_at hl 5 rfl) ?_
          refine lv_iload hx hb d_La_law_227 (lv_at hl 1 rfl) ?_
          refine lv_iconst (v := 1) hx hb d_La_law_229 (by decide) ?_
          refine lv_iadd hx hb d_La_law_230 ?_
          refine zi_as (y := nI (0 + 1)) (nI_add 0 1) ?_
          refine va_sld hx hb hX hbl hbA hS (vp_in_nI (by omega) (by omega)) d_La_law_231 ?_
          refine zi_as (y := xs (0 + 1)) (by rw [zi_n _ (by omega)]) ?_
          have hGo232 := hG
          refine zk_i (va_runV (As := [.int (xs (0 + 1))]) (rest := []) ⟨hx, hb, hml, hown, hts⟩ (t_Mo_end l E G220 q8 m1 m3 m4 m6 m7 m8 m9 m10 m11 m12 m15 m18 0 (nI 0) 1 0 0 0 0 .null .null km0 (xs (0 + 1))) (zcV 1 hts w_1358 w_1359 w_1360 w_30 w_1361 (by decide +kernel) ⟨Nat.le_of_ble_eq_true rfl, Nat.le_of_ble_eq_true rfl⟩) (zc_preV hbase hK hN hQ hG hS km0 rfl) rfl rfl hl.1 rfl (lv_room (Nat.le_of_ble_eq_true rfl)) d_La_law_232 ⟨(by decide), (by decide)⟩) hS (fun r232 G232 H locs hp232 hG hS => ?_)
          rcases hp232 with ⟨hcm, er2, eg232⟩ | ⟨hcm1, hcm2, er2, eg232⟩
          · exact absurd hcl (fun z => hcm.elim z.1 z.2)
          · refine zi_as (y := (xs (0 + 1))) er2 ?_
            have ko : G232 q17 = some (.inl (E.2.1 2, 1, .inr (.inl f2))) := by rw [eg232, zg_up_ne (Ne.symm ne17_q8)]; exact ho2
            have km : G232 q8 = some (.inr (11, [.int 0, .ref m1, .int (xs (0 + 1)), .ref m3, .ref m4, .int 1, .ref m6, .ref m7, .ref m8, .ref m9, .ref m10, .ref m11, .ref m12, .int 0, .int 0, .ref m15, .int 0, .int 0, .ref m18, .null, .null])) := by rw [eg232]; exact zg_up_self _ _ _
            refine lv_istore (lv' := [(6, .int (xs (0 + 1))), (5, .int 0), (4, .int (nI 0)), (3, .ref q17), (2, .ref q8), (1, .ref q0), (0, .ref sc)]) hx hb d_La_law_235 hl (by decide) rfl (fun ls hl => ?_)
            refine lv_aload_n hx hb d_La_law_237 rfl (lv_at hl 4 rfl) ?_
            refine zk_i (va_runV (As := []) (rest := []) ⟨hx, hb, hml, hown, hts⟩ (t_Mo_thrown l E G232 q8 m1 m3 m4 m6 m7 m8 m9 m10 m11 m12 m15 m18 0 (xs (0 + 1)) 1 0 0 0 0 .null .null km) (zcV 0 hts w_1345 w_1346 w_1347 w_30 w_1348 (by decide +kernel) ⟨Nat.le_of_ble_eq_true rfl, Nat.le_of_ble_eq_true rfl⟩) (zc_preV hbase hK hN hQ hG hS km rfl) rfl rfl hl.1 rfl (lv_room (Nat.le_of_ble_eq_true rfl)) d_La_law_238 ⟨(by decide), (by decide)⟩) hS (fun r238 G238 H locs hp238 hG hS => ?_)
            have hG : zP E G232 H := hp238.2 ▸ hG
            refine zi_as (y := 0) hp238.1 ?_
            refine lv_iload hx hb d_La_law_241 (lv_at hl 1 rfl) ?_
            refine lv_icmp_eq (tgt := 248) hx hb d_La_law_243 (by decide) (fun c243 => ?_) (fun c243 => ?_)
            · have b243 : 0 = 0 := (nI_eq (a := 0) (b := 0) (by omega) (by omega)).mp c243
              refine lv_iload hx hb d_La_law_248 (lv_at hl 1 rfl) ?_
              refine lv_if_ne (tgt := 265) hx hb d_La_law_250 (by decide) (fun c250 => ?_) (fun c250 => ?_)
              · have b250 : ¬ 0 = 0 := fun q => c250 ((nI_eq (a := 0) (b := 0) (by omega) (by omega)).mpr q)
                exact absurd b250 (by decide)
              · have b250 : 0 = 0 := (nI_eq (a := 0) (b := 0) (by omega) (by omega)).mp c250
                refine lv_aload_n hx hb d_La_law_253 rfl (lv_at hl 3 rfl) ?_
                refine lv_iconst (v := 0) hx hb d_La_law_254 (by decide) ?_
                refine zi_as (y := nI 0) (nI_0.symm) ?_
                refine zg_lald hx hb hK hG 2 ko rfl (vp_in_nI (by omega) (by omega)) d_La_law_255 ?_
                refine zl_as (y := (xs (0 + 1)).toInt64) (by rw [zi_n 0 (by decide)]; exact e2) ?_
                refine lv_iload hx hb d_La_law_256 (lv_at hl 0 rfl) ?_
                refine lv_i2l hx hb d_La_law_258 rfl ?_
                refine W.lcmp hx hb d_La_law_259 ?_
                refine zi_as (y := 0) (zcmp0 _) ?_
                refine lv_if_eq (tgt := 265) hx hb d_La_law_260 (by decide) (fun c260 => ?_) (fun c260 => ?_)
                · have b260 : 0 = 0 := (nI_eq (a := 0) (b := 0) (by omega) (by omega)).mp c260
                  refine lv_goto (tgt := 926) hx hb d_La_law_265 (by decide) ?_
                  refine lv_iinc (v := nI (0 + 6)) (lv' := [(4, .int (nI (0 + 6))), (6, .int (xs (0 + 1))), (5, .int 0), (3, .ref q17), (2, .ref q8), (1, .ref q0), (0, .ref sc)]) hx hb d_La_law_926 hl (k := 2) rfl (nI_add 0 6) (by decide) rfl (fun ls hl => ?_)
                  refine lv_goto (tgt := 23) hx hb d_La_law_929 (by decide) ?_
                  refine lv_iload hx hb d_La_law_23 (lv_at hl 0 rfl) ?_
                  refine lv_aload_n hx hb d_La_law_25 rfl (lv_at hl 6 rfl) ?_
                  refine va_slen hx hb hX hbl hbA hS d_La_law_26 ?_
                  refine lv_bipush (v := 6) hx hb d_La_law_27 (by decide) ?_
                  refine lv_isub hx hb d_La_law_29 ?_
                  refine zi_as (y := 0) (by decide) ?_
                  refine lv_icmp_gt (tgt := 932) hx hb d_La_law_30 (by decide) (fun c30 => ?_) (fun c30 => ?_)
                  · have b30 : 0 < (0 + 6) := (nI_ltI (a := 0) (b := (0 + 6)) (by omega) (by omega)).mp c30
                    refine lv_iconst (v := 1) hx hb d_La_law_932 (by decide) ?_
                    exact va_forget (fun q hq => by rw [← hbE]; exact hS.2.2 q hq) (W.widen (k := 600002) (n := 7302232) (by decide) (by decide) (lw_ret hx hb hr hlocks d_La_law_933))
                  · have b30 : ¬ 0 < (0 + 6) := fun q => c30 ((nI_ltI (a := 0) (b := (0 + 6)) (by omega) (by omega)).mpr q)
                    exact absurd b30 (by decide)
                · have b260 : ¬ 0 = 0 := fun q => c260 ((nI_eq (a := 0) (b := 0) (by omega) (by omega)).mpr q)
                  exact absurd b260 (by decide)
            · have b243 : ¬ 0 = 0 := fun q => c243 ((nI_eq (a := 0) (b := 0) (by omega) (by omega)).mpr q)
              exact absurd b243 (by decide)
        · refine zi_as (y := 1) er ?_
          have hM4 : zMod E G220 q8 m1 m3 m4 m6 m7 m8 m9 m10 m11 m12 m15 m18 rq dt := zMod.keep (show zMod E G47 q8 m1 m3 m4 m6 m7 m8 m9 m10 m11 m12 m15 m18 rq dt from ⟨k54, k55, k56, k57, k58, k59⟩) hx220 (fun z => z.elim (ne17_q8) (Ne.symm ne8_ta)) (fun z => z.elim (ne17_m1) (Ne.symm ne_m1_ta)) (fun z => z.elim (ne17_m3) (Ne.symm ne_m3_ta)) (fun z => z.elim (ne17_m4) (Ne.symm ne_m4_ta)) (fun z => z.elim (ne17_rq) (Ne.symm ne_rq_ta)) (fun z => z.elim (ne17_dt) (Ne.symm ne_dt_ta))
          obtain ⟨km0, km1, km3, km4, krq, kdt⟩ := id hM4
          refine lv_istore (lv' := [(5, .int 1), (4, .int (nI 0)), (3, .ref q17), (2, .ref q8), (1, .ref q0), (0, .ref sc)]) hx hb d_La_law_223 hl (by decide) rfl (fun ls hl => ?_)
          refine lv_aload_n hx hb d_La_law_225 rfl (lv_at hl 3 rfl) ?_
          refine lv_aload_n hx hb d_La_law_226 rfl (lv_at hl 5 rfl) ?_
          refine lv_iload hx hb d_La_law_227 (lv_at hl 1 rfl) ?_
          refine lv_iconst (v := 1) hx hb d_La_law_229 (by decide) ?_
          refine lv_iadd hx hb d_La_law_230 ?_
          refine zi_as (y := nI (0 + 1)) (nI_add 0 1) ?_
          refine va_sld hx hb hX hbl hbA hS (vp_in_nI (by omega) (by omega)) d_La_law_231 ?_
          refine zi_as (y := xs (0 + 1)) (by rw [zi_n _ (by omega)]) ?_
          have hGo232 := hG
          refine zk_i (va_runV (As := [.int (xs (0 + 1))]) (rest := []) ⟨hx, hb, hml, hown, hts⟩ (t_Mo_end l E G220 q8 m1 m3 m4 m6 m7 m8 m9 m10 m11 m12 m15 m18 0 (nI 0) 1 0 0 0 0 .null .null km0 (xs (0 + 1))) (zcV 1 hts w_1358 w_1359 w_1360 w_30 w_1361 (by decide +kernel) ⟨Nat.le_of_ble_eq_true rfl, Nat.le_of_ble_eq_true rfl⟩) (zc_preV hbase hK hN hQ hG hS km0 rfl) rfl rfl hl.1 rfl (lv_room (Nat.le_of_ble_eq_true rfl)) d_La_law_232 ⟨(by decide), (by decide)⟩) hS (fun r232 G232 H locs hp232 hG hS => ?_)
          rcases hp232 with ⟨hcm, er2, eg232⟩ | ⟨hcm1, hcm2, er2, eg232⟩
          · refine zi_as (y := 0) er2 ?_
            have ko : G232 q17 = some (.inl (E.2.1 2, 1, .inr (.inl f2))) := by rw [eg232, zg_up_ne (Ne.symm ne17_q8)]; exact ho2
            have km : G232 q8 = some (.inr (11, [.int 1, .ref m1, .int (nI 0), .ref m3, .ref m4, .int 1, .ref m6, .ref m7, .ref m8, .ref m9, .ref m10, .ref m11, .ref m12, .int 0, .int 0, .ref m15, .int 0, .int 0, .ref m18, .null, .null])) := by rw [eg232]; exact zg_up_self _ _ _
            refine lv_istore (lv' := [(6, .int 0), (5, .int 1), (4, .int (nI 0)), (3, .ref q17), (2, .ref q8), (1, .ref q0), (0, .ref sc)]) hx hb d_La_law_235 hl (by decide) rfl (fun ls hl => ?_)
            refine lv_aload_n hx hb d_La_law_237 rfl (lv_at hl 4 rfl) ?_
            refine zk_i (va_runV (As := []) (rest := []) ⟨hx, hb, hml, hown, hts⟩ (t_Mo_thrown l E G232 q8 m1 m3 m4 m6 m7 m8 m9 m10 m11 m12 m15 m18 1 (nI 0) 1 0 0 0 0 .null .null km) (zcV 0 hts w_1345 w_1346 w_1347 w_30 w_1348 (by decide +kernel) ⟨Nat.le_of_ble_eq_true rfl, Nat.le_of_ble_eq_true rfl⟩) (zc_preV hbase hK hN hQ hG hS km rfl) rfl rfl hl.1 rfl (lv_room (Nat.le_of_ble_eq_true rfl)) d_La_law_238 ⟨(by decide), (by decide)⟩) hS (fun r238 G238 H locs hp238 hG hS => ?_)
            have hG : zP E G232 H := hp238.2 ▸ hG
            refine zi_as (y := 1) hp238.1 ?_
            refine lv_iload hx hb d_La_law_241 (lv_at hl 1 rfl) ?_
            refine lv_icmp_eq (tgt := 248) hx hb d_La_law_243 (by decide) (fun c243 => ?_) (fun c243 => ?_)
            · have b243 : 1 = 1 := (nI_eq (a := 1) (b := 1) (by omega) (by omega)).mp c243
              refine lv_iload hx hb d_La_law_248 (lv_at hl 1 rfl) ?_
              refine lv_if_ne (tgt := 265) hx hb d_La_law_250 (by decide) (fun c250 => ?_) (fun c250 => ?_)
              · have b250 : ¬ 1 = 0 := fun q => c250 ((nI_eq (a := 1) (b := 0) (by omega) (by omega)).mpr q)
                refine lv_goto (tgt := 926) hx hb d_La_law_265 (by decide) ?_
                refine lv_iinc (v := nI (0 + 6)) (lv' := [(4, .int (nI (0 + 6))), (6, .int 0), (5, .int 1), (3, .ref q17), (2, .ref q8), (1, .ref q0), (0, .ref sc)]) hx hb d_La_law_926 hl (k := 2) rfl (nI_add 0 6) (by decide) rfl (fun ls hl => ?_)
                refine lv_goto (tgt := 23) hx hb d_La_law_929 (by decide) ?_
                refine lv_iload hx hb d_La_law_23 (lv_at hl 0 rfl) ?_
                refine lv_aload_n hx hb d_La_law_25 rfl (lv_at hl 6 rfl) ?_
                refine va_slen hx hb hX hbl hbA hS d_La_law_26 ?_
                refine lv_bipush (v := 6) hx hb d_La_law_27 (by decide) ?_
                refine lv_isub hx hb d_La_law_29 ?_
                refine zi_as (y := 0) (by decide) ?_
                refine lv_icmp_gt (tgt := 932) hx hb d_La_law_30 (by decide) (fun c30 => ?_) (fun c30 => ?_)
                · have b30 : 0 < (0 + 6) := (nI_ltI (a := 0) (b := (0 + 6)) (by omega) (by omega)).mp c30
                  refine lv_iconst (v := 1) hx hb d_La_law_932 (by decide) ?_
                  exact va_forget (fun q hq => by rw [← hbE]; exact hS.2.2 q hq) (W.widen (k := 600002) (n := 7302232) (by decide) (by decide) (lw_ret hx hb hr hlocks d_La_law_933))
                · have b30 : ¬ 0 < (0 + 6) := fun q => c30 ((nI_ltI (a := 0) (b := (0 + 6)) (by omega) (by omega)).mpr q)
                  exact absurd b30 (by decide)
              · have b250 : 1 = 0 := (nI_eq (a := 1) (b := 0) (by omega) (by omega)).mp c250
                exact absurd b250 (by decide)
            · have b243 : ¬ 1 = 1 := fun q => c243 ((nI_eq (a := 1) (b := 1) (by omega) (by omega)).mpr q)
              exact absurd b243 (by decide)
          · exact absurd hcl (fun z => z.elim hcm1 hcm2)
      by_cases s40_2 : ((xs 0) &&& 15) = 2
      · refine lv_tableIn (off := 228) (tgt := 268) hx hb d_La_law_40 (by rw [s40_2]; decide) (by rw [s40_2]; decide) (by rw [s40_2]; rfl) (by decide) ?_
        refine lv_aload_n hx hb d_La_law_268 rfl (lv_at hl 3 rfl) ?_
        refine lv_aload_n hx hb d_La_law_269 rfl (lv_at hl 4 rfl) ?_
        refine lv_iload hx hb d_La_law_270 (lv_at hl 0 rfl) ?_
        refine lv_iconst (v := 1) hx hb d_La_law_272 (by decide) ?_
        refine lv_iadd hx hb d_La_law_273 ?_
        refine zi_as (y := nI (0 + 1)) (nI_add 0 1) ?_
        refine va_sld hx hb hX hbl hbA hS (vp_in_nI (by omega) (by omega)) d_La_law_274 ?_
        refine zi_as (y := xs (0 + 1)) (by rw [zi_n _ (by omega)]) ?_
        refine lv_aload_n hx hb d_La_law_275 rfl (lv_at hl 4 rfl) ?_
        refine lv_iload hx hb d_La_law_276 (lv_at hl 0 rfl) ?_
        refine lv_iconst (v := 2) hx hb d_La_law_278 (by decide) ?_
        refine lv_iadd hx hb d_La_law_279 ?_
        refine zi_as (y := nI (0 + 2)) (nI_add 0 2) ?_
        refine va_sld hx hb hX hbl hbA hS (vp_in_nI (by omega) (by omega)) d_La_law_280 ?_
        refine zi_as (y := xs (0 + 2)) (by rw [zi_n _ (by omega)]) ?_
        refine lv_aload_n hx hb d_La_law_281 rfl (lv_at hl 4 rfl) ?_
        refine lv_iload hx hb d_La_law_282 (lv_at hl 0 rfl) ?_
        refine lv_iconst (v := 3) hx hb d_La_law_284 (by decide) ?_
        refine lv_iadd hx hb d_La_law_285 ?_
        refine zi_as (y := nI (0 + 3)) (nI_add 0 3) ?_
        refine va_sld hx hb hX hbl hbA hS (vp_in_nI (by omega) (by omega)) d_La_law_286 ?_
        refine zi_as (y := xs (0 + 3)) (by rw [zi_n _ (by omega)]) ?_
        refine lv_aload_n hx hb d_La_law_287 rfl (lv_at hl 4 rfl) ?_
        refine lv_iload hx hb d_La_law_288 (lv_at hl 0 rfl) ?_
        refine lv_iconst (v := 4) hx hb d_La_law_290 (by decide) ?_
        refine lv_iadd hx hb d_La_law_291 ?_
        refine zi_as (y := nI (0 + 4)) (nI_add 0 4) ?_
        refine va_sld hx hb hX hbl hbA hS (vp_in_nI (by omega) (by omega)) d_La_law_292 ?_
        refine zi_as (y := xs (0 + 4)) (by rw [zi_n _ (by omega)]) ?_
        refine lv_aload_n hx hb d_La_law_293 rfl (lv_at hl 4 rfl) ?_
        refine lv_iload hx hb d_La_law_294 (lv_at hl 0 rfl) ?_
        refine lv_iconst (v := 5) hx hb d_La_law_296 (by decide) ?_
        refine lv_iadd hx hb d_La_law_297 ?_
        refine zi_as (y := nI (0 + 5)) (nI_add 0 5) ?_
        refine va_sld hx hb hX hbl hbA hS (vp_in_nI (by omega) (by omega)) d_La_law_298 ?_
        refine zi_as (y := xs (0 + 5)) (by rw [zi_n _ (by omega)]) ?_
        have hGo299 := hG
        refine zk_i (zl_runS (n := 6) (As := [.ref q0, .int (xs (0 + 1)), .int (xs (0 + 2)), .int (xs (0 + 3)), .int (xs (0 + 4)), .int (xs (0 + 5))]) (rest := []) ⟨hx, hb, hml, hown, hts⟩ (t_La_origin_f l hoff E G47 q0 ta zo an b la x st sd o ol da dx d0 d1 d3 bt s1 s2 s3 r1 r2 r3 hF3 q17 (fun _ => 0) k60 (xs (0 + 1)) (xs (0 + 2)) (xs (0 + 3)) (xs (0 + 4)) (xs (0 + 5))) w_822 w_823 w_0 w_824 (by decide +kernel) ⟨Nat.le_of_ble_eq_true rfl, Nat.le_of_ble_eq_true rfl⟩ (zc_pre hbase hK hN hQ hG hS) rfl rfl hl.1 rfl (lv_room (Nat.le_of_ble_eq_true rfl)) d_La_law_299 ⟨(by decide), (by decide)⟩) hS (fun r299 G299 H locs hp299 hG hS => ?_)
        have hG : zP E G47 H := hp299.2 ▸ hG
        refine zi_as (y := 1) hp299.1 ?_
        refine lv_istore (lv' := [(5, .int 1), (4, .int (nI 0)), (3, .ref q17), (2, .ref q8), (1, .ref q0), (0, .ref sc)]) hx hb d_La_law_302 hl (by decide) rfl (fun ls hl => ?_)
        refine lv_aload_n hx hb d_La_law_304 rfl (lv_at hl 3 rfl) ?_
        refine lv_aload_n hx hb d_La_law_305 rfl (lv_at hl 5 rfl) ?_
        refine lv_iload hx hb d_La_law_306 (lv_at hl 1 rfl) ?_
        refine lv_iconst (v := 1) hx hb d_La_law_308 (by decide) ?_
        refine lv_iadd hx hb d_La_law_309 ?_
        refine zi_as (y := nI (0 + 1)) (nI_add 0 1) ?_
        refine va_sld hx hb hX hbl hbA hS (vp_in_nI (by omega) (by omega)) d_La_law_310 ?_
        refine zi_as (y := xs (0 + 1)) (by rw [zi_n _ (by omega)]) ?_
        refine lv_aload_n hx hb d_La_law_311 rfl (lv_at hl 5 rfl) ?_
        refine lv_iload hx hb d_La_law_312 (lv_at hl 1 rfl) ?_
        refine lv_iconst (v := 2) hx hb d_La_law_314 (by decide) ?_
        refine lv_iadd hx hb d_La_law_315 ?_
        refine zi_as (y := nI (0 + 2)) (nI_add 0 2) ?_
        refine va_sld hx hb hX hbl hbA hS (vp_in_nI (by omega) (by omega)) d_La_law_316 ?_
        refine zi_as (y := xs (0 + 2)) (by rw [zi_n _ (by omega)]) ?_
        refine lv_aload_n hx hb d_La_law_317 rfl (lv_at hl 5 rfl) ?_
        refine lv_iload hx hb d_La_law_318 (lv_at hl 1 rfl) ?_
        refine lv_iconst (v := 3) hx hb d_La_law_320 (by decide) ?_
        refine lv_iadd hx hb d_La_law_321 ?_
        refine zi_as (y := nI (0 + 3)) (nI_add 0 3) ?_
        refine va_sld hx hb hX hbl hbA hS (vp_in_nI (by omega) (by omega)) d_La_law_322 ?_
        refine zi_as (y := xs (0 + 3)) (by rw [zi_n _ (by omega)]) ?_
        refine lv_aload_n hx hb d_La_law_323 rfl (lv_at hl 5 rfl) ?_
        refine lv_iload hx hb d_La_law_324 (lv_at hl 1 rfl) ?_
        refine lv_iconst (v := 4) hx hb d_La_law_326 (by decide) ?_
        refine lv_iadd hx hb d_La_law_327 ?_
        refine zi_as (y := nI (0 + 4)) (nI_add 0 4) ?_
        refine va_sld hx hb hX hbl hbA hS (vp_in_nI (by omega) (by omega)) d_La_law_328 ?_
        refine zi_as (y := xs (0 + 4)) (by rw [zi_n _ (by omega)]) ?_
        refine lv_aload_n hx hb d_La_law_329 rfl (lv_at hl 5 rfl) ?_
        refine lv_iload hx hb d_La_law_330 (lv_at hl 1 rfl) ?_
        refine lv_iconst (v := 5) hx hb d_La_law_332 (by decide) ?_
        refine lv_iadd hx hb d_La_law_333 ?_
        refine zi_as (y := nI (0 + 5)) (nI_add 0 5) ?_
        refine va_sld hx hb hX hbl hbA hS (vp_in_nI (by omega) (by omega)) d_La_law_334 ?_
        refine zi_as (y := xs (0 + 5)) (by rw [zi_n _ (by omega)]) ?_
        have hGo335 := hG
        refine zk_v (va_runV (As := [.int (xs (0 + 1)), .int (xs (0 + 2)), .int (xs (0 + 3)), .int (xs (0 + 4)), .int (xs (0 + 5))]) (rest := []) ⟨hx, hb, hml, hown, hts⟩ (t_Mo_origin_f l E G47 q8 m1 m3 m4 m6 m7 m8 m9 m10 m11 m12 m15 m18 rq dt ⟨k54, k55, k56, k57, k58, k59⟩ (xs (0 + 1)) (xs (0 + 2)) (xs (0 + 3)) (xs (0 + 4)) (xs (0 + 5))) (zcV 5 hts w_1362 w_1363 w_1364 w_30 w_1365 (by decide +kernel) ⟨Nat.le_of_ble_eq_true rfl, Nat.le_of_ble_eq_true rfl⟩) (zc_preV hbase hK hN hQ hG hS k54 rfl) rfl rfl hl.1 rfl (lv_room (Nat.le_of_ble_eq_true rfl)) d_La_law_335 ⟨(by decide), (by decide)⟩) hS (fun G335 H locs hp335 hG hS => ?_)
        obtain ⟨hx335, hk335⟩ := hp335
        have ko : G335 q17 = some (.inl (E.2.1 2, 1, .inr (.inl (fun _ => 0)))) := hx335 _ _ (Ne.symm ne17_q8) k60
        refine lv_aload_n hx hb d_La_law_338 rfl (lv_at hl 3 rfl) ?_
        refine zk_i (va_runV (As := []) (rest := []) ⟨hx, hb, hml, hown, hts⟩ (t_Mo_thrown l E G335 q8 m1 m3 m4 m6 m7 m8 m9 m10 m11 m12 m15 m18 1 (nI 0) 1 0 0 0 0 .null .null hk335) (zcV 0 hts w_1345 w_1346 w_1347 w_30 w_1348 (by decide +kernel) ⟨Nat.le_of_ble_eq_true rfl, Nat.le_of_ble_eq_true rfl⟩) (zc_preV hbase hK hN hQ hG hS hk335 rfl) rfl rfl hl.1 rfl (lv_room (Nat.le_of_ble_eq_true rfl)) d_La_law_339 ⟨(by decide), (by decide)⟩) hS (fun r339 G339 H locs hp339 hG hS => ?_)
        have hG : zP E G335 H := hp339.2 ▸ hG
        refine zi_as (y := 1) hp339.1 ?_
        refine lv_iload hx hb d_La_law_342 (lv_at hl 0 rfl) ?_
        refine lv_icmp_eq (tgt := 349) hx hb d_La_law_344 (by decide) (fun c344 => ?_) (fun c344 => ?_)
        · have b344 : 1 = 1 := (nI_eq (a := 1) (b := 1) (by omega) (by omega)).mp c344
          refine lv_goto (tgt := 926) hx hb d_La_law_349 (by decide) ?_
          refine lv_iinc (v := nI (0 + 6)) (lv' := [(4, .int (nI (0 + 6))), (5, .int 1), (3, .ref q17), (2, .ref q8), (1, .ref q0), (0, .ref sc)]) hx hb d_La_law_926 hl (k := 1) rfl (nI_add 0 6) (by decide) rfl (fun ls hl => ?_)
          refine lv_goto (tgt := 23) hx hb d_La_law_929 (by decide) ?_
          refine lv_iload hx hb d_La_law_23 (lv_at hl 0 rfl) ?_
          refine lv_aload_n hx hb d_La_law_25 rfl (lv_at hl 5 rfl) ?_
          refine va_slen hx hb hX hbl hbA hS d_La_law_26 ?_
          refine lv_bipush (v := 6) hx hb d_La_law_27 (by decide) ?_
          refine lv_isub hx hb d_La_law_29 ?_
          refine zi_as (y := 0) (by decide) ?_
          refine lv_icmp_gt (tgt := 932) hx hb d_La_law_30 (by decide) (fun c30 => ?_) (fun c30 => ?_)
          · have b30 : 0 < (0 + 6) := (nI_ltI (a := 0) (b := (0 + 6)) (by omega) (by omega)).mp c30
            refine lv_iconst (v := 1) hx hb d_La_law_932 (by decide) ?_
            exact va_forget (fun q hq => by rw [← hbE]; exact hS.2.2 q hq) (W.widen (k := 600002) (n := 7302232) (by decide) (by decide) (lw_ret hx hb hr hlocks d_La_law_933))
          · have b30 : ¬ 0 < (0 + 6) := fun q => c30 ((nI_ltI (a := 0) (b := (0 + 6)) (by omega) (by omega)).mpr q)
            exact absurd b30 (by decide)
        · have b344 : ¬ 1 = 1 := fun q => c344 ((nI_eq (a := 1) (b := 1) (by omega) (by omega)).mpr q)
          exact absurd b344 (by decide)
      by_cases s40_3 : ((xs 0) &&& 15) = 3
      · refine lv_tableIn (off := 312) (tgt := 352) hx hb d_La_law_40 (by rw [s40_3]; decide) (by rw [s40_3]; decide) (by rw [s40_3]; rfl) (by decide) ?_
        refine lv_aload_n hx hb d_La_law_352 rfl (lv_at hl 3 rfl) ?_
        refine lv_aload_n hx hb d_La_law_353 rfl (lv_at hl 4 rfl) ?_
        refine lv_iload hx hb d_La_law_354 (lv_at hl 0 rfl) ?_
        refine lv_iconst (v := 1) hx hb d_La_law_356 (by decide) ?_
        refine lv_iadd hx hb d_La_law_357 ?_
        refine zi_as (y := nI (0 + 1)) (nI_add 0 1) ?_
        refine va_sld hx hb hX hbl hbA hS (vp_in_nI (by omega) (by omega)) d_La_law_358 ?_
        refine zi_as (y := xs (0 + 1)) (by rw [zi_n _ (by omega)]) ?_
        refine lv_aload_n hx hb d_La_law_359 rfl (lv_at hl 4 rfl) ?_
        refine lv_iload hx hb d_La_law_360 (lv_at hl 0 rfl) ?_
        refine lv_iconst (v := 2) hx hb d_La_law_362 (by decide) ?_
        refine lv_iadd hx hb d_La_law_363 ?_
        refine zi_as (y := nI (0 + 2)) (nI_add 0 2) ?_
        refine va_sld hx hb hX hbl hbA hS (vp_in_nI (by omega) (by omega)) d_La_law_364 ?_
        refine zi_as (y := xs (0 + 2)) (by rw [zi_n _ (by omega)]) ?_
        refine lv_aload_n hx hb d_La_law_365 rfl (lv_at hl 1 rfl) ?_
        have hGo366 := hG
        refine zk_i (zl_runS (n := 4) (As := [.ref q0, .int (xs (0 + 1)), .int (xs (0 + 2)), .ref q17]) (rest := []) ⟨hx, hb, hml, hown, hts⟩ (t_La_put_f l hoff E G47 q0 ta zo an b la x st sd o ol da dx d0 d1 d3 bt s1 s2 s3 r1 r2 r3 hF3 q17 (fun _ => 0) k60 (xs (0 + 1)) (xs (0 + 2))) w_846 w_847 w_0 w_848 (by decide +kernel) ⟨Nat.le_of_ble_eq_true rfl, Nat.le_of_ble_eq_true rfl⟩ (zc_pre hbase hK hN hQ hG hS) rfl rfl hl.1 rfl (lv_room (Nat.le_of_ble_eq_true rfl)) d_La_law_366 ⟨(by decide), (by decide)⟩) hS (fun r366 G366 H locs hp366 hG hS => ?_)
        have hG : zP E G47 H := hp366.2 ▸ hG
        refine zi_as (y := 1) hp366.1 ?_
        refine lv_istore (lv' := [(5, .int 1), (4, .int (nI 0)), (3, .ref q17), (2, .ref q8), (1, .ref q0), (0, .ref sc)]) hx hb d_La_law_369 hl (by decide) rfl (fun ls hl => ?_)
        refine lv_aload_n hx hb d_La_law_371 rfl (lv_at hl 3 rfl) ?_
        refine lv_aload_n hx hb d_La_law_372 rfl (lv_at hl 5 rfl) ?_
        refine lv_iload hx hb d_La_law_373 (lv_at hl 1 rfl) ?_
        refine lv_iconst (v := 1) hx hb d_La_law_375 (by decide) ?_
        refine lv_iadd hx hb d_La_law_376 ?_
        refine zi_as (y := nI (0 + 1)) (nI_add 0 1) ?_
        refine va_sld hx hb hX hbl hbA hS (vp_in_nI (by omega) (by omega)) d_La_law_377 ?_
        refine zi_as (y := xs (0 + 1)) (by rw [zi_n _ (by omega)]) ?_
        refine lv_aload_n hx hb d_La_law_378 rfl (lv_at hl 5 rfl) ?_
        refine lv_iload hx hb d_La_law_379 (lv_at hl 1 rfl) ?_
        refine lv_iconst (v := 2) hx hb d_La_law_381 (by decide) ?_
        refine lv_iadd hx hb d_La_law_382 ?_
        refine zi_as (y := nI (0 + 2)) (nI_add 0 2) ?_
        refine va_sld hx hb hX hbl hbA hS (vp_in_nI (by omega) (by omega)) d_La_law_383 ?_
        refine zi_as (y := xs (0 + 2)) (by rw [zi_n _ (by omega)]) ?_
        have hGo384 := hG
        refine zk_i (va_runV (As := [.int (xs (0 + 1)), .int (xs (0 + 2))]) (rest := []) ⟨hx, hb, hml, hown, hts⟩ (t_Mo_put_f l E G47 q8 m1 m3 m4 m6 m7 m8 m9 m10 m11 m12 m15 m18 rq dt ⟨k54, k55, k56, k57, k58, k59⟩ (xs (0 + 1)) (xs (0 + 2))) (zcV 2 hts w_1375 w_1376 w_1377 w_30 w_1378 (by decide +kernel) ⟨Nat.le_of_ble_eq_true rfl, Nat.le_of_ble_eq_true rfl⟩) (zc_preV hbase hK hN hQ hG hS k54 rfl) rfl rfl hl.1 rfl (lv_room (Nat.le_of_ble_eq_true rfl)) d_La_law_384 ⟨(by decide), (by decide)⟩) hS (fun r384 G384 H locs hp384 hG hS => ?_)
        obtain ⟨er, hx384, hk384⟩ := hp384
        refine zi_as (y := 0) er ?_
        have ko : G384 q17 = some (.inl (E.2.1 2, 1, .inr (.inl (fun _ => 0)))) := hx384 _ _ (Ne.symm ne17_q8) k60
        refine lv_istore (lv' := [(6, .int 0), (5, .int 1), (4, .int (nI 0)), (3, .ref q17), (2, .ref q8), (1, .ref q0), (0, .ref sc)]) hx hb d_La_law_387 hl (by decide) rfl (fun ls hl => ?_)
        refine lv_aload_n hx hb d_La_law_389 rfl (lv_at hl 4 rfl) ?_
        refine zk_i (va_runV (As := []) (rest := []) ⟨hx, hb, hml, hown, hts⟩ (t_Mo_thrown l E G384 q8 m1 m3 m4 m6 m7 m8 m9 m10 m11 m12 m15 m18 1 (nI 0) 1 0 0 0 0 .null .null hk384) (zcV 0 hts w_1345 w_1346 w_1347 w_30 w_1348 (by decide +kernel) ⟨Nat.le_of_ble_eq_true rfl, Nat.le_of_ble_eq_true rfl⟩) (zc_preV hbase hK hN hQ hG hS hk384 rfl) rfl rfl hl.1 rfl (lv_room (Nat.le_of_ble_eq_true rfl)) d_La_law_390 ⟨(by decide), (by decide)⟩) hS (fun r390 G390 H locs hp390 hG hS => ?_)
        have hG : zP E G384 H := hp390.2 ▸ hG
        refine zi_as (y := 1) hp390.1 ?_
        refine lv_iload hx hb d_La_law_393 (lv_at hl 1 rfl) ?_
        refine lv_icmp_eq (tgt := 400) hx hb d_La_law_395 (by decide) (fun c395 => ?_) (fun c395 => ?_)
        · have b395 : 1 = 1 := (nI_eq (a := 1) (b := 1) (by omega) (by omega)).mp c395
          refine lv_iload hx hb d_La_law_400 (lv_at hl 1 rfl) ?_
          refine lv_if_ne (tgt := 417) hx hb d_La_law_402 (by decide) (fun c402 => ?_) (fun c402 => ?_)
          · have b402 : ¬ 1 = 0 := fun q => c402 ((nI_eq (a := 1) (b := 0) (by omega) (by omega)).mpr q)
            refine lv_goto (tgt := 926) hx hb d_La_law_417 (by decide) ?_
            refine lv_iinc (v := nI (0 + 6)) (lv' := [(4, .int (nI (0 + 6))), (6, .int 0), (5, .int 1), (3, .ref q17), (2, .ref q8), (1, .ref q0), (0, .ref sc)]) hx hb d_La_law_926 hl (k := 2) rfl (nI_add 0 6) (by decide) rfl (fun ls hl => ?_)
            refine lv_goto (tgt := 23) hx hb d_La_law_929 (by decide) ?_
            refine lv_iload hx hb d_La_law_23 (lv_at hl 0 rfl) ?_
            refine lv_aload_n hx hb d_La_law_25 rfl (lv_at hl 6 rfl) ?_
            refine va_slen hx hb hX hbl hbA hS d_La_law_26 ?_
            refine lv_bipush (v := 6) hx hb d_La_law_27 (by decide) ?_
            refine lv_isub hx hb d_La_law_29 ?_
            refine zi_as (y := 0) (by decide) ?_
            refine lv_icmp_gt (tgt := 932) hx hb d_La_law_30 (by decide) (fun c30 => ?_) (fun c30 => ?_)
            · have b30 : 0 < (0 + 6) := (nI_ltI (a := 0) (b := (0 + 6)) (by omega) (by omega)).mp c30
              refine lv_iconst (v := 1) hx hb d_La_law_932 (by decide) ?_
              exact va_forget (fun q hq => by rw [← hbE]; exact hS.2.2 q hq) (W.widen (k := 600002) (n := 7302232) (by decide) (by decide) (lw_ret hx hb hr hlocks d_La_law_933))
            · have b30 : ¬ 0 < (0 + 6) := fun q => c30 ((nI_ltI (a := 0) (b := (0 + 6)) (by omega) (by omega)).mpr q)
              exact absurd b30 (by decide)
          · have b402 : 1 = 0 := (nI_eq (a := 1) (b := 0) (by omega) (by omega)).mp c402
            exact absurd b402 (by decide)
        · have b395 : ¬ 1 = 1 := fun q => c395 ((nI_eq (a := 1) (b := 1) (by omega) (by omega)).mpr q)
          exact absurd b395 (by decide)
      by_cases s40_4 : ((xs 0) &&& 15) = 4
      · refine lv_tableIn (off := 380) (tgt := 420) hx hb d_La_law_40 (by rw [s40_4]; decide) (by rw [s40_4]; decide) (by rw [s40_4]; rfl) (by decide) ?_
        refine lv_aload_n hx hb d_La_law_420 rfl (lv_at hl 3 rfl) ?_
        refine lv_aload_n hx hb d_La_law_421 rfl (lv_at hl 4 rfl) ?_
        refine lv_iload hx hb d_La_law_422 (lv_at hl 0 rfl) ?_
        refine lv_iconst (v := 1) hx hb d_La_law_424 (by decide) ?_
        refine lv_iadd hx hb d_La_law_425 ?_
        refine zi_as (y := nI (0 + 1)) (nI_add 0 1) ?_
        refine va_sld hx hb hX hbl hbA hS (vp_in_nI (by omega) (by omega)) d_La_law_426 ?_
        refine zi_as (y := xs (0 + 1)) (by rw [zi_n _ (by omega)]) ?_
        refine lv_aload_n hx hb d_La_law_427 rfl (lv_at hl 1 rfl) ?_
        have hGo428 := hG
        refine zk_i (zl_runS (n := 3) (As := [.ref q0, .int (xs (0 + 1)), .ref q17]) (rest := []) ⟨hx, hb, hml, hown, hts⟩ (t_La_take_f l hoff E G47 q0 ta zo an b la x st sd o ol da dx d0 d1 d3 bt s1 s2 s3 r1 r2 r3 hF3 q17 (fun _ => 0) k60 (xs (0 + 1))) w_936 w_937 w_0 w_938 (by decide +kernel) ⟨Nat.le_of_ble_eq_true rfl, Nat.le_of_ble_eq_true rfl⟩ (zc_pre hbase hK hN hQ hG hS) rfl rfl hl.1 rfl (lv_room (Nat.le_of_ble_eq_true rfl)) d_La_law_428 ⟨(by decide), (by decide)⟩) hS (fun r428 G428 H locs hp428 hG hS => ?_)
        have hG : zP E G47 H := hp428.2 ▸ hG
        refine zi_as (y := 1) hp428.1 ?_
        refine lv_istore (lv' := [(5, .int 1), (4, .int (nI 0)), (3, .ref q17), (2, .ref q8), (1, .ref q0), (0, .ref sc)]) hx hb d_La_law_431 hl (by decide) rfl (fun ls hl => ?_)
        refine lv_aload_n hx hb d_La_law_433 rfl (lv_at hl 3 rfl) ?_
        refine lv_aload_n hx hb d_La_law_434 rfl (lv_at hl 5 rfl) ?_
        refine lv_iload hx hb d_La_law_435 (lv_at hl 1 rfl) ?_
        refine lv_iconst (v := 1) hx hb d_La_law_437 (by decide) ?_
        refine lv_iadd hx hb d_La_law_438 ?_
        refine zi_as (y := nI (0 + 1)) (nI_add 0 1) ?_
        refine va_sld hx hb hX hbl hbA hS (vp_in_nI (by omega) (by omega)) d_La_law_439 ?_
        refine zi_as (y := xs (0 + 1)) (by rw [zi_n _ (by omega)]) ?_
        have hGo440 := hG
        refine zk_i (va_runV (As := [.int (xs (0 + 1))]) (rest := []) ⟨hx, hb, hml, hown, hts⟩ (t_Mo_take_f l E G47 q8 m1 m3 m4 m6 m7 m8 m9 m10 m11 m12 m15 m18 rq dt ⟨k54, k55, k56, k57, k58, k59⟩ (xs (0 + 1))) (zcV 1 hts w_1421 w_1422 w_1423 w_30 w_1424 (by decide +kernel) ⟨Nat.le_of_ble_eq_true rfl, Nat.le_of_ble_eq_true rfl⟩) (zc_preV hbase hK hN hQ hG hS k54 rfl) rfl rfl hl.1 rfl (lv_room (Nat.le_of_ble_eq_true rfl)) d_La_law_440 ⟨(by decide), (by decide)⟩) hS (fun r440 G440 H locs hp440 hG hS => ?_)
        obtain ⟨er, hx440, hk440⟩ := hp440
        refine zi_as (y := 0) er ?_
        have ko : G440 q17 = some (.inl (E.2.1 2, 1, .inr (.inl (fun _ => 0)))) := hx440 _ _ (Ne.symm ne17_q8) k60
        refine lv_istore (lv' := [(6, .int 0), (5, .int 1), (4, .int (nI 0)), (3, .ref q17), (2, .ref q8), (1, .ref q0), (0, .ref sc)]) hx hb d_La_law_443 hl (by decide) rfl (fun ls hl => ?_)
        refine lv_aload_n hx hb d_La_law_445 rfl (lv_at hl 4 rfl) ?_
        refine zk_i (va_runV (As := []) (rest := []) ⟨hx, hb, hml, hown, hts⟩ (t_Mo_thrown l E G440 q8 m1 m3 m4 m6 m7 m8 m9 m10 m11 m12 m15 m18 1 (nI 0) 1 0 0 0 0 .null .null hk440) (zcV 0 hts w_1345 w_1346 w_1347 w_30 w_1348 (by decide +kernel) ⟨Nat.le_of_ble_eq_true rfl, Nat.le_of_ble_eq_true rfl⟩) (zc_preV hbase hK hN hQ hG hS hk440 rfl) rfl rfl hl.1 rfl (lv_room (Nat.le_of_ble_eq_true rfl)) d_La_law_446 ⟨(by decide), (by decide)⟩) hS (fun r446 G446 H locs hp446 hG hS => ?_)
        have hG : zP E G440 H := hp446.2 ▸ hG
        refine zi_as (y := 1) hp446.1 ?_
        refine lv_iload hx hb d_La_law_449 (lv_at hl 1 rfl) ?_
        refine lv_icmp_eq (tgt := 456) hx hb d_La_law_451 (by decide) (fun c451 => ?_) (fun c451 => ?_)
        · have b451 : 1 = 1 := (nI_eq (a := 1) (b := 1) (by omega) (by omega)).mp c451
          refine lv_iload hx hb d_La_law_456 (lv_at hl 1 rfl) ?_
          refine lv_if_ne (tgt := 473) hx hb d_La_law_458 (by decide) (fun c458 => ?_) (fun c458 => ?_)
          · have b458 : ¬ 1 = 0 := fun q => c458 ((nI_eq (a := 1) (b := 0) (by omega) (by omega)).mpr q)
            refine lv_goto (tgt := 926) hx hb d_La_law_473 (by decide) ?_
            refine lv_iinc (v := nI (0 + 6)) (lv' := [(4, .int (nI (0 + 6))), (6, .int 0), (5, .int 1), (3, .ref q17), (2, .ref q8), (1, .ref q0), (0, .ref sc)]) hx hb d_La_law_926 hl (k := 2) rfl (nI_add 0 6) (by decide) rfl (fun ls hl => ?_)
            refine lv_goto (tgt := 23) hx hb d_La_law_929 (by decide) ?_
            refine lv_iload hx hb d_La_law_23 (lv_at hl 0 rfl) ?_
            refine lv_aload_n hx hb d_La_law_25 rfl (lv_at hl 6 rfl) ?_
            refine va_slen hx hb hX hbl hbA hS d_La_law_26 ?_
            refine lv_bipush (v := 6) hx hb d_La_law_27 (by decide) ?_
            refine lv_isub hx hb d_La_law_29 ?_
            refine zi_as (y := 0) (by decide) ?_
            refine lv_icmp_gt (tgt := 932) hx hb d_La_law_30 (by decide) (fun c30 => ?_) (fun c30 => ?_)
            · have b30 : 0 < (0 + 6) := (nI_ltI (a := 0) (b := (0 + 6)) (by omega) (by omega)).mp c30
              refine lv_iconst (v := 1) hx hb d_La_law_932 (by decide) ?_
              exact va_forget (fun q hq => by rw [← hbE]; exact hS.2.2 q hq) (W.widen (k := 600002) (n := 7302232) (by decide) (by decide) (lw_ret hx hb hr hlocks d_La_law_933))
            · have b30 : ¬ 0 < (0 + 6) := fun q => c30 ((nI_ltI (a := 0) (b := (0 + 6)) (by omega) (by omega)).mpr q)
              exact absurd b30 (by decide)
          · have b458 : 1 = 0 := (nI_eq (a := 1) (b := 0) (by omega) (by omega)).mp c458
            exact absurd b458 (by decide)
        · have b451 : ¬ 1 = 1 := fun q => c451 ((nI_eq (a := 1) (b := 1) (by omega) (by omega)).mpr q)
          exact absurd b451 (by decide)
      by_cases s40_5 : ((xs 0) &&& 15) = 5
      · refine lv_tableIn (off := 436) (tgt := 476) hx hb d_La_law_40 (by rw [s40_5]; decide) (by rw [s40_5]; decide) (by rw [s40_5]; rfl) (by decide) ?_
        refine lv_aload_n hx hb d_La_law_476 rfl (lv_at hl 3 rfl) ?_
        refine lv_aload_n hx hb d_La_law_477 rfl (lv_at hl 4 rfl) ?_
        refine lv_iload hx hb d_La_law_478 (lv_at hl 0 rfl) ?_
        refine lv_iconst (v := 1) hx hb d_La_law_480 (by decide) ?_
        refine lv_iadd hx hb d_La_law_481 ?_
        refine zi_as (y := nI (0 + 1)) (nI_add 0 1) ?_
        refine va_sld hx hb hX hbl hbA hS (vp_in_nI (by omega) (by omega)) d_La_law_482 ?_
        refine zi_as (y := xs (0 + 1)) (by rw [zi_n _ (by omega)]) ?_
        refine lv_aload_n hx hb d_La_law_483 rfl (lv_at hl 1 rfl) ?_
        have hGo484 := hG
        refine zk_i (zl_runS (n := 3) (As := [.ref q0, .int (xs (0 + 1)), .ref q17]) (rest := []) ⟨hx, hb, hml, hown, hts⟩ (t_La_takeAll_f l hoff E G47 q0 ta zo an b la x st sd o ol da dx d0 d1 d3 bt s1 s2 s3 r1 r2 r3 hF3 q17 (fun _ => 0) k60 (xs (0 + 1))) w_984 w_985 w_0 w_986 (by decide +kernel) ⟨Nat.le_of_ble_eq_true rfl, Nat.le_of_ble_eq_true rfl⟩ (zc_pre hbase hK hN hQ hG hS) rfl rfl hl.1 rfl (lv_room (Nat.le_of_ble_eq_true rfl)) d_La_law_484 ⟨(by decide), (by decide)⟩) hS (fun r484 G484 H locs hp484 hG hS => ?_)
        have hG : zP E G47 H := hp484.2 ▸ hG
        refine zi_as (y := 1) hp484.1 ?_
        refine lv_istore (lv' := [(5, .int 1), (4, .int (nI 0)), (3, .ref q17), (2, .ref q8), (1, .ref q0), (0, .ref sc)]) hx hb d_La_law_487 hl (by decide) rfl (fun ls hl => ?_)
        refine lv_aload_n hx hb d_La_law_489 rfl (lv_at hl 3 rfl) ?_
        refine lv_aload_n hx hb d_La_law_490 rfl (lv_at hl 5 rfl) ?_
        refine lv_iload hx hb d_La_law_491 (lv_at hl 1 rfl) ?_
        refine lv_iconst (v := 1) hx hb d_La_law_493 (by decide) ?_
        refine lv_iadd hx hb d_La_law_494 ?_
        refine zi_as (y := nI (0 + 1)) (nI_add 0 1) ?_
        refine va_sld hx hb hX hbl hbA hS (vp_in_nI (by omega) (by omega)) d_La_law_495 ?_
        refine zi_as (y := xs (0 + 1)) (by rw [zi_n _ (by omega)]) ?_
        have hGo496 := hG
        refine zk_i (va_runV (As := [.int (xs (0 + 1))]) (rest := []) ⟨hx, hb, hml, hown, hts⟩ (t_Mo_takeAll_f l E G47 q8 m1 m3 m4 m6 m7 m8 m9 m10 m11 m12 m15 m18 rq dt ⟨k54, k55, k56, k57, k58, k59⟩ (xs (0 + 1))) (zcV 1 hts w_1429 w_1430 w_1431 w_30 w_1432 (by decide +kernel) ⟨Nat.le_of_ble_eq_true rfl, Nat.le_of_ble_eq_true rfl⟩) (zc_preV hbase hK hN hQ hG hS k54 rfl) rfl rfl hl.1 rfl (lv_room (Nat.le_of_ble_eq_true rfl)) d_La_law_496 ⟨(by decide), (by decide)⟩) hS (fun r496 G496 H locs hp496 hG hS => ?_)
        obtain ⟨er, hx496, hk496⟩ := hp496
        refine zi_as (y := 0) er ?_
        have ko : G496 q17 = some (.inl (E.2.1 2, 1, .inr (.inl (fun _ => 0)))) := hx496 _ _ (Ne.symm ne17_q8) k60
        refine lv_istore (lv' := [(6, .int 0), (5, .int 1), (4, .int (nI 0)), (3, .ref q17), (2, .ref q8), (1, .ref q0), (0, .ref sc)]) hx hb d_La_law_499 hl (by decide) rfl (fun ls hl => ?_)
        refine lv_aload_n hx hb d_La_law_501 rfl (lv_at hl 4 rfl) ?_
        refine zk_i (va_runV (As := []) (rest := []) ⟨hx, hb, hml, hown, hts⟩ (t_Mo_thrown l E G496 q8 m1 m3 m4 m6 m7 m8 m9 m10 m11 m12 m15 m18 1 (nI 0) 1 0 0 0 0 .null .null hk496) (zcV 0 hts w_1345 w_1346 w_1347 w_30 w_1348 (by decide +kernel) ⟨Nat.le_of_ble_eq_true rfl, Nat.le_of_ble_eq_true rfl⟩) (zc_preV hbase hK hN hQ hG hS hk496 rfl) rfl rfl hl.1 rfl (lv_room (Nat.le_of_ble_eq_true rfl)) d_La_law_502 ⟨(by decide), (by decide)⟩) hS (fun r502 G502 H locs hp502 hG hS => ?_)
        have hG : zP E G496 H := hp502.2 ▸ hG
        refine zi_as (y := 1) hp502.1 ?_
        refine lv_iload hx hb d_La_law_505 (lv_at hl 1 rfl) ?_
        refine lv_icmp_eq (tgt := 512) hx hb d_La_law_507 (by decide) (fun c507 => ?_) (fun c507 => ?_)
        · have b507 : 1 = 1 := (nI_eq (a := 1) (b := 1) (by omega) (by omega)).mp c507
          refine lv_iload hx hb d_La_law_512 (lv_at hl 1 rfl) ?_
          refine lv_if_ne (tgt := 529) hx hb d_La_law_514 (by decide) (fun c514 => ?_) (fun c514 => ?_)
          · have b514 : ¬ 1 = 0 := fun q => c514 ((nI_eq (a := 1) (b := 0) (by omega) (by omega)).mpr q)
            refine lv_goto (tgt := 926) hx hb d_La_law_529 (by decide) ?_
            refine lv_iinc (v := nI (0 + 6)) (lv' := [(4, .int (nI (0 + 6))), (6, .int 0), (5, .int 1), (3, .ref q17), (2, .ref q8), (1, .ref q0), (0, .ref sc)]) hx hb d_La_law_926 hl (k := 2) rfl (nI_add 0 6) (by decide) rfl (fun ls hl => ?_)
            refine lv_goto (tgt := 23) hx hb d_La_law_929 (by decide) ?_
            refine lv_iload hx hb d_La_law_23 (lv_at hl 0 rfl) ?_
            refine lv_aload_n hx hb d_La_law_25 rfl (lv_at hl 6 rfl) ?_
            refine va_slen hx hb hX hbl hbA hS d_La_law_26 ?_
            refine lv_bipush (v := 6) hx hb d_La_law_27 (by decide) ?_
            refine lv_isub hx hb d_La_law_29 ?_
            refine zi_as (y := 0) (by decide) ?_
            refine lv_icmp_gt (tgt := 932) hx hb d_La_law_30 (by decide) (fun c30 => ?_) (fun c30 => ?_)
            · have b30 : 0 < (0 + 6) := (nI_ltI (a := 0) (b := (0 + 6)) (by omega) (by omega)).mp c30
              refine lv_iconst (v := 1) hx hb d_La_law_932 (by decide) ?_
              exact va_forget (fun q hq => by rw [← hbE]; exact hS.2.2 q hq) (W.widen (k := 600002) (n := 7302232) (by decide) (by decide) (lw_ret hx hb hr hlocks d_La_law_933))
            · have b30 : ¬ 0 < (0 + 6) := fun q => c30 ((nI_ltI (a := 0) (b := (0 + 6)) (by omega) (by omega)).mpr q)
              exact absurd b30 (by decide)
          · have b514 : 1 = 0 := (nI_eq (a := 1) (b := 0) (by omega) (by omega)).mp c514
            exact absurd b514 (by decide)
        · have b507 : ¬ 1 = 1 := fun q => c507 ((nI_eq (a := 1) (b := 1) (by omega) (by omega)).mpr q)
          exact absurd b507 (by decide)
      by_cases s40_6 : ((xs 0) &&& 15) = 6
      · refine lv_tableIn (off := 492) (tgt := 532) hx hb d_La_law_40 (by rw [s40_6]; decide) (by rw [s40_6]; decide) (by rw [s40_6]; rfl) (by decide) ?_
        refine lv_aload_n hx hb d_La_law_532 rfl (lv_at hl 3 rfl) ?_
        refine lv_aload_n hx hb d_La_law_533 rfl (lv_at hl 4 rfl) ?_
        refine lv_iload hx hb d_La_law_534 (lv_at hl 0 rfl) ?_
        refine lv_iconst (v := 1) hx hb d_La_law_536 (by decide) ?_
        refine lv_iadd hx hb d_La_law_537 ?_
        refine zi_as (y := nI (0 + 1)) (nI_add 0 1) ?_
        refine va_sld hx hb hX hbl hbA hS (vp_in_nI (by omega) (by omega)) d_La_law_538 ?_
        refine zi_as (y := xs (0 + 1)) (by rw [zi_n _ (by omega)]) ?_
        have hGo539 := hG
        refine zk_i (va_runV (As := [.int (xs (0 + 1))]) (rest := []) ⟨hx, hb, hml, hown, hts⟩ (t_ZA_serial_f l E G47 q0 ta zo an b la x st sd o ol da dx d0 d1 d3 bt s1 s2 s3 r1 r2 r3 hF3 (xs (0 + 1))) (zcV 1 hts w_713 w_714 w_715 w_1 w_716 (by decide +kernel) ⟨Nat.le_of_ble_eq_true rfl, Nat.le_of_ble_eq_true rfl⟩) (zc_preV hbase hK hN hQ hG hS k48 rfl) rfl rfl hl.1 rfl (lv_room (Nat.le_of_ble_eq_true rfl)) d_La_law_539 ⟨(by decide), (by decide)⟩) hS (fun r539 G539 H locs hp539 hG hS => ?_)
        obtain ⟨er, hx539⟩ := hp539
        refine zi_as (y := 1) er ?_
        have hM4 : zMod E G539 q8 m1 m3 m4 m6 m7 m8 m9 m10 m11 m12 m15 m18 rq dt := zMod.keep (show zMod E G47 q8 m1 m3 m4 m6 m7 m8 m9 m10 m11 m12 m15 m18 rq dt from ⟨k54, k55, k56, k57, k58, k59⟩) hx539 (fun z => z.elim (Ne.symm ne8_zo) (fun z => z.elim (Ne.symm ne8_da) (Ne.symm ne8_d3))) (fun z => z.elim (Ne.symm ne_m1_zo) (fun z => z.elim (Ne.symm ne_m1_da) (Ne.symm ne_m1_d3))) (fun z => z.elim (Ne.symm ne_m3_zo) (fun z => z.elim (Ne.symm ne_m3_da) (Ne.symm ne_m3_d3))) (fun z => z.elim (Ne.symm ne_m4_zo) (fun z => z.elim (Ne.symm ne_m4_da) (Ne.symm ne_m4_d3))) (fun z => z.elim (Ne.symm ne_rq_zo) (fun z => z.elim (Ne.symm ne_rq_da) (Ne.symm ne_rq_d3))) (fun z => z.elim (Ne.symm ne_dt_zo) (fun z => z.elim (Ne.symm ne_dt_da) (Ne.symm ne_dt_d3)))
        obtain ⟨km0, km1, km3, km4, krq, kdt⟩ := id hM4
        refine lv_aload_n hx hb d_La_law_542 rfl (lv_at hl 2 rfl) ?_
        refine lv_aload_n hx hb d_La_law_543 rfl (lv_at hl 4 rfl) ?_
        refine lv_iload hx hb d_La_law_544 (lv_at hl 0 rfl) ?_
        refine lv_iconst (v := 1) hx hb d_La_law_546 (by decide) ?_
        refine lv_iadd hx hb d_La_law_547 ?_
        refine zi_as (y := nI (0 + 1)) (nI_add 0 1) ?_
        refine va_sld hx hb hX hbl hbA hS (vp_in_nI (by omega) (by omega)) d_La_law_548 ?_
        refine zi_as (y := xs (0 + 1)) (by rw [zi_n _ (by omega)]) ?_
        have hGo549 := hG
        refine zk_i (va_runV (As := [.int (xs (0 + 1))]) (rest := [.int 1]) ⟨hx, hb, hml, hown, hts⟩ (t_Mo_serial_f l E G539 q8 m1 m3 m4 m6 m7 m8 m9 m10 m11 m12 m15 m18 rq dt ⟨km0, km1, km3, km4, krq, kdt⟩ (xs (0 + 1))) (zcV 1 hts w_1437 w_1438 w_1439 w_30 w_1440 (by decide +kernel) ⟨Nat.le_of_ble_eq_true rfl, Nat.le_of_ble_eq_true rfl⟩) (zc_preV hbase hK hN hQ hG hS km0 rfl) rfl rfl hl.1 rfl (lv_room (Nat.le_of_ble_eq_true rfl)) d_La_law_549 ⟨(by decide), (by decide)⟩) hS (fun r549 G549 H locs hp549 hG hS => ?_)
        refine zi_as (y := 1) hp549 ?_
        refine lv_icmp_eq (tgt := 926) hx hb d_La_law_552 (by decide) (fun c552 => ?_) (fun c552 => ?_)
        · have b552 : 1 = 1 := (nI_eq (a := 1) (b := 1) (by omega) (by omega)).mp c552
          refine lv_iinc (v := nI (0 + 6)) (lv' := [(4, .int (nI (0 + 6))), (3, .ref q17), (2, .ref q8), (1, .ref q0), (0, .ref sc)]) hx hb d_La_law_926 hl (k := 0) rfl (nI_add 0 6) (by decide) rfl (fun ls hl => ?_)
          refine lv_goto (tgt := 23) hx hb d_La_law_929 (by decide) ?_
          refine lv_iload hx hb d_La_law_23 (lv_at hl 0 rfl) ?_
          refine lv_aload_n hx hb d_La_law_25 rfl (lv_at hl 4 rfl) ?_
          refine va_slen hx hb hX hbl hbA hS d_La_law_26 ?_
          refine lv_bipush (v := 6) hx hb d_La_law_27 (by decide) ?_
          refine lv_isub hx hb d_La_law_29 ?_
          refine zi_as (y := 0) (by decide) ?_
          refine lv_icmp_gt (tgt := 932) hx hb d_La_law_30 (by decide) (fun c30 => ?_) (fun c30 => ?_)
          · have b30 : 0 < (0 + 6) := (nI_ltI (a := 0) (b := (0 + 6)) (by omega) (by omega)).mp c30
            refine lv_iconst (v := 1) hx hb d_La_law_932 (by decide) ?_
            exact va_forget (fun q hq => by rw [← hbE]; exact hS.2.2 q hq) (W.widen (k := 600002) (n := 7302232) (by decide) (by decide) (lw_ret hx hb hr hlocks d_La_law_933))
          · have b30 : ¬ 0 < (0 + 6) := fun q => c30 ((nI_ltI (a := 0) (b := (0 + 6)) (by omega) (by omega)).mpr q)
            exact absurd b30 (by decide)
        · have b552 : ¬ 1 = 1 := fun q => c552 ((nI_eq (a := 1) (b := 1) (by omega) (by omega)).mpr q)
          exact absurd b552 (by decide)
      by_cases s40_7 : ((xs 0) &&& 15) = 7
      · refine lv_tableIn (off := 517) (tgt := 557) hx hb d_La_law_40 (by rw [s40_7]; decide) (by rw [s40_7]; decide) (by rw [s40_7]; rfl) (by decide) ?_
        refine lv_aload_n hx hb d_La_law_557 rfl (lv_at hl 3 rfl) ?_
        refine lv_aload_n hx hb d_La_law_558 rfl (lv_at hl 4 rfl) ?_
        refine lv_iload hx hb d_La_law_559 (lv_at hl 0 rfl) ?_
        refine lv_iconst (v := 1) hx hb d_La_law_561 (by decide) ?_
        refine lv_iadd hx hb d_La_law_562 ?_
        refine zi_as (y := nI (0 + 1)) (nI_add 0 1) ?_
        refine va_sld hx hb hX hbl hbA hS (vp_in_nI (by omega) (by omega)) d_La_law_563 ?_
        refine zi_as (y := xs (0 + 1)) (by rw [zi_n _ (by omega)]) ?_
        refine lv_aload_n hx hb d_La_law_564 rfl (lv_at hl 4 rfl) ?_
        refine lv_iload hx hb d_La_law_565 (lv_at hl 0 rfl) ?_
        refine lv_iconst (v := 2) hx hb d_La_law_567 (by decide) ?_
        refine lv_iadd hx hb d_La_law_568 ?_
        refine zi_as (y := nI (0 + 2)) (nI_add 0 2) ?_
        refine va_sld hx hb hX hbl hbA hS (vp_in_nI (by omega) (by omega)) d_La_law_569 ?_
        refine zi_as (y := xs (0 + 2)) (by rw [zi_n _ (by omega)]) ?_
        refine lv_if_eq (tgt := 577) hx hb d_La_law_570 (by decide) (fun c570 => ?_) (fun c570 => ?_)
        · refine lv_iconst (v := 0) hx hb d_La_law_577 (by decide) ?_
          refine lv_aload_n hx hb d_La_law_578 rfl (lv_at hl 1 rfl) ?_
          have hGo579 := hG
          refine zk_i (zl_runS (n := 4) (As := [.ref q0, .int (xs (0 + 1)), .int 0, .ref q17]) (rest := []) ⟨hx, hb, hml, hown, hts⟩ (t_La_ask_f l hoff E G47 q0 ta zo an b la x st sd o ol da dx d0 d1 d3 bt s1 s2 s3 r1 r2 r3 hF3 q17 (fun _ => 0) k60 (xs (0 + 1)) 0) w_1001 w_1002 w_0 w_1003 (by decide +kernel) ⟨Nat.le_of_ble_eq_true rfl, Nat.le_of_ble_eq_true rfl⟩ (zc_pre hbase hK hN hQ hG hS) rfl rfl hl.1 rfl (lv_room (Nat.le_of_ble_eq_true rfl)) d_La_law_579 ⟨(by decide), (by decide)⟩) hS (fun r579 G579 H locs hp579 hG hS => ?_)
          have hG : zP E G47 H := hp579.2 ▸ hG
          refine zi_as (y := 1) hp579.1 ?_
          refine lv_istore (lv' := [(5, .int 1), (4, .int (nI 0)), (3, .ref q17), (2, .ref q8), (1, .ref q0), (0, .ref sc)]) hx hb d_La_law_582 hl (by decide) rfl (fun ls hl => ?_)
          refine lv_aload_n hx hb d_La_law_584 rfl (lv_at hl 3 rfl) ?_
          refine lv_aload_n hx hb d_La_law_585 rfl (lv_at hl 5 rfl) ?_
          refine lv_iload hx hb d_La_law_586 (lv_at hl 1 rfl) ?_
          refine lv_iconst (v := 1) hx hb d_La_law_588 (by decide) ?_
          refine lv_iadd hx hb d_La_law_589 ?_
          refine zi_as (y := nI (0 + 1)) (nI_add 0 1) ?_
          refine va_sld hx hb hX hbl hbA hS (vp_in_nI (by omega) (by omega)) d_La_law_590 ?_
          refine zi_as (y := xs (0 + 1)) (by rw [zi_n _ (by omega)]) ?_
          refine lv_aload_n hx hb d_La_law_591 rfl (lv_at hl 5 rfl) ?_
          refine lv_iload hx hb d_La_law_592 (lv_at hl 1 rfl) ?_
          refine lv_iconst (v := 2) hx hb d_La_law_594 (by decide) ?_
          refine lv_iadd hx hb d_La_law_595 ?_
          refine zi_as (y := nI (0 + 2)) (nI_add 0 2) ?_
          refine va_sld hx hb hX hbl hbA hS (vp_in_nI (by omega) (by omega)) d_La_law_596 ?_
          refine zi_as (y := xs (0 + 2)) (by rw [zi_n _ (by omega)]) ?_
          refine lv_if_eq (tgt := 604) hx hb d_La_law_597 (by decide) (fun c597 => ?_) (fun c597 => ?_)
          · refine lv_iconst (v := 0) hx hb d_La_law_604 (by decide) ?_
            have hGo605 := hG
            refine zk_i (va_runV (As := [.int (xs (0 + 1)), .int 0]) (rest := []) ⟨hx, hb, hml, hown, hts⟩ (t_Mo_ask_f l E G47 q8 m1 m3 m4 m6 m7 m8 m9 m10 m11 m12 m15 m18 rq dt ⟨k54, k55, k56, k57, k58, k59⟩ (xs (0 + 1)) 0) (zcV 2 hts w_1448 w_1449 w_1450 w_30 w_1451 (by decide +kernel) ⟨Nat.le_of_ble_eq_true rfl, Nat.le_of_ble_eq_true rfl⟩) (zc_preV hbase hK hN hQ hG hS k54 rfl) rfl rfl hl.1 rfl (lv_room (Nat.le_of_ble_eq_true rfl)) d_La_law_605 ⟨(by decide), (by decide)⟩) hS (fun r605 G605 H locs hp605 hG hS => ?_)
            obtain ⟨er, hx605, hk605⟩ := hp605
            refine zi_as (y := 0) er ?_
            have ko : G605 q17 = some (.inl (E.2.1 2, 1, .inr (.inl (fun _ => 0)))) := hx605 _ _ (Ne.symm ne17_q8) k60
            refine lv_istore (lv' := [(6, .int 0), (5, .int 1), (4, .int (nI 0)), (3, .ref q17), (2, .ref q8), (1, .ref q0), (0, .ref sc)]) hx hb d_La_law_608 hl (by decide) rfl (fun ls hl => ?_)
            refine lv_aload_n hx hb d_La_law_610 rfl (lv_at hl 4 rfl) ?_
            refine zk_i (va_runV (As := []) (rest := []) ⟨hx, hb, hml, hown, hts⟩ (t_Mo_thrown l E G605 q8 m1 m3 m4 m6 m7 m8 m9 m10 m11 m12 m15 m18 1 (nI 0) 1 0 0 0 0 .null .null hk605) (zcV 0 hts w_1345 w_1346 w_1347 w_30 w_1348 (by decide +kernel) ⟨Nat.le_of_ble_eq_true rfl, Nat.le_of_ble_eq_true rfl⟩) (zc_preV hbase hK hN hQ hG hS hk605 rfl) rfl rfl hl.1 rfl (lv_room (Nat.le_of_ble_eq_true rfl)) d_La_law_611 ⟨(by decide), (by decide)⟩) hS (fun r611 G611 H locs hp611 hG hS => ?_)
            have hG : zP E G605 H := hp611.2 ▸ hG
            refine zi_as (y := 1) hp611.1 ?_
            refine lv_iload hx hb d_La_law_614 (lv_at hl 1 rfl) ?_
            refine lv_icmp_eq (tgt := 621) hx hb d_La_law_616 (by decide) (fun c616 => ?_) (fun c616 => ?_)
            · have b616 : 1 = 1 := (nI_eq (a := 1) (b := 1) (by omega) (by omega)).mp c616
              refine lv_iload hx hb d_La_law_621 (lv_at hl 1 rfl) ?_
              refine lv_if_ne (tgt := 638) hx hb d_La_law_623 (by decide) (fun c623 => ?_) (fun c623 => ?_)
              · have b623 : ¬ 1 = 0 := fun q => c623 ((nI_eq (a := 1) (b := 0) (by omega) (by omega)).mpr q)
                refine lv_goto (tgt := 926) hx hb d_La_law_638 (by decide) ?_
                refine lv_iinc (v := nI (0 + 6)) (lv' := [(4, .int (nI (0 + 6))), (6, .int 0), (5, .int 1), (3, .ref q17), (2, .ref q8), (1, .ref q0), (0, .ref sc)]) hx hb d_La_law_926 hl (k := 2) rfl (nI_add 0 6) (by decide) rfl (fun ls hl => ?_)
                refine lv_goto (tgt := 23) hx hb d_La_law_929 (by decide) ?_
                refine lv_iload hx hb d_La_law_23 (lv_at hl 0 rfl) ?_
                refine lv_aload_n hx hb d_La_law_25 rfl (lv_at hl 6 rfl) ?_
                refine va_slen hx hb hX hbl hbA hS d_La_law_26 ?_
                refine lv_bipush (v := 6) hx hb d_La_law_27 (by decide) ?_
                refine lv_isub hx hb d_La_law_29 ?_
                refine zi_as (y := 0) (by decide) ?_
                refine lv_icmp_gt (tgt := 932) hx hb d_La_law_30 (by decide) (fun c30 => ?_) (fun c30 => ?_)
                · have b30 : 0 < (0 + 6) := (nI_ltI (a := 0) (b := (0 + 6)) (by omega) (by omega)).mp c30
                  refine lv_iconst (v := 1) hx hb d_La_law_932 (by decide) ?_
                  exact va_forget (fun q hq => by rw [← hbE]; exact hS.2.2 q hq) (W.widen (k := 600002) (n := 7302232) (by decide) (by decide) (lw_ret hx hb hr hlocks d_La_law_933))
                · have b30 : ¬ 0 < (0 + 6) := fun q => c30 ((nI_ltI (a := 0) (b := (0 + 6)) (by omega) (by omega)).mpr q)
                  exact absurd b30 (by decide)
              · have b623 : 1 = 0 := (nI_eq (a := 1) (b := 0) (by omega) (by omega)).mp c623
                exact absurd b623 (by decide)
            · have b616 : ¬ 1 = 1 := fun q => c616 ((nI_eq (a := 1) (b := 1) (by omega) (by omega)).mpr q)
              exact absurd b616 (by decide)
          · refine lv_iconst (v := 1) hx hb d_La_law_600 (by decide) ?_
            refine lv_goto (tgt := 605) hx hb d_La_law_601 (by decide) ?_
            have hGo605 := hG
            refine zk_i (va_runV (As := [.int (xs (0 + 1)), .int 1]) (rest := []) ⟨hx, hb, hml, hown, hts⟩ (t_Mo_ask_f l E G47 q8 m1 m3 m4 m6 m7 m8 m9 m10 m11 m12 m15 m18 rq dt ⟨k54, k55, k56, k57, k58, k59⟩ (xs (0 + 1)) 1) (zcV 2 hts w_1448 w_1449 w_1450 w_30 w_1451 (by decide +kernel) ⟨Nat.le_of_ble_eq_true rfl, Nat.le_of_ble_eq_true rfl⟩) (zc_preV hbase hK hN hQ hG hS k54 rfl) rfl rfl hl.1 rfl (lv_room (Nat.le_of_ble_eq_true rfl)) d_La_law_605 ⟨(by decide), (by decide)⟩) hS (fun r605 G605 H locs hp605 hG hS => ?_)
            obtain ⟨er, hx605, hk605⟩ := hp605
            refine zi_as (y := 0) er ?_
            have ko : G605 q17 = some (.inl (E.2.1 2, 1, .inr (.inl (fun _ => 0)))) := hx605 _ _ (Ne.symm ne17_q8) k60
            refine lv_istore (lv' := [(6, .int 0), (5, .int 1), (4, .int (nI 0)), (3, .ref q17), (2, .ref q8), (1, .ref q0), (0, .ref sc)]) hx hb d_La_law_608 hl (by decide) rfl (fun ls hl => ?_)
            refine lv_aload_n hx hb d_La_law_610 rfl (lv_at hl 4 rfl) ?_
            refine zk_i (va_runV (As := []) (rest := []) ⟨hx, hb, hml, hown, hts⟩ (t_Mo_thrown l E G605 q8 m1 m3 m4 m6 m7 m8 m9 m10 m11 m12 m15 m18 1 (nI 0) 1 0 0 0 0 .null .null hk605) (zcV 0 hts w_1345 w_1346 w_1347 w_30 w_1348 (by decide +kernel) ⟨Nat.le_of_ble_eq_true rfl, Nat.le_of_ble_eq_true rfl⟩) (zc_preV hbase hK hN hQ hG hS hk605 rfl) rfl rfl hl.1 rfl (lv_room (Nat.le_of_ble_eq_true rfl)) d_La_law_611 ⟨(by decide), (by decide)⟩) hS (fun r611 G611 H locs hp611 hG hS => ?_)
            have hG : zP E G605 H := hp611.2 ▸ hG
            refine zi_as (y := 1) hp611.1 ?_
            refine lv_iload hx hb d_La_law_614 (lv_at hl 1 rfl) ?_
            refine lv_icmp_eq (tgt := 621) hx hb d_La_law_616 (by decide) (fun c616 => ?_) (fun c616 => ?_)
            · have b616 : 1 = 1 := (nI_eq (a := 1) (b := 1) (by omega) (by omega)).mp c616
              refine lv_iload hx hb d_La_law_621 (lv_at hl 1 rfl) ?_
              refine lv_if_ne (tgt := 638) hx hb d_La_law_623 (by decide) (fun c623 => ?_) (fun c623 => ?_)
              · have b623 : ¬ 1 = 0 := fun q => c623 ((nI_eq (a := 1) (b := 0) (by omega) (by omega)).mpr q)
                refine lv_goto (tgt := 926) hx hb d_La_law_638 (by decide) ?_
                refine lv_iinc (v := nI (0 + 6)) (lv' := [(4, .int (nI (0 + 6))), (6, .int 0), (5, .int 1), (3, .ref q17), (2, .ref q8), (1, .ref q0), (0, .ref sc)]) hx hb d_La_law_926 hl (k := 2) rfl (nI_add 0 6) (by decide) rfl (fun ls hl => ?_)
                refine lv_goto (tgt := 23) hx hb d_La_law_929 (by decide) ?_
                refine lv_iload hx hb d_La_law_23 (lv_at hl 0 rfl) ?_
                refine lv_aload_n hx hb d_La_law_25 rfl (lv_at hl 6 rfl) ?_
                refine va_slen hx hb hX hbl hbA hS d_La_law_26 ?_
                refine lv_bipush (v := 6) hx hb d_La_law_27 (by decide) ?_
                refine lv_isub hx hb d_La_law_29 ?_
                refine zi_as (y := 0) (by decide) ?_
                refine lv_icmp_gt (tgt := 932) hx hb d_La_law_30 (by decide) (fun c30 => ?_) (fun c30 => ?_)
                · have b30 : 0 < (0 + 6) := (nI_ltI (a := 0) (b := (0 + 6)) (by omega) (by omega)).mp c30
                  refine lv_iconst (v := 1) hx hb d_La_law_932 (by decide) ?_
                  exact va_forget (fun q hq => by rw [← hbE]; exact hS.2.2 q hq) (W.widen (k := 600002) (n := 7302232) (by decide) (by decide) (lw_ret hx hb hr hlocks d_La_law_933))
                · have b30 : ¬ 0 < (0 + 6) := fun q => c30 ((nI_ltI (a := 0) (b := (0 + 6)) (by omega) (by omega)).mpr q)
                  exact absurd b30 (by decide)
              · have b623 : 1 = 0 := (nI_eq (a := 1) (b := 0) (by omega) (by omega)).mp c623
                exact absurd b623 (by decide)
            · have b616 : ¬ 1 = 1 := fun q => c616 ((nI_eq (a := 1) (b := 1) (by omega) (by omega)).mpr q)
              exact absurd b616 (by decide)
        · refine lv_iconst (v := 1) hx hb d_La_law_573 (by decide) ?_
          refine lv_goto (tgt := 578) hx hb d_La_law_574 (by decide) ?_
          refine lv_aload_n hx hb d_La_law_578 rfl (lv_at hl 1 rfl) ?_
          have hGo579 := hG
          refine zk_i (zl_runS (n := 4) (As := [.ref q0, .int (xs (0 + 1)), .int 1, .ref q17]) (rest := []) ⟨hx, hb, hml, hown, hts⟩ (t_La_ask_f l hoff E G47 q0 ta zo an b la x st sd o ol da dx d0 d1 d3 bt s1 s2 s3 r1 r2 r3 hF3 q17 (fun _ => 0) k60 (xs (0 + 1)) 1) w_1001 w_1002 w_0 w_1003 (by decide +kernel) ⟨Nat.le_of_ble_eq_true rfl, Nat.le_of_ble_eq_true rfl⟩ (zc_pre hbase hK hN hQ hG hS) rfl rfl hl.1 rfl (lv_room (Nat.le_of_ble_eq_true rfl)) d_La_law_579 ⟨(by decide), (by decide)⟩) hS (fun r579 G579 H locs hp579 hG hS => ?_)
          have hG : zP E G47 H := hp579.2 ▸ hG
          refine zi_as (y := 1) hp579.1 ?_
          refine lv_istore (lv' := [(5, .int 1), (4, .int (nI 0)), (3, .ref q17), (2, .ref q8), (1, .ref q0), (0, .ref sc)]) hx hb d_La_law_582 hl (by decide) rfl (fun ls hl => ?_)
          refine lv_aload_n hx hb d_La_law_584 rfl (lv_at hl 3 rfl) ?_
          refine lv_aload_n hx hb d_La_law_585 rfl (lv_at hl 5 rfl) ?_
          refine lv_iload hx hb d_La_law_586 (lv_at hl 1 rfl) ?_
          refine lv_iconst (v := 1) hx hb d_La_law_588 (by decide) ?_
          refine lv_iadd hx hb d_La_law_589 ?_
          refine zi_as (y := nI (0 + 1)) (nI_add 0 1) ?_
          refine va_sld hx hb hX hbl hbA hS (vp_in_nI (by omega) (by omega)) d_La_law_590 ?_
          refine zi_as (y := xs (0 + 1)) (by rw [zi_n _ (by omega)]) ?_
          refine lv_aload_n hx hb d_La_law_591 rfl (lv_at hl 5 rfl) ?_
          refine lv_iload hx hb d_La_law_592 (lv_at hl 1 rfl) ?_
          refine lv_iconst (v := 2) hx hb d_La_law_594 (by decide) ?_
          refine lv_iadd hx hb d_La_law_595 ?_
          refine zi_as (y := nI (0 + 2)) (nI_add 0 2) ?_
          refine va_sld hx hb hX hbl hbA hS (vp_in_nI (by omega) (by omega)) d_La_law_596 ?_
          refine zi_as (y := xs (0 + 2)) (by rw [zi_n _ (by omega)]) ?_
          refine lv_if_eq (tgt := 604) hx hb d_La_law_597 (by decide) (fun c597 => ?_) (fun c597 => ?_)
          · refine lv_iconst (v := 0) hx hb d_La_law_604 (by decide) ?_
            have hGo605 := hG
            refine zk_i (va_runV (As := [.int (xs (0 + 1)), .int 0]) (rest := []) ⟨hx, hb, hml, hown, hts⟩ (t_Mo_ask_f l E G47 q8 m1 m3 m4 m6 m7 m8 m9 m10 m11 m12 m15 m18 rq dt ⟨k54, k55, k56, k57, k58, k59⟩ (xs (0 + 1)) 0) (zcV 2 hts w_1448 w_1449 w_1450 w_30 w_1451 (by decide +kernel) ⟨Nat.le_of_ble_eq_true rfl, Nat.le_of_ble_eq_true rfl⟩) (zc_preV hbase hK hN hQ hG hS k54 rfl) rfl rfl hl.1 rfl (lv_room (Nat.le_of_ble_eq_true rfl)) d_La_law_605 ⟨(by decide), (by decide)⟩) hS (fun r605 G605 H locs hp605 hG hS => ?_)
            obtain ⟨er, hx605, hk605⟩ := hp605
            refine zi_as (y := 0) er ?_
            have ko : G605 q17 = some (.inl (E.2.1 2, 1, .inr (.inl (fun _ => 0)))) := hx605 _ _ (Ne.symm ne17_q8) k60
            refine lv_istore (lv' := [(6, .int 0), (5, .int 1), (4, .int (nI 0)), (3, .ref q17), (2, .ref q8), (1, .ref q0), (0, .ref sc)]) hx hb d_La_law_608 hl (by decide) rfl (fun ls hl => ?_)
            refine lv_aload_n hx hb d_La_law_610 rfl (lv_at hl 4 rfl) ?_
            refine zk_i (va_runV (As := []) (rest := []) ⟨hx, hb, hml, hown, hts⟩ (t_Mo_thrown l E G605 q8 m1 m3 m4 m6 m7 m8 m9 m10 m11 m12 m15 m18 1 (nI 0) 1 0 0 0 0 .null .null hk605) (zcV 0 hts w_1345 w_1346 w_1347 w_30 w_1348 (by decide +kernel) ⟨Nat.le_of_ble_eq_true rfl, Nat.le_of_ble_eq_true rfl⟩) (zc_preV hbase hK hN hQ hG hS hk605 rfl) rfl rfl hl.1 rfl (lv_room (Nat.le_of_ble_eq_true rfl)) d_La_law_611 ⟨(by decide), (by decide)⟩) hS (fun r611 G611 H locs hp611 hG hS => ?_)
            have hG : zP E G605 H := hp611.2 ▸ hG
            refine zi_as (y := 1) hp611.1 ?_
            refine lv_iload hx hb d_La_law_614 (lv_at hl 1 rfl) ?_
            refine lv_icmp_eq (tgt := 621) hx hb d_La_law_616 (by decide) (fun c616 => ?_) (fun c616 => ?_)
            · have b616 : 1 = 1 := (nI_eq (a := 1) (b := 1) (by omega) (by omega)).mp c616
              refine lv_iload hx hb d_La_law_621 (lv_at hl 1 rfl) ?_
              refine lv_if_ne (tgt := 638) hx hb d_La_law_623 (by decide) (fun c623 => ?_) (fun c623 => ?_)
              · have b623 : ¬ 1 = 0 := fun q => c623 ((nI_eq (a := 1) (b := 0) (by omega) (by omega)).mpr q)
                refine lv_goto (tgt := 926) hx hb d_La_law_638 (by decide) ?_
                refine lv_iinc (v := nI (0 + 6)) (lv' := [(4, .int (nI (0 + 6))), (6, .int 0), (5, .int 1), (3, .ref q17), (2, .ref q8), (1, .ref q0), (0, .ref sc)]) hx hb d_La_law_926 hl (k := 2) rfl (nI_add 0 6) (by decide) rfl (fun ls hl => ?_)
                refine lv_goto (tgt := 23) hx hb d_La_law_929 (by decide) ?_
                refine lv_iload hx hb d_La_law_23 (lv_at hl 0 rfl) ?_
                refine lv_aload_n hx hb d_La_law_25 rfl (lv_at hl 6 rfl) ?_
                refine va_slen hx hb hX hbl hbA hS d_La_law_26 ?_
                refine lv_bipush (v := 6) hx hb d_La_law_27 (by decide) ?_
                refine lv_isub hx hb d_La_law_29 ?_
                refine zi_as (y := 0) (by decide) ?_
                refine lv_icmp_gt (tgt := 932) hx hb d_La_law_30 (by decide) (fun c30 => ?_) (fun c30 => ?_)
                · have b30 : 0 < (0 + 6) := (nI_ltI (a := 0) (b := (0 + 6)) (by omega) (by omega)).mp c30
                  refine lv_iconst (v := 1) hx hb d_La_law_932 (by decide) ?_
                  exact va_forget (fun q hq => by rw [← hbE]; exact hS.2.2 q hq) (W.widen (k := 600002) (n := 7302232) (by decide) (by decide) (lw_ret hx hb hr hlocks d_La_law_933))
                · have b30 : ¬ 0 < (0 + 6) := fun q => c30 ((nI_ltI (a := 0) (b := (0 + 6)) (by omega) (by omega)).mpr q)
                  exact absurd b30 (by decide)
              · have b623 : 1 = 0 := (nI_eq (a := 1) (b := 0) (by omega) (by omega)).mp c623
                exact absurd b623 (by decide)
            · have b616 : ¬ 1 = 1 := fun q => c616 ((nI_eq (a := 1) (b := 1) (by omega) (by omega)).mpr q)
              exact absurd b616 (by decide)
          · refine lv_iconst (v := 1) hx hb d_La_law_600 (by decide) ?_
            refine lv_goto (tgt := 605) hx hb d_La_law_601 (by decide) ?_
            have hGo605 := hG
            refine zk_i (va_runV (As := [.int (xs (0 + 1)), .int 1]) (rest := []) ⟨hx, hb, hml, hown, hts⟩ (t_Mo_ask_f l E G47 q8 m1 m3 m4 m6 m7 m8 m9 m10 m11 m12 m15 m18 rq dt ⟨k54, k55, k56, k57, k58, k59⟩ (xs (0 + 1)) 1) (zcV 2 hts w_1448 w_1449 w_1450 w_30 w_1451 (by decide +kernel) ⟨Nat.le_of_ble_eq_true rfl, Nat.le_of_ble_eq_true rfl⟩) (zc_preV hbase hK hN hQ hG hS k54 rfl) rfl rfl hl.1 rfl (lv_room (Nat.le_of_ble_eq_true rfl)) d_La_law_605 ⟨(by decide), (by decide)⟩) hS (fun r605 G605 H locs hp605 hG hS => ?_)
            obtain ⟨er, hx605, hk605⟩ := hp605
            refine zi_as (y := 0) er ?_
            have ko : G605 q17 = some (.inl (E.2.1 2, 1, .inr (.inl (fun _ => 0)))) := hx605 _ _ (Ne.symm ne17_q8) k60
            refine lv_istore (lv' := [(6, .int 0), (5, .int 1), (4, .int (nI 0)), (3, .ref q17), (2, .ref q8), (1, .ref q0), (0, .ref sc)]) hx hb d_La_law_608 hl (by decide) rfl (fun ls hl => ?_)
            refine lv_aload_n hx hb d_La_law_610 rfl (lv_at hl 4 rfl) ?_
            refine zk_i (va_runV (As := []) (rest := []) ⟨hx, hb, hml, hown, hts⟩ (t_Mo_thrown l E G605 q8 m1 m3 m4 m6 m7 m8 m9 m10 m11 m12 m15 m18 1 (nI 0) 1 0 0 0 0 .null .null hk605) (zcV 0 hts w_1345 w_1346 w_1347 w_30 w_1348 (by decide +kernel) ⟨Nat.le_of_ble_eq_true rfl, Nat.le_of_ble_eq_true rfl⟩) (zc_preV hbase hK hN hQ hG hS hk605 rfl) rfl rfl hl.1 rfl (lv_room (Nat.le_of_ble_eq_true rfl)) d_La_law_611 ⟨(by decide), (by decide)⟩) hS (fun r611 G611 H locs hp611 hG hS => ?_)
            have hG : zP E G605 H := hp611.2 ▸ hG
            refine zi_as (y := 1) hp611.1 ?_
            refine lv_iload hx hb d_La_law_614 (lv_at hl 1 rfl) ?_
            refine lv_icmp_eq (tgt := 621) hx hb d_La_law_616 (by decide) (fun c616 => ?_) (fun c616 => ?_)
            · have b616 : 1 = 1 := (nI_eq (a := 1) (b := 1) (by omega) (by omega)).mp c616
              refine lv_iload hx hb d_La_law_621 (lv_at hl 1 rfl) ?_
              refine lv_if_ne (tgt := 638) hx hb d_La_law_623 (by decide) (fun c623 => ?_) (fun c623 => ?_)
              · have b623 : ¬ 1 = 0 := fun q => c623 ((nI_eq (a := 1) (b := 0) (by omega) (by omega)).mpr q)
                refine lv_goto (tgt := 926) hx hb d_La_law_638 (by decide) ?_
                refine lv_iinc (v := nI (0 + 6)) (lv' := [(4, .int (nI (0 + 6))), (6, .int 0), (5, .int 1), (3, .ref q17), (2, .ref q8), (1, .ref q0), (0, .ref sc)]) hx hb d_La_law_926 hl (k := 2) rfl (nI_add 0 6) (by decide) rfl (fun ls hl => ?_)
                refine lv_goto (tgt := 23) hx hb d_La_law_929 (by decide) ?_
                refine lv_iload hx hb d_La_law_23 (lv_at hl 0 rfl) ?_
                refine lv_aload_n hx hb d_La_law_25 rfl (lv_at hl 6 rfl) ?_
                refine va_slen hx hb hX hbl hbA hS d_La_law_26 ?_
                refine lv_bipush (v := 6) hx hb d_La_law_27 (by decide) ?_
                refine lv_isub hx hb d_La_law_29 ?_
                refine zi_as (y := 0) (by decide) ?_
                refine lv_icmp_gt (tgt := 932) hx hb d_La_law_30 (by decide) (fun c30 => ?_) (fun c30 => ?_)
                · have b30 : 0 < (0 + 6) := (nI_ltI (a := 0) (b := (0 + 6)) (by omega) (by omega)).mp c30
                  refine lv_iconst (v := 1) hx hb d_La_law_932 (by decide) ?_
                  exact va_forget (fun q hq => by rw [← hbE]; exact hS.2.2 q hq) (W.widen (k := 600002) (n := 7302232) (by decide) (by decide) (lw_ret hx hb hr hlocks d_La_law_933))
                · have b30 : ¬ 0 < (0 + 6) := fun q => c30 ((nI_ltI (a := 0) (b := (0 + 6)) (by omega) (by omega)).mpr q)
                  exact absurd b30 (by decide)
              · have b623 : 1 = 0 := (nI_eq (a := 1) (b := 0) (by omega) (by omega)).mp c623
                exact absurd b623 (by decide)
            · have b616 : ¬ 1 = 1 := fun q => c616 ((nI_eq (a := 1) (b := 1) (by omega) (by omega)).mpr q)
              exact absurd b616 (by decide)
      by_cases s40_8 : ((xs 0) &&& 15) = 8
      · refine lv_tableIn (off := 601) (tgt := 641) hx hb d_La_law_40 (by rw [s40_8]; decide) (by rw [s40_8]; decide) (by rw [s40_8]; rfl) (by decide) ?_
        refine lv_aload_n hx hb d_La_law_641 rfl (lv_at hl 3 rfl) ?_
        refine lv_aload_n hx hb d_La_law_642 rfl (lv_at hl 4 rfl) ?_
        refine lv_iload hx hb d_La_law_643 (lv_at hl 0 rfl) ?_
        refine lv_iconst (v := 1) hx hb d_La_law_645 (by decide) ?_
        refine lv_iadd hx hb d_La_law_646 ?_
        refine zi_as (y := nI (0 + 1)) (nI_add 0 1) ?_
        refine va_sld hx hb hX hbl hbA hS (vp_in_nI (by omega) (by omega)) d_La_law_647 ?_
        refine zi_as (y := xs (0 + 1)) (by rw [zi_n _ (by omega)]) ?_
        refine lv_aload_n hx hb d_La_law_648 rfl (lv_at hl 1 rfl) ?_
        have hGo649 := hG
        refine zk_i (zl_runS (n := 3) (As := [.ref q0, .int (xs (0 + 1)), .ref q17]) (rest := []) ⟨hx, hb, hml, hown, hts⟩ (t_La_records_f l hoff E G47 q0 ta zo an b la x st sd o ol da dx d0 d1 d3 bt s1 s2 s3 r1 r2 r3 hF3 q17 (fun _ => 0) k60 (xs (0 + 1))) w_1197 w_1198 w_0 w_1199 (by decide +kernel) ⟨Nat.le_of_ble_eq_true rfl, Nat.le_of_ble_eq_true rfl⟩ (zc_pre hbase hK hN hQ hG hS) rfl rfl hl.1 rfl (lv_room (Nat.le_of_ble_eq_true rfl)) d_La_law_649 ⟨(by decide), (by decide)⟩) hS (fun r649 G649 H locs hp649 hG hS => ?_)
        rcases hp649 with ⟨er, hcl, hx649, f2, ho2, e2⟩ | ⟨er, hcl, hx649, f2, ho2⟩
        · refine zi_as (y := 0) er ?_
          have hM4 : zMod E G649 q8 m1 m3 m4 m6 m7 m8 m9 m10 m11 m12 m15 m18 rq dt := zMod.keep (show zMod E G47 q8 m1 m3 m4 m6 m7 m8 m9 m10 m11 m12 m15 m18 rq dt from ⟨k54, k55, k56, k57, k58, k59⟩) hx649 (ne17_q8) (ne17_m1) (ne17_m3) (ne17_m4) (ne17_rq) (ne17_dt)
          obtain ⟨km0, km1, km3, km4, krq, kdt⟩ := id hM4
          refine lv_istore (lv' := [(5, .int 0), (4, .int (nI 0)), (3, .ref q17), (2, .ref q8), (1, .ref q0), (0, .ref sc)]) hx hb d_La_law_652 hl (by decide) rfl (fun ls hl => ?_)
          refine lv_aload_n hx hb d_La_law_654 rfl (lv_at hl 3 rfl) ?_
          refine lv_aload_n hx hb d_La_law_655 rfl (lv_at hl 5 rfl) ?_
          refine lv_iload hx hb d_La_law_656 (lv_at hl 1 rfl) ?_
          refine lv_iconst (v := 1) hx hb d_La_law_658 (by decide) ?_
          refine lv_iadd hx hb d_La_law_659 ?_
          refine zi_as (y := nI (0 + 1)) (nI_add 0 1) ?_
          refine va_sld hx hb hX hbl hbA hS (vp_in_nI (by omega) (by omega)) d_La_law_660 ?_
          refine zi_as (y := xs (0 + 1)) (by rw [zi_n _ (by omega)]) ?_
          have hGo661 := hG
          refine zk_i (va_runV (As := [.int (xs (0 + 1))]) (rest := []) ⟨hx, hb, hml, hown, hts⟩ (t_Mo_records_f l E G649 q8 m1 m3 m4 m6 m7 m8 m9 m10 m11 m12 m15 m18 rq dt ⟨km0, km1, km3, km4, krq, kdt⟩ (xs (0 + 1))) (zcV 1 hts w_1576 w_1577 w_1578 w_30 w_1579 (by decide +kernel) ⟨Nat.le_of_ble_eq_true rfl, Nat.le_of_ble_eq_true rfl⟩) (zc_preV hbase hK hN hQ hG hS km0 rfl) rfl rfl hl.1 rfl (lv_room (Nat.le_of_ble_eq_true rfl)) d_La_law_661 ⟨(by decide), (by decide)⟩) hS (fun r661 G661 H locs hp661 hG hS => ?_)
          rcases hp661 with ⟨er2, hx661, hcc⟩
          · rcases hcc with ⟨hcm, hk661⟩ | ⟨hcm, hk661⟩
            · exact absurd hcl (fun z => z.elim hcm.1 (fun z => z.elim hcm.2.1 hcm.2.2))
            · refine zi_as (y := 0) er2 ?_
              have ko : G661 q17 = some (.inl (E.2.1 2, 1, .inr (.inl f2))) := hx661 _ _ (Ne.symm ne17_q8) ho2
              refine lv_istore (lv' := [(6, .int 0), (5, .int 0), (4, .int (nI 0)), (3, .ref q17), (2, .ref q8), (1, .ref q0), (0, .ref sc)]) hx hb d_La_law_664 hl (by decide) rfl (fun ls hl => ?_)
              refine lv_aload_n hx hb d_La_law_666 rfl (lv_at hl 4 rfl) ?_
              refine zk_i (va_runV (As := []) (rest := []) ⟨hx, hb, hml, hown, hts⟩ (t_Mo_thrown l E G661 q8 m1 m3 m4 m6 m7 m8 m9 m10 m11 m12 m15 m18 0 (nI 0) 1 0 0 0 0 .null .null hk661) (zcV 0 hts w_1345 w_1346 w_1347 w_30 w_1348 (by decide +kernel) ⟨Nat.le_of_ble_eq_true rfl, Nat.le_of_ble_eq_true rfl⟩) (zc_preV hbase hK hN hQ hG hS hk661 rfl) rfl rfl hl.1 rfl (lv_room (Nat.le_of_ble_eq_true rfl)) d_La_law_667 ⟨(by decide), (by decide)⟩) hS (fun r667 G667 H locs hp667 hG hS => ?_)
              have hG : zP E G661 H := hp667.2 ▸ hG
              refine zi_as (y := 0) hp667.1 ?_
              refine lv_iload hx hb d_La_law_670 (lv_at hl 1 rfl) ?_
              refine lv_icmp_eq (tgt := 677) hx hb d_La_law_672 (by decide) (fun c672 => ?_) (fun c672 => ?_)
              · have b672 : 0 = 0 := (nI_eq (a := 0) (b := 0) (by omega) (by omega)).mp c672
                refine lv_iload hx hb d_La_law_677 (lv_at hl 1 rfl) ?_
                refine lv_if_ne (tgt := 694) hx hb d_La_law_679 (by decide) (fun c679 => ?_) (fun c679 => ?_)
                · have b679 : ¬ 0 = 0 := fun q => c679 ((nI_eq (a := 0) (b := 0) (by omega) (by omega)).mpr q)
                  exact absurd b679 (by decide)
                · have b679 : 0 = 0 := (nI_eq (a := 0) (b := 0) (by omega) (by omega)).mp c679
                  refine lv_aload_n hx hb d_La_law_682 rfl (lv_at hl 3 rfl) ?_
                  refine lv_iconst (v := 0) hx hb d_La_law_683 (by decide) ?_
                  refine zi_as (y := nI 0) (nI_0.symm) ?_
                  refine zg_lald hx hb hK hG 2 ko rfl (vp_in_nI (by omega) (by omega)) d_La_law_684 ?_
                  refine zl_as (y := (0 : Int32).toInt64) (by rw [zi_n 0 (by decide)]; exact e2) ?_
                  refine lv_iload hx hb d_La_law_685 (lv_at hl 0 rfl) ?_
                  refine lv_i2l hx hb d_La_law_687 rfl ?_
                  refine W.lcmp hx hb d_La_law_688 ?_
                  refine zi_as (y := 0) (zcmp0 _) ?_
                  refine lv_if_eq (tgt := 694) hx hb d_La_law_689 (by decide) (fun c689 => ?_) (fun c689 => ?_)
                  · have b689 : 0 = 0 := (nI_eq (a := 0) (b := 0) (by omega) (by omega)).mp c689
                    refine lv_goto (tgt := 926) hx hb d_La_law_694 (by decide) ?_
                    refine lv_iinc (v := nI (0 + 6)) (lv' := [(4, .int (nI (0 + 6))), (6, .int 0), (5, .int 0), (3, .ref q17), (2, .ref q8), (1, .ref q0), (0, .ref sc)]) hx hb d_La_law_926 hl (k := 2) rfl (nI_add 0 6) (by decide) rfl (fun ls hl => ?_)
                    refine lv_goto (tgt := 23) hx hb d_La_law_929 (by decide) ?_
                    refine lv_iload hx hb d_La_law_23 (lv_at hl 0 rfl) ?_
                    refine lv_aload_n hx hb d_La_law_25 rfl (lv_at hl 6 rfl) ?_
                    refine va_slen hx hb hX hbl hbA hS d_La_law_26 ?_
                    refine lv_bipush (v := 6) hx hb d_La_law_27 (by decide) ?_
                    refine lv_isub hx hb d_La_law_29 ?_
                    refine zi_as (y := 0) (by decide) ?_
                    refine lv_icmp_gt (tgt := 932) hx hb d_La_law_30 (by decide) (fun c30 => ?_) (fun c30 => ?_)
                    · have b30 : 0 < (0 + 6) := (nI_ltI (a := 0) (b := (0 + 6)) (by omega) (by omega)).mp c30
                      refine lv_iconst (v := 1) hx hb d_La_law_932 (by decide) ?_
                      exact va_forget (fun q hq => by rw [← hbE]; exact hS.2.2 q hq) (W.widen (k := 600002) (n := 7302232) (by decide) (by decide) (lw_ret hx hb hr hlocks d_La_law_933))
                    · have b30 : ¬ 0 < (0 + 6) := fun q => c30 ((nI_ltI (a := 0) (b := (0 + 6)) (by omega) (by omega)).mpr q)
                      exact absurd b30 (by decide)
                  · have b689 : ¬ 0 = 0 := fun q => c689 ((nI_eq (a := 0) (b := 0) (by omega) (by omega)).mpr q)
                    exact absurd b689 (by decide)
              · have b672 : ¬ 0 = 0 := fun q => c672 ((nI_eq (a := 0) (b := 0) (by omega) (by omega)).mpr q)
                exact absurd b672 (by decide)
        · refine zi_as (y := 1) er ?_
          have hM4 : zMod E G649 q8 m1 m3 m4 m6 m7 m8 m9 m10 m11 m12 m15 m18 rq dt := zMod.keep (show zMod E G47 q8 m1 m3 m4 m6 m7 m8 m9 m10 m11 m12 m15 m18 rq dt from ⟨k54, k55, k56, k57, k58, k59⟩) hx649 (ne17_q8) (ne17_m1) (ne17_m3) (ne17_m4) (ne17_rq) (ne17_dt)
          obtain ⟨km0, km1, km3, km4, krq, kdt⟩ := id hM4
          refine lv_istore (lv' := [(5, .int 1), (4, .int (nI 0)), (3, .ref q17), (2, .ref q8), (1, .ref q0), (0, .ref sc)]) hx hb d_La_law_652 hl (by decide) rfl (fun ls hl => ?_)
          refine lv_aload_n hx hb d_La_law_654 rfl (lv_at hl 3 rfl) ?_
          refine lv_aload_n hx hb d_La_law_655 rfl (lv_at hl 5 rfl) ?_
          refine lv_iload hx hb d_La_law_656 (lv_at hl 1 rfl) ?_
          refine lv_iconst (v := 1) hx hb d_La_law_658 (by decide) ?_
          refine lv_iadd hx hb d_La_law_659 ?_
          refine zi_as (y := nI (0 + 1)) (nI_add 0 1) ?_
          refine va_sld hx hb hX hbl hbA hS (vp_in_nI (by omega) (by omega)) d_La_law_660 ?_
          refine zi_as (y := xs (0 + 1)) (by rw [zi_n _ (by omega)]) ?_
          have hGo661 := hG
          refine zk_i (va_runV (As := [.int (xs (0 + 1))]) (rest := []) ⟨hx, hb, hml, hown, hts⟩ (t_Mo_records_f l E G649 q8 m1 m3 m4 m6 m7 m8 m9 m10 m11 m12 m15 m18 rq dt ⟨km0, km1, km3, km4, krq, kdt⟩ (xs (0 + 1))) (zcV 1 hts w_1576 w_1577 w_1578 w_30 w_1579 (by decide +kernel) ⟨Nat.le_of_ble_eq_true rfl, Nat.le_of_ble_eq_true rfl⟩) (zc_preV hbase hK hN hQ hG hS km0 rfl) rfl rfl hl.1 rfl (lv_room (Nat.le_of_ble_eq_true rfl)) d_La_law_661 ⟨(by decide), (by decide)⟩) hS (fun r661 G661 H locs hp661 hG hS => ?_)
          rcases hp661 with ⟨er2, hx661, hcc⟩
          · rcases hcc with ⟨hcm, hk661⟩ | ⟨hcm, hk661⟩
            · refine zi_as (y := 0) er2 ?_
              have ko : G661 q17 = some (.inl (E.2.1 2, 1, .inr (.inl f2))) := hx661 _ _ (Ne.symm ne17_q8) ho2
              refine lv_istore (lv' := [(6, .int 0), (5, .int 1), (4, .int (nI 0)), (3, .ref q17), (2, .ref q8), (1, .ref q0), (0, .ref sc)]) hx hb d_La_law_664 hl (by decide) rfl (fun ls hl => ?_)
              refine lv_aload_n hx hb d_La_law_666 rfl (lv_at hl 4 rfl) ?_
              refine zk_i (va_runV (As := []) (rest := []) ⟨hx, hb, hml, hown, hts⟩ (t_Mo_thrown l E G661 q8 m1 m3 m4 m6 m7 m8 m9 m10 m11 m12 m15 m18 1 (nI 0) 1 0 0 0 0 .null .null hk661) (zcV 0 hts w_1345 w_1346 w_1347 w_30 w_1348 (by decide +kernel) ⟨Nat.le_of_ble_eq_true rfl, Nat.le_of_ble_eq_true rfl⟩) (zc_preV hbase hK hN hQ hG hS hk661 rfl) rfl rfl hl.1 rfl (lv_room (Nat.le_of_ble_eq_true rfl)) d_La_law_667 ⟨(by decide), (by decide)⟩) hS (fun r667 G667 H locs hp667 hG hS => ?_)
              have hG : zP E G661 H := hp667.2 ▸ hG
              refine zi_as (y := 1) hp667.1 ?_
              refine lv_iload hx hb d_La_law_670 (lv_at hl 1 rfl) ?_
              refine lv_icmp_eq (tgt := 677) hx hb d_La_law_672 (by decide) (fun c672 => ?_) (fun c672 => ?_)
              · have b672 : 1 = 1 := (nI_eq (a := 1) (b := 1) (by omega) (by omega)).mp c672
                refine lv_iload hx hb d_La_law_677 (lv_at hl 1 rfl) ?_
                refine lv_if_ne (tgt := 694) hx hb d_La_law_679 (by decide) (fun c679 => ?_) (fun c679 => ?_)
                · have b679 : ¬ 1 = 0 := fun q => c679 ((nI_eq (a := 1) (b := 0) (by omega) (by omega)).mpr q)
                  refine lv_goto (tgt := 926) hx hb d_La_law_694 (by decide) ?_
                  refine lv_iinc (v := nI (0 + 6)) (lv' := [(4, .int (nI (0 + 6))), (6, .int 0), (5, .int 1), (3, .ref q17), (2, .ref q8), (1, .ref q0), (0, .ref sc)]) hx hb d_La_law_926 hl (k := 2) rfl (nI_add 0 6) (by decide) rfl (fun ls hl => ?_)
                  refine lv_goto (tgt := 23) hx hb d_La_law_929 (by decide) ?_
                  refine lv_iload hx hb d_La_law_23 (lv_at hl 0 rfl) ?_
                  refine lv_aload_n hx hb d_La_law_25 rfl (lv_at hl 6 rfl) ?_
                  refine va_slen hx hb hX hbl hbA hS d_La_law_26 ?_
                  refine lv_bipush (v := 6) hx hb d_La_law_27 (by decide) ?_
                  refine lv_isub hx hb d_La_law_29 ?_
                  refine zi_as (y := 0) (by decide) ?_
                  refine lv_icmp_gt (tgt := 932) hx hb d_La_law_30 (by decide) (fun c30 => ?_) (fun c30 => ?_)
                  · have b30 : 0 < (0 + 6) := (nI_ltI (a := 0) (b := (0 + 6)) (by omega) (by omega)).mp c30
                    refine lv_iconst (v := 1) hx hb d_La_law_932 (by decide) ?_
                    exact va_forget (fun q hq => by rw [← hbE]; exact hS.2.2 q hq) (W.widen (k := 600002) (n := 7302232) (by decide) (by decide) (lw_ret hx hb hr hlocks d_La_law_933))
                  · have b30 : ¬ 0 < (0 + 6) := fun q => c30 ((nI_ltI (a := 0) (b := (0 + 6)) (by omega) (by omega)).mpr q)
                    exact absurd b30 (by decide)
                · have b679 : 1 = 0 := (nI_eq (a := 1) (b := 0) (by omega) (by omega)).mp c679
                  exact absurd b679 (by decide)
              · have b672 : ¬ 1 = 1 := fun q => c672 ((nI_eq (a := 1) (b := 1) (by omega) (by omega)).mpr q)
                exact absurd b672 (by decide)
            · exact absurd hcm (fun z => z.elim hcl.1 (fun z => z.elim hcl.2.1 hcl.2.2))
      by_cases s40_9 : ((xs 0) &&& 15) = 9
      · refine lv_tableIn (off := 657) (tgt := 697) hx hb d_La_law_40 (by rw [s40_9]; decide) (by rw [s40_9]; decide) (by rw [s40_9]; rfl) (by decide) ?_
        refine lv_aload_n hx hb d_La_law_697 rfl (lv_at hl 3 rfl) ?_
        refine lv_aload_n hx hb d_La_law_698 rfl (lv_at hl 4 rfl) ?_
        refine lv_iload hx hb d_La_law_699 (lv_at hl 0 rfl) ?_
        refine lv_iconst (v := 1) hx hb d_La_law_701 (by decide) ?_
        refine lv_iadd hx hb d_La_law_702 ?_
        refine zi_as (y := nI (0 + 1)) (nI_add 0 1) ?_
        refine va_sld hx hb hX hbl hbA hS (vp_in_nI (by omega) (by omega)) d_La_law_703 ?_
        refine zi_as (y := xs (0 + 1)) (by rw [zi_n _ (by omega)]) ?_
        refine lv_aload_n hx hb d_La_law_704 rfl (lv_at hl 4 rfl) ?_
        refine lv_iload hx hb d_La_law_705 (lv_at hl 0 rfl) ?_
        refine lv_iconst (v := 2) hx hb d_La_law_707 (by decide) ?_
        refine lv_iadd hx hb d_La_law_708 ?_
        refine zi_as (y := nI (0 + 2)) (nI_add 0 2) ?_
        refine va_sld hx hb hX hbl hbA hS (vp_in_nI (by omega) (by omega)) d_La_law_709 ?_
        refine zi_as (y := xs (0 + 2)) (by rw [zi_n _ (by omega)]) ?_
        refine lv_aload_n hx hb d_La_law_710 rfl (lv_at hl 4 rfl) ?_
        refine lv_iload hx hb d_La_law_711 (lv_at hl 0 rfl) ?_
        refine lv_iconst (v := 3) hx hb d_La_law_713 (by decide) ?_
        refine lv_iadd hx hb d_La_law_714 ?_
        refine zi_as (y := nI (0 + 3)) (nI_add 0 3) ?_
        refine va_sld hx hb hX hbl hbA hS (vp_in_nI (by omega) (by omega)) d_La_law_715 ?_
        refine zi_as (y := xs (0 + 3)) (by rw [zi_n _ (by omega)]) ?_
        refine lv_aload_n hx hb d_La_law_716 rfl (lv_at hl 1 rfl) ?_
        have hGo717 := hG
        refine zk_i (zl_runS (n := 5) (As := [.ref q0, .int (xs (0 + 1)), .int (xs (0 + 2)), .int (xs (0 + 3)), .ref q17]) (rest := []) ⟨hx, hb, hml, hown, hts⟩ (t_La_told_f l hoff E G47 q0 ta zo an b la x st sd o ol da dx d0 d1 d3 bt s1 s2 s3 r1 r2 r3 hF3 q17 (fun _ => 0) k60 (xs (0 + 1)) (xs (0 + 2)) (xs (0 + 3))) w_1209 w_1210 w_0 w_1211 (by decide +kernel) ⟨Nat.le_of_ble_eq_true rfl, Nat.le_of_ble_eq_true rfl⟩ (zc_pre hbase hK hN hQ hG hS) rfl rfl hl.1 rfl (lv_room (Nat.le_of_ble_eq_true rfl)) d_La_law_717 ⟨(by decide), (by decide)⟩) hS (fun r717 G717 H locs hp717 hG hS => ?_)
        have hG : zP E G47 H := hp717.2 ▸ hG
        refine zi_as (y := 1) hp717.1 ?_
        refine lv_istore (lv' := [(5, .int 1), (4, .int (nI 0)), (3, .ref q17), (2, .ref q8), (1, .ref q0), (0, .ref sc)]) hx hb d_La_law_720 hl (by decide) rfl (fun ls hl => ?_)
        refine lv_aload_n hx hb d_La_law_722 rfl (lv_at hl 3 rfl) ?_
        refine lv_aload_n hx hb d_La_law_723 rfl (lv_at hl 5 rfl) ?_
        refine lv_iload hx hb d_La_law_724 (lv_at hl 1 rfl) ?_
        refine lv_iconst (v := 1) hx hb d_La_law_726 (by decide) ?_
        refine lv_iadd hx hb d_La_law_727 ?_
        refine zi_as (y := nI (0 + 1)) (nI_add 0 1) ?_
        refine va_sld hx hb hX hbl hbA hS (vp_in_nI (by omega) (by omega)) d_La_law_728 ?_
        refine zi_as (y := xs (0 + 1)) (by rw [zi_n _ (by omega)]) ?_
        refine lv_aload_n hx hb d_La_law_729 rfl (lv_at hl 5 rfl) ?_
        refine lv_iload hx hb d_La_law_730 (lv_at hl 1 rfl) ?_
        refine lv_iconst (v := 2) hx hb d_La_law_732 (by decide) ?_
        refine lv_iadd hx hb d_La_law_733 ?_
        refine zi_as (y := nI (0 + 2)) (nI_add 0 2) ?_
        refine va_sld hx hb hX hbl hbA hS (vp_in_nI (by omega) (by omega)) d_La_law_734 ?_
        refine zi_as (y := xs (0 + 2)) (by rw [zi_n _ (by omega)]) ?_
        refine lv_aload_n hx hb d_La_law_735 rfl (lv_at hl 5 rfl) ?_
        refine lv_iload hx hb d_La_law_736 (lv_at hl 1 rfl) ?_
        refine lv_iconst (v := 3) hx hb d_La_law_738 (by decide) ?_
        refine lv_iadd hx hb d_La_law_739 ?_
        refine zi_as (y := nI (0 + 3)) (nI_add 0 3) ?_
        refine va_sld hx hb hX hbl hbA hS (vp_in_nI (by omega) (by omega)) d_La_law_740 ?_
        refine zi_as (y := xs (0 + 3)) (by rw [zi_n _ (by omega)]) ?_
        have hGo741 := hG
        refine zk_i (va_runV (As := [.int (xs (0 + 1)), .int (xs (0 + 2)), .int (xs (0 + 3))]) (rest := []) ⟨hx, hb, hml, hown, hts⟩ (t_Mo_told_f l E G47 q8 m1 m3 m4 m6 m7 m8 m9 m10 m11 m12 m15 m18 rq dt ⟨k54, k55, k56, k57, k58, k59⟩ (xs (0 + 1)) (xs (0 + 2)) (xs (0 + 3))) (zcV 3 hts w_1580 w_1581 w_1582 w_30 w_1583 (by decide +kernel) ⟨Nat.le_of_ble_eq_true rfl, Nat.le_of_ble_eq_true rfl⟩) (zc_preV hbase hK hN hQ hG hS k54 rfl) rfl rfl hl.1 rfl (lv_room (Nat.le_of_ble_eq_true rfl)) d_La_law_741 ⟨(by decide), (by decide)⟩) hS (fun r741 G741 H locs hp741 hG hS => ?_)
        obtain ⟨er, hx741, hk741⟩ := hp741
        refine zi_as (y := 0) er ?_
        have ko : G741 q17 = some (.inl (E.2.1 2, 1, .inr (.inl (fun _ => 0)))) := hx741 _ _ (Ne.symm ne17_q8) k60
        refine lv_istore (lv' := [(6, .int 0), (5, .int 1), (4, .int (nI 0)), (3, .ref q17), (2, .ref q8), (1, .ref q0), (0, .ref sc)]) hx hb d_La_law_744 hl (by decide) rfl (fun ls hl => ?_)
        refine lv_aload_n hx hb d_La_law_746 rfl (lv_at hl 4 rfl) ?_
        refine zk_i (va_runV (As := []) (rest := []) ⟨hx, hb, hml, hown, hts⟩ (t_Mo_thrown l E G741 q8 m1 m3 m4 m6 m7 m8 m9 m10 m11 m12 m15 m18 1 (nI 0) 1 0 0 0 0 .null .null hk741) (zcV 0 hts w_1345 w_1346 w_1347 w_30 w_1348 (by decide +kernel) ⟨Nat.le_of_ble_eq_true rfl, Nat.le_of_ble_eq_true rfl⟩) (zc_preV hbase hK hN hQ hG hS hk741 rfl) rfl rfl hl.1 rfl (lv_room (Nat.le_of_ble_eq_true rfl)) d_La_law_747 ⟨(by decide), (by decide)⟩) hS (fun r747 G747 H locs hp747 hG hS => ?_)
        have hG : zP E G741 H := hp747.2 ▸ hG
        refine zi_as (y := 1) hp747.1 ?_
        refine lv_iload hx hb d_La_law_750 (lv_at hl 1 rfl) ?_
        refine lv_icmp_eq (tgt := 757) hx hb d_La_law_752 (by decide) (fun c752 => ?_) (fun c752 => ?_)
        · have b752 : 1 = 1 := (nI_eq (a := 1) (b := 1) (by omega) (by omega)).mp c752
          refine lv_iload hx hb d_La_law_757 (lv_at hl 1 rfl) ?_
          refine lv_if_ne (tgt := 774) hx hb d_La_law_759 (by decide) (fun c759 => ?_) (fun c759 => ?_)
          · have b759 : ¬ 1 = 0 := fun q => c759 ((nI_eq (a := 1) (b := 0) (by omega) (by omega)).mpr q)
            refine lv_goto (tgt := 926) hx hb d_La_law_774 (by decide) ?_
            refine lv_iinc (v := nI (0 + 6)) (lv' := [(4, .int (nI (0 + 6))), (6, .int 0), (5, .int 1), (3, .ref q17), (2, .ref q8), (1, .ref q0), (0, .ref sc)]) hx hb d_La_law_926 hl (k := 2) rfl (nI_add 0 6) (by decide) rfl (fun ls hl => ?_)
            refine lv_goto (tgt := 23) hx hb d_La_law_929 (by decide) ?_
            refine lv_iload hx hb d_La_law_23 (lv_at hl 0 rfl) ?_
            refine lv_aload_n hx hb d_La_law_25 rfl (lv_at hl 6 rfl) ?_
            refine va_slen hx hb hX hbl hbA hS d_La_law_26 ?_
            refine lv_bipush (v := 6) hx hb d_La_law_27 (by decide) ?_
            refine lv_isub hx hb d_La_law_29 ?_
            refine zi_as (y := 0) (by decide) ?_
            refine lv_icmp_gt (tgt := 932) hx hb d_La_law_30 (by decide) (fun c30 => ?_) (fun c30 => ?_)
            · have b30 : 0 < (0 + 6) := (nI_ltI (a := 0) (b := (0 + 6)) (by omega) (by omega)).mp c30
              refine lv_iconst (v := 1) hx hb d_La_law_932 (by decide) ?_
              exact va_forget (fun q hq => by rw [← hbE]; exact hS.2.2 q hq) (W.widen (k := 600002) (n := 7302232) (by decide) (by decide) (lw_ret hx hb hr hlocks d_La_law_933))
            · have b30 : ¬ 0 < (0 + 6) := fun q => c30 ((nI_ltI (a := 0) (b := (0 + 6)) (by omega) (by omega)).mpr q)
              exact absurd b30 (by decide)
          · have b759 : 1 = 0 := (nI_eq (a := 1) (b := 0) (by omega) (by omega)).mp c759
            exact absurd b759 (by decide)
        · have b752 : ¬ 1 = 1 := fun q => c752 ((nI_eq (a := 1) (b := 1) (by omega) (by omega)).mpr q)
          exact absurd b752 (by decide)
      by_cases s40_10 : ((xs 0) &&& 15) = 10
      · refine lv_tableIn (off := 737) (tgt := 777) hx hb d_La_law_40 (by rw [s40_10]; decide) (by rw [s40_10]; decide) (by rw [s40_10]; rfl) (by decide) ?_
        refine lv_aload_n hx hb d_La_law_777 rfl (lv_at hl 3 rfl) ?_
        refine lv_aload_n hx hb d_La_law_778 rfl (lv_at hl 4 rfl) ?_
        refine lv_iload hx hb d_La_law_779 (lv_at hl 0 rfl) ?_
        refine lv_iconst (v := 1) hx hb d_La_law_781 (by decide) ?_
        refine lv_iadd hx hb d_La_law_782 ?_
        refine zi_as (y := nI (0 + 1)) (nI_add 0 1) ?_
        refine va_sld hx hb hX hbl hbA hS (vp_in_nI (by omega) (by omega)) d_La_law_783 ?_
        refine zi_as (y := xs (0 + 1)) (by rw [zi_n _ (by omega)]) ?_
        refine lv_aload_n hx hb d_La_law_784 rfl (lv_at hl 4 rfl) ?_
        refine lv_iload hx hb d_La_law_785 (lv_at hl 0 rfl) ?_
        refine lv_iconst (v := 2) hx hb d_La_law_787 (by decide) ?_
        refine lv_iadd hx hb d_La_law_788 ?_
        refine zi_as (y := nI (0 + 2)) (nI_add 0 2) ?_
        refine va_sld hx hb hX hbl hbA hS (vp_in_nI (by omega) (by omega)) d_La_law_789 ?_
        refine zi_as (y := xs (0 + 2)) (by rw [zi_n _ (by omega)]) ?_
        refine lv_aload_n hx hb d_La_law_790 rfl (lv_at hl 4 rfl) ?_
        refine lv_iload hx hb d_La_law_791 (lv_at hl 0 rfl) ?_
        refine lv_iconst (v := 3) hx hb d_La_law_793 (by decide) ?_
        refine lv_iadd hx hb d_La_law_794 ?_
        refine zi_as (y := nI (0 + 3)) (nI_add 0 3) ?_
        refine va_sld hx hb hX hbl hbA hS (vp_in_nI (by omega) (by omega)) d_La_law_795 ?_
        refine zi_as (y := xs (0 + 3)) (by rw [zi_n _ (by omega)]) ?_
        refine lv_aload_n hx hb d_La_law_796 rfl (lv_at hl 1 rfl) ?_
        have hGo797 := hG
        refine zk_i (zl_runS (n := 5) (As := [.ref q0, .int (xs (0 + 1)), .int (xs (0 + 2)), .int (xs (0 + 3)), .ref q17]) (rest := []) ⟨hx, hb, hml, hown, hts⟩ (t_La_byteOf_f l hoff E G47 q0 ta zo an b la x st sd o ol da dx d0 d1 d3 bt s1 s2 s3 r1 r2 r3 hF3 q17 (fun _ => 0) k60 (xs (0 + 1)) (xs (0 + 2)) (xs (0 + 3))) w_1222 w_1223 w_0 w_1224 (by decide +kernel) ⟨Nat.le_of_ble_eq_true rfl, Nat.le_of_ble_eq_true rfl⟩ (zc_pre hbase hK hN hQ hG hS) rfl rfl hl.1 rfl (lv_room (Nat.le_of_ble_eq_true rfl)) d_La_law_797 ⟨(by decide), (by decide)⟩) hS (fun r797 G797 H locs hp797 hG hS => ?_)
        have hG : zP E G47 H := hp797.2 ▸ hG
        refine zi_as (y := 1) hp797.1 ?_
        refine lv_istore (lv' := [(5, .int 1), (4, .int (nI 0)), (3, .ref q17), (2, .ref q8), (1, .ref q0), (0, .ref sc)]) hx hb d_La_law_800 hl (by decide) rfl (fun ls hl => ?_)
        refine lv_aload_n hx hb d_La_law_802 rfl (lv_at hl 3 rfl) ?_
        refine lv_aload_n hx hb d_La_law_803 rfl (lv_at hl 5 rfl) ?_
        refine lv_iload hx hb d_La_law_804 (lv_at hl 1 rfl) ?_
        refine lv_iconst (v := 1) hx hb d_La_law_806 (by decide) ?_
        refine lv_iadd hx hb d_La_law_807 ?_
        refine zi_as (y := nI (0 + 1)) (nI_add 0 1) ?_
        refine va_sld hx hb hX hbl hbA hS (vp_in_nI (by omega) (by omega)) d_La_law_808 ?_
        refine zi_as (y := xs (0 + 1)) (by rw [zi_n _ (by omega)]) ?_
        refine lv_aload_n hx hb d_La_law_809 rfl (lv_at hl 5 rfl) ?_
        refine lv_iload hx hb d_La_law_810 (lv_at hl 1 rfl) ?_
        refine lv_iconst (v := 2) hx hb d_La_law_812 (by decide) ?_
        refine lv_iadd hx hb d_La_law_813 ?_
        refine zi_as (y := nI (0 + 2)) (nI_add 0 2) ?_
        refine va_sld hx hb hX hbl hbA hS (vp_in_nI (by omega) (by omega)) d_La_law_814 ?_
        refine zi_as (y := xs (0 + 2)) (by rw [zi_n _ (by omega)]) ?_
        refine lv_aload_n hx hb d_La_law_815 rfl (lv_at hl 5 rfl) ?_
        refine lv_iload hx hb d_La_law_816 (lv_at hl 1 rfl) ?_
        refine lv_iconst (v := 3) hx hb d_La_law_818 (by decide) ?_
        refine lv_iadd hx hb d_La_law_819 ?_
        refine zi_as (y := nI (0 + 3)) (nI_add 0 3) ?_
        refine va_sld hx hb hX hbl hbA hS (vp_in_nI (by omega) (by omega)) d_La_law_820 ?_
        refine zi_as (y := xs (0 + 3)) (by rw [zi_n _ (by omega)]) ?_
        have hGo821 := hG
        refine zk_i (va_runV (As := [.int (xs (0 + 1)), .int (xs (0 + 2)), .int (xs (0 + 3))]) (rest := []) ⟨hx, hb, hml, hown, hts⟩ (t_Mo_byteOf_f l E G47 q8 m1 m3 m4 m6 m7 m8 m9 m10 m11 m12 m15 m18 rq dt ⟨k54, k55, k56, k57, k58, k59⟩ (xs (0 + 1)) (xs (0 + 2)) (xs (0 + 3))) (zcV 3 hts w_1588 w_1589 w_1590 w_30 w_1591 (by decide +kernel) ⟨Nat.le_of_ble_eq_true rfl, Nat.le_of_ble_eq_true rfl⟩) (zc_preV hbase hK hN hQ hG hS k54 rfl) rfl rfl hl.1 rfl (lv_room (Nat.le_of_ble_eq_true rfl)) d_La_law_821 ⟨(by decide), (by decide)⟩) hS (fun r821 G821 H locs hp821 hG hS => ?_)
        obtain ⟨er, hx821, hk821⟩ := hp821
        refine zi_as (y := 0) er ?_
        have ko : G821 q17 = some (.inl (E.2.1 2, 1, .inr (.inl (fun _ => 0)))) := hx821 _ _ (Ne.symm ne17_q8) k60
        refine lv_istore (lv' := [(6, .int 0), (5, .int 1), (4, .int (nI 0)), (3, .ref q17), (2, .ref q8), (1, .ref q0), (0, .ref sc)]) hx hb d_La_law_824 hl (by decide) rfl (fun ls hl => ?_)
        refine lv_aload_n hx hb d_La_law_826 rfl (lv_at hl 4 rfl) ?_
        refine zk_i (va_runV (As := []) (rest := []) ⟨hx, hb, hml, hown, hts⟩ (t_Mo_thrown l E G821 q8 m1 m3 m4 m6 m7 m8 m9 m10 m11 m12 m15 m18 1 (nI 0) 1 0 0 0 0 .null .null hk821) (zcV 0 hts w_1345 w_1346 w_1347 w_30 w_1348 (by decide +kernel) ⟨Nat.le_of_ble_eq_true rfl, Nat.le_of_ble_eq_true rfl⟩) (zc_preV hbase hK hN hQ hG hS hk821 rfl) rfl rfl hl.1 rfl (lv_room (Nat.le_of_ble_eq_true rfl)) d_La_law_827 ⟨(by decide), (by decide)⟩) hS (fun r827 G827 H locs hp827 hG hS => ?_)
        have hG : zP E G821 H := hp827.2 ▸ hG
        refine zi_as (y := 1) hp827.1 ?_
        refine lv_iload hx hb d_La_law_830 (lv_at hl 1 rfl) ?_
        refine lv_icmp_eq (tgt := 837) hx hb d_La_law_832 (by decide) (fun c832 => ?_) (fun c832 => ?_)
        · have b832 : 1 = 1 := (nI_eq (a := 1) (b := 1) (by omega) (by omega)).mp c832
          refine lv_iload hx hb d_La_law_837 (lv_at hl 1 rfl) ?_
          refine lv_if_ne (tgt := 854) hx hb d_La_law_839 (by decide) (fun c839 => ?_) (fun c839 => ?_)
          · have b839 : ¬ 1 = 0 := fun q => c839 ((nI_eq (a := 1) (b := 0) (by omega) (by omega)).mpr q)
            refine lv_goto (tgt := 926) hx hb d_La_law_854 (by decide) ?_
            refine lv_iinc (v := nI (0 + 6)) (lv' := [(4, .int (nI (0 + 6))), (6, .int 0), (5, .int 1), (3, .ref q17), (2, .ref q8), (1, .ref q0), (0, .ref sc)]) hx hb d_La_law_926 hl (k := 2) rfl (nI_add 0 6) (by decide) rfl (fun ls hl => ?_)
            refine lv_goto (tgt := 23) hx hb d_La_law_929 (by decide) ?_
            refine lv_iload hx hb d_La_law_23 (lv_at hl 0 rfl) ?_
            refine lv_aload_n hx hb d_La_law_25 rfl (lv_at hl 6 rfl) ?_
            refine va_slen hx hb hX hbl hbA hS d_La_law_26 ?_
            refine lv_bipush (v := 6) hx hb d_La_law_27 (by decide) ?_
            refine lv_isub hx hb d_La_law_29 ?_
            refine zi_as (y := 0) (by decide) ?_
            refine lv_icmp_gt (tgt := 932) hx hb d_La_law_30 (by decide) (fun c30 => ?_) (fun c30 => ?_)
            · have b30 : 0 < (0 + 6) := (nI_ltI (a := 0) (b := (0 + 6)) (by omega) (by omega)).mp c30
              refine lv_iconst (v := 1) hx hb d_La_law_932 (by decide) ?_
              exact va_forget (fun q hq => by rw [← hbE]; exact hS.2.2 q hq) (W.widen (k := 600002) (n := 7302232) (by decide) (by decide) (lw_ret hx hb hr hlocks d_La_law_933))
            · have b30 : ¬ 0 < (0 + 6) := fun q => c30 ((nI_ltI (a := 0) (b := (0 + 6)) (by omega) (by omega)).mpr q)
              exact absurd b30 (by decide)
          · have b839 : 1 = 0 := (nI_eq (a := 1) (b := 0) (by omega) (by omega)).mp c839
            exact absurd b839 (by decide)
        · have b832 : ¬ 1 = 1 := fun q => c832 ((nI_eq (a := 1) (b := 1) (by omega) (by omega)).mpr q)
          exact absurd b832 (by decide)
      by_cases s40_11 : ((xs 0) &&& 15) = 11
      · refine lv_tableIn (off := 817) (tgt := 857) hx hb d_La_law_40 (by rw [s40_11]; decide) (by rw [s40_11]; decide) (by rw [s40_11]; rfl) (by decide) ?_
        refine lv_aload_n hx hb d_La_law_857 rfl (lv_at hl 3 rfl) ?_
        refine lv_aload_n hx hb d_La_law_858 rfl (lv_at hl 1 rfl) ?_
        have hGo859 := hG
        refine zk_i (zl_runS (n := 2) (As := [.ref q0, .ref q17]) (rest := []) ⟨hx, hb, hml, hown, hts⟩ (t_La_state_f l hoff E G47 q0 ta zo an b la x st sd o ol da dx d0 d1 d3 bt s1 s2 s3 r1 r2 r3 hF3 q17 (fun _ => 0) k60 ) w_1235 w_1236 w_0 w_1237 (by decide +kernel) ⟨Nat.le_of_ble_eq_true rfl, Nat.le_of_ble_eq_true rfl⟩ (zc_pre hbase hK hN hQ hG hS) rfl rfl hl.1 rfl (lv_room (Nat.le_of_ble_eq_true rfl)) d_La_law_859 ⟨(by decide), (by decide)⟩) hS (fun r859 G859 H locs hp859 hG hS => ?_)
        have hG : zP E G47 H := hp859.2 ▸ hG
        refine zi_as (y := 1) hp859.1 ?_
        refine lv_istore (lv' := [(5, .int 1), (4, .int (nI 0)), (3, .ref q17), (2, .ref q8), (1, .ref q0), (0, .ref sc)]) hx hb d_La_law_862 hl (by decide) rfl (fun ls hl => ?_)
        refine lv_aload_n hx hb d_La_law_864 rfl (lv_at hl 3 rfl) ?_
        have hGo865 := hG
        refine zk_i (va_runV (As := []) (rest := []) ⟨hx, hb, hml, hown, hts⟩ (t_Mo_state_f l E G47 q8 m1 m3 m4 m6 m7 m8 m9 m10 m11 m12 m15 m18 rq dt ⟨k54, k55, k56, k57, k58, k59⟩ ) (zcV 0 hts w_1592 w_1593 w_1594 w_30 w_1595 (by decide +kernel) ⟨Nat.le_of_ble_eq_true rfl, Nat.le_of_ble_eq_true rfl⟩) (zc_preV hbase hK hN hQ hG hS k54 rfl) rfl rfl hl.1 rfl (lv_room (Nat.le_of_ble_eq_true rfl)) d_La_law_865 ⟨(by decide), (by decide)⟩) hS (fun r865 G865 H locs hp865 hG hS => ?_)
        obtain ⟨er, hx865, hk865⟩ := hp865
        refine zi_as (y := 0) er ?_
        have ko : G865 q17 = some (.inl (E.2.1 2, 1, .inr (.inl (fun _ => 0)))) := hx865 _ _ (Ne.symm ne17_q8) k60
        refine lv_istore (lv' := [(6, .int 0), (5, .int 1), (4, .int (nI 0)), (3, .ref q17), (2, .ref q8), (1, .ref q0), (0, .ref sc)]) hx hb d_La_law_868 hl (by decide) rfl (fun ls hl => ?_)
        refine lv_aload_n hx hb d_La_law_870 rfl (lv_at hl 4 rfl) ?_
        refine zk_i (va_runV (As := []) (rest := []) ⟨hx, hb, hml, hown, hts⟩ (t_Mo_thrown l E G865 q8 m1 m3 m4 m6 m7 m8 m9 m10 m11 m12 m15 m18 1 (nI 0) 1 0 0 0 0 .null .null hk865) (zcV 0 hts w_1345 w_1346 w_1347 w_30 w_1348 (by decide +kernel) ⟨Nat.le_of_ble_eq_true rfl, Nat.le_of_ble_eq_true rfl⟩) (zc_preV hbase hK hN hQ hG hS hk865 rfl) rfl rfl hl.1 rfl (lv_room (Nat.le_of_ble_eq_true rfl)) d_La_law_871 ⟨(by decide), (by decide)⟩) hS (fun r871 G871 H locs hp871 hG hS => ?_)
        have hG : zP E G865 H := hp871.2 ▸ hG
        refine zi_as (y := 1) hp871.1 ?_
        refine lv_iload hx hb d_La_law_874 (lv_at hl 1 rfl) ?_
        refine lv_icmp_eq (tgt := 881) hx hb d_La_law_876 (by decide) (fun c876 => ?_) (fun c876 => ?_)
        · have b876 : 1 = 1 := (nI_eq (a := 1) (b := 1) (by omega) (by omega)).mp c876
          refine lv_iload hx hb d_La_law_881 (lv_at hl 1 rfl) ?_
          refine lv_if_ne (tgt := 898) hx hb d_La_law_883 (by decide) (fun c883 => ?_) (fun c883 => ?_)
          · have b883 : ¬ 1 = 0 := fun q => c883 ((nI_eq (a := 1) (b := 0) (by omega) (by omega)).mpr q)
            refine lv_goto (tgt := 926) hx hb d_La_law_898 (by decide) ?_
            refine lv_iinc (v := nI (0 + 6)) (lv' := [(4, .int (nI (0 + 6))), (6, .int 0), (5, .int 1), (3, .ref q17), (2, .ref q8), (1, .ref q0), (0, .ref sc)]) hx hb d_La_law_926 hl (k := 2) rfl (nI_add 0 6) (by decide) rfl (fun ls hl => ?_)
            refine lv_goto (tgt := 23) hx hb d_La_law_929 (by decide) ?_
            refine lv_iload hx hb d_La_law_23 (lv_at hl 0 rfl) ?_
            refine lv_aload_n hx hb d_La_law_25 rfl (lv_at hl 6 rfl) ?_
            refine va_slen hx hb hX hbl hbA hS d_La_law_26 ?_
            refine lv_bipush (v := 6) hx hb d_La_law_27 (by decide) ?_
            refine lv_isub hx hb d_La_law_29 ?_
            refine zi_as (y := 0) (by decide) ?_
            refine lv_icmp_gt (tgt := 932) hx hb d_La_law_30 (by decide) (fun c30 => ?_) (fun c30 => ?_)
            · have b30 : 0 < (0 + 6) := (nI_ltI (a := 0) (b := (0 + 6)) (by omega) (by omega)).mp c30
              refine lv_iconst (v := 1) hx hb d_La_law_932 (by decide) ?_
              exact va_forget (fun q hq => by rw [← hbE]; exact hS.2.2 q hq) (W.widen (k := 600002) (n := 7302232) (by decide) (by decide) (lw_ret hx hb hr hlocks d_La_law_933))
            · have b30 : ¬ 0 < (0 + 6) := fun q => c30 ((nI_ltI (a := 0) (b := (0 + 6)) (by omega) (by omega)).mpr q)
              exact absurd b30 (by decide)
          · have b883 : 1 = 0 := (nI_eq (a := 1) (b := 0) (by omega) (by omega)).mp c883
            exact absurd b883 (by decide)
        · have b876 : ¬ 1 = 1 := fun q => c876 ((nI_eq (a := 1) (b := 1) (by omega) (by omega)).mpr q)
          exact absurd b876 (by decide)
      by_cases s40_12 : ((xs 0) &&& 15) = 12
      · refine lv_tableIn (off := 861) (tgt := 901) hx hb d_La_law_40 (by rw [s40_12]; decide) (by rw [s40_12]; decide) (by rw [s40_12]; rfl) (by decide) ?_
        refine lv_aload_n hx hb d_La_law_901 rfl (lv_at hl 3 rfl) ?_
        refine lv_aload_n hx hb d_La_law_902 rfl (lv_at hl 4 rfl) ?_
        refine lv_iload hx hb d_La_law_903 (lv_at hl 0 rfl) ?_
        refine lv_iconst (v := 1) hx hb d_La_law_905 (by decide) ?_
        refine lv_iadd hx hb d_La_law_906 ?_
        refine zi_as (y := nI (0 + 1)) (nI_add 0 1) ?_
        refine va_sld hx hb hX hbl hbA hS (vp_in_nI (by omega) (by omega)) d_La_law_907 ?_
        refine zi_as (y := xs (0 + 1)) (by rw [zi_n _ (by omega)]) ?_
        have hGo908 := hG
        refine zk_i (va_runV (As := [.int (xs (0 + 1))]) (rest := []) ⟨hx, hb, hml, hown, hts⟩ (t_ZA_count_f l E G47 q0 ta zo an b la x st sd o ol da dx d0 d1 d3 bt s1 s2 s3 r1 r2 r3 hF3 (xs (0 + 1))) (zcV 1 hts w_725 w_726 w_727 w_1 w_728 (by decide +kernel) ⟨Nat.le_of_ble_eq_true rfl, Nat.le_of_ble_eq_true rfl⟩) (zc_preV hbase hK hN hQ hG hS k48 rfl) rfl rfl hl.1 rfl (lv_room (Nat.le_of_ble_eq_true rfl)) d_La_law_908 ⟨(by decide), (by decide)⟩) hS (fun r908 G908 H locs hp908 hG hS => ?_)
        have hG : zP E G47 H := hp908.2 ▸ hG
        refine zi_as (y := zcnt (xs (0 + 1))) hp908.1 ?_
        refine lv_aload_n hx hb d_La_law_911 rfl (lv_at hl 2 rfl) ?_
        refine lv_aload_n hx hb d_La_law_912 rfl (lv_at hl 4 rfl) ?_
        refine lv_iload hx hb d_La_law_913 (lv_at hl 0 rfl) ?_
        refine lv_iconst (v := 1) hx hb d_La_law_915 (by decide) ?_
        refine lv_iadd hx hb d_La_law_916 ?_
        refine zi_as (y := nI (0 + 1)) (nI_add 0 1) ?_
        refine va_sld hx hb hX hbl hbA hS (vp_in_nI (by omega) (by omega)) d_La_law_917 ?_
        refine zi_as (y := xs (0 + 1)) (by rw [zi_n _ (by omega)]) ?_
        have hGo918 := hG
        refine zk_i (va_runV (As := [.int (xs (0 + 1))]) (rest := [.int (zcnt (xs (0 + 1)))]) ⟨hx, hb, hml, hown, hts⟩ (t_Mo_count_f l E G47 q8 m1 m3 m4 m6 m7 m8 m9 m10 m11 m12 m15 m18 rq dt ⟨k54, k55, k56, k57, k58, k59⟩ (xs (0 + 1))) (zcV 1 hts w_1596 w_1597 w_1598 w_30 w_1599 (by decide +kernel) ⟨Nat.le_of_ble_eq_true rfl, Nat.le_of_ble_eq_true rfl⟩) (zc_preV hbase hK hN hQ hG hS k54 rfl) rfl rfl hl.1 rfl (lv_room (Nat.le_of_ble_eq_true rfl)) d_La_law_918 ⟨(by decide), (by decide)⟩) hS (fun r918 G918 H locs hp918 hG hS => ?_)
        refine zi_as (y := zcnt (xs (0 + 1))) hp918 ?_
        refine lv_icmp_eq (tgt := 926) hx hb d_La_law_921 (by decide) (fun c921 => ?_) (fun c921 => ?_)
        · refine lv_iinc (v := nI (0 + 6)) (lv' := [(4, .int (nI (0 + 6))), (3, .ref q17), (2, .ref q8), (1, .ref q0), (0, .ref sc)]) hx hb d_La_law_926 hl (k := 0) rfl (nI_add 0 6) (by decide) rfl (fun ls hl => ?_)
          refine lv_goto (tgt := 23) hx hb d_La_law_929 (by decide) ?_
          refine lv_iload hx hb d_La_law_23 (lv_at hl 0 rfl) ?_
          refine lv_aload_n hx hb d_La_law_25 rfl (lv_at hl 4 rfl) ?_
          refine va_slen hx hb hX hbl hbA hS d_La_law_26 ?_
          refine lv_bipush (v := 6) hx hb d_La_law_27 (by decide) ?_
          refine lv_isub hx hb d_La_law_29 ?_
          refine zi_as (y := 0) (by decide) ?_
          refine lv_icmp_gt (tgt := 932) hx hb d_La_law_30 (by decide) (fun c30 => ?_) (fun c30 => ?_)
          · have b30 : 0 < (0 + 6) := (nI_ltI (a := 0) (b := (0 + 6)) (by omega) (by omega)).mp c30
            refine lv_iconst (v := 1) hx hb d_La_law_932 (by decide) ?_
            exact va_forget (fun q hq => by rw [← hbE]; exact hS.2.2 q hq) (W.widen (k := 600002) (n := 7302232) (by decide) (by decide) (lw_ret hx hb hr hlocks d_La_law_933))
          · have b30 : ¬ 0 < (0 + 6) := fun q => c30 ((nI_ltI (a := 0) (b := (0 + 6)) (by omega) (by omega)).mpr q)
            exact absurd b30 (by decide)
        · exact absurd rfl c921
      refine lv_tableOut (tgt := 926) hx hb d_La_law_40 (by have ns40_0 := lv_neT (k := 0) (a := 0) s40_0 (by decide); have ns40_1 := lv_neT (k := 1) (a := 1) s40_1 (by decide); have ns40_2 := lv_neT (k := 2) (a := 2) s40_2 (by decide); have ns40_3 := lv_neT (k := 3) (a := 3) s40_3 (by decide); have ns40_4 := lv_neT (k := 4) (a := 4) s40_4 (by decide); have ns40_5 := lv_neT (k := 5) (a := 5) s40_5 (by decide); have ns40_6 := lv_neT (k := 6) (a := 6) s40_6 (by decide); have ns40_7 := lv_neT (k := 7) (a := 7) s40_7 (by decide); have ns40_8 := lv_neT (k := 8) (a := 8) s40_8 (by decide); have ns40_9 := lv_neT (k := 9) (a := 9) s40_9 (by decide); have ns40_10 := lv_neT (k := 10) (a := 10) s40_10 (by decide); have ns40_11 := lv_neT (k := 11) (a := 11) s40_11 (by decide); have ns40_12 := lv_neT (k := 12) (a := 12) s40_12 (by decide); omega) (by decide) ?_
      refine lv_iinc (v := nI (0 + 6)) (lv' := [(4, .int (nI (0 + 6))), (3, .ref q17), (2, .ref q8), (1, .ref q0), (0, .ref sc)]) hx hb d_La_law_926 hl (k := 0) rfl (nI_add 0 6) (by decide) rfl (fun ls hl => ?_)
      refine lv_goto (tgt := 23) hx hb d_La_law_929 (by decide) ?_
      refine lv_iload hx hb d_La_law_23 (lv_at hl 0 rfl) ?_
      refine lv_aload_n hx hb d_La_law_25 rfl (lv_at hl 4 rfl) ?_
      refine va_slen hx hb hX hbl hbA hS d_La_law_26 ?_
      refine lv_bipush (v := 6) hx hb d_La_law_27 (by decide) ?_
      refine lv_isub hx hb d_La_law_29 ?_
      refine zi_as (y := 0) (by decide) ?_
      refine lv_icmp_gt (tgt := 932) hx hb d_La_law_30 (by decide) (fun c30 => ?_) (fun c30 => ?_)
      · have b30 : 0 < (0 + 6) := (nI_ltI (a := 0) (b := (0 + 6)) (by omega) (by omega)).mp c30
        refine lv_iconst (v := 1) hx hb d_La_law_932 (by decide) ?_
        exact va_forget (fun q hq => by rw [← hbE]; exact hS.2.2 q hq) (W.widen (k := 600002) (n := 7302232) (by decide) (by decide) (lw_ret hx hb hr hlocks d_La_law_933))
      · have b30 : ¬ 0 < (0 + 6) := fun q => c30 ((nI_ltI (a := 0) (b := (0 + 6)) (by omega) (by omega)).mpr q)
        exact absurd b30 (by decide)
