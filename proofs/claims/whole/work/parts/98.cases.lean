/-! THE LAW's CASES -/
theorem zKl_0 : ¬ zKl (0, 0) := fun h => absurd h.1 (by decide)
theorem zKl_20 (i : Nat) : ¬ zKl (20, i) := fun h => absurd h.2 (by show ¬ 20 ≤ 15; decide)
theorem zKl_21 : ¬ zKl (21, 0) := fun h => absurd h.2 (by decide)
theorem zKc_20 (i : Nat) : ¬ zKc (20, i) := fun h => absurd h.2 (by show ¬ 20 ≤ 14; decide)
theorem zKc_21 : ¬ zKc (21, 0) := fun h => absurd h.2 (by decide)
theorem zKc_15 : ¬ zKc (15, 0) := fun h => absurd h.2 (by decide)
theorem zKr_15 : ¬ zKr (15, 0) := by rintro (h | h) <;> simp at h
theorem zKr_c (r : Nat × Nat) (h : zKc r) : ¬ zKr r := fun z => by
  have := h.2
  rcases z with z | z <;> omega
theorem zOA.cell {E : zc_E} {G : zg_G} {ro : zRo} {xo : Nat} {A : zA4} (h : zOA E G ro xo A) : ∃ ta zo an, G xo = some (.inr (10, [.ref ta, .ref zo, .ref an])) := by
  obtain ⟨n, k, rc, ty, se, os, d1, d2, d3, t1, t2, t3, b, rfl, hOb, -⟩ := h
  exact ⟨_, _, _, hOb.2.1⟩
theorem zOA.len {E : zc_E} {G : zg_G} {ro : zRo} {xo : Nat} {A : zA4} (h : zOA E G ro xo A) : A.1.length ≤ 65536 := by
  obtain ⟨n, k, rc, ty, se, os, d1, d2, d3, t1, t2, t3, b, rfl, hOb, -⟩ := h
  exact hOb.2.2.2.2.2.2
theorem zOA.nm {E : zc_E} {G : zg_G} {ro : zRo} {xo : Nat} {A : zA4} (h : zOA E G ro xo A) {y z : Int32} {e : aV} (hw : wrw y z A.2.2.2 e) : np_g e.1 := by
  obtain ⟨n, k, rc, ty, se, os, d1, d2, d3, t1, t2, t3, b, rfl, hOb, -, -, -, -, -, -, hW⟩ := h
  obtain ⟨-, ⟨-, -, e1, e2, e3⟩, -⟩ := hOb.1
  obtain ⟨L, j, h1, -, h3⟩ := hw
  have hm := List.mem_of_getElem? h3
  rw [hW] at h1
  have key : ∀ (ts : List zTt), (∀ t ∈ ts, zTR E G ro t) → e ∈ ts.map tV → np_g e.1 := fun ts hts he => by
    obtain ⟨t, ht, rfl⟩ := List.mem_map.mp he
    obtain ⟨-, ⟨b, f, -, -, -, hg, -⟩, -⟩ := hts t ht
    exact hg
  unfold wsq at h1
  split at h1
  · cases h1; exact key t1 e1.1.2.2 hm
  · split at h1
    · cases h1; exact key t2 e2.1.2.2 hm
    · split at h1
      · cases h1; exact key t3 e3.1.2.2 hm
      · cases h1
theorem zcmp0 (x : Int64) : lg_cmp x x = 0 := by simp [lg_cmp]
theorem w_0 : (.initialized "ZoneAnswersLaw" : Cond) ∈ zw := zw_at 0 (by decide +kernel) (by decide +kernel)
theorem w_713 : (.methodLink "ZoneAnswersLaw" 90 ⟨"ZoneAnswers", "serial", "(I)I"⟩ : Cond) ∈ zw := zw_at 713 (by decide +kernel) (by decide +kernel)
theorem w_714 : (.instanceMethod ⟨"ZoneAnswers", "serial", "(I)I"⟩ : Cond) ∈ zw := zw_at 714 (by decide +kernel) (by decide +kernel)
theorem w_715 : (.selects "ZoneAnswers" ⟨"ZoneAnswers", "serial", "(I)I"⟩ ⟨"ZoneAnswers", "serial", "(I)I"⟩ : Cond) ∈ zw := zw_at 715 (by decide +kernel) (by decide +kernel)
theorem w_716 : (.code ⟨"ZoneAnswers", "serial", "(I)I"⟩ prog_1_method_8_code 3 (some .int) : Cond) ∈ zw := zw_at 716 (by decide +kernel) (by decide +kernel)
theorem w_725 : (.methodLink "ZoneAnswersLaw" 112 ⟨"ZoneAnswers", "count", "(I)I"⟩ : Cond) ∈ zw := zw_at 725 (by decide +kernel) (by decide +kernel)
theorem w_726 : (.instanceMethod ⟨"ZoneAnswers", "count", "(I)I"⟩ : Cond) ∈ zw := zw_at 726 (by decide +kernel) (by decide +kernel)
theorem w_727 : (.selects "ZoneAnswers" ⟨"ZoneAnswers", "count", "(I)I"⟩ ⟨"ZoneAnswers", "count", "(I)I"⟩ : Cond) ∈ zw := zw_at 727 (by decide +kernel) (by decide +kernel)
theorem w_728 : (.code ⟨"ZoneAnswers", "count", "(I)I"⟩ prog_1_method_14_code 2 (some .int) : Cond) ∈ zw := zw_at 728 (by decide +kernel) (by decide +kernel)
theorem w_765 : (.methodLink "ZoneAnswersLaw" 63 ⟨"ZoneAnswersLaw", "feed", "(LZoneAnswers;IIIII[J)I"⟩ : Cond) ∈ zw := zw_at 765 (by decide +kernel) (by decide +kernel)
theorem w_766 : (.static ⟨"ZoneAnswersLaw", "feed", "(LZoneAnswers;IIIII[J)I"⟩ : Cond) ∈ zw := zw_at 766 (by decide +kernel) (by decide +kernel)
theorem w_767 : (.codeWith ⟨"ZoneAnswersLaw", "feed", "(LZoneAnswers;IIIII[J)I"⟩ method_3_code 8 (some .int) [(0, 16, 19, 13)] : Cond) ∈ zw := zw_at 767 (by decide +kernel) (by decide +kernel)
theorem w_805 : (.methodLink "ZoneAnswersLaw" 72 ⟨"ZoneAnswersLaw", "end", "(LZoneAnswers;I[J)I"⟩ : Cond) ∈ zw := zw_at 805 (by decide +kernel) (by decide +kernel)
theorem w_806 : (.static ⟨"ZoneAnswersLaw", "end", "(LZoneAnswers;I[J)I"⟩ : Cond) ∈ zw := zw_at 806 (by decide +kernel) (by decide +kernel)
theorem w_807 : (.codeWith ⟨"ZoneAnswersLaw", "end", "(LZoneAnswers;I[J)I"⟩ method_4_code 4 (some .int) [(0, 9, 12, 19)] : Cond) ∈ zw := zw_at 807 (by decide +kernel) (by decide +kernel)
theorem w_822 : (.methodLink "ZoneAnswersLaw" 76 ⟨"ZoneAnswersLaw", "origin", "(LZoneAnswers;IIIII)I"⟩ : Cond) ∈ zw := zw_at 822 (by decide +kernel) (by decide +kernel)
theorem w_823 : (.static ⟨"ZoneAnswersLaw", "origin", "(LZoneAnswers;IIIII)I"⟩ : Cond) ∈ zw := zw_at 823 (by decide +kernel) (by decide +kernel)
theorem w_824 : (.codeWith ⟨"ZoneAnswersLaw", "origin", "(LZoneAnswers;IIIII)I"⟩ method_5_code 7 (some .int) [(0, 11, 14, 19)] : Cond) ∈ zw := zw_at 824 (by decide +kernel) (by decide +kernel)
theorem w_846 : (.methodLink "ZoneAnswersLaw" 80 ⟨"ZoneAnswersLaw", "put", "(LZoneAnswers;II[J)I"⟩ : Cond) ∈ zw := zw_at 846 (by decide +kernel) (by decide +kernel)
theorem w_847 : (.static ⟨"ZoneAnswersLaw", "put", "(LZoneAnswers;II[J)I"⟩ : Cond) ∈ zw := zw_at 847 (by decide +kernel) (by decide +kernel)
theorem w_848 : (.codeWith ⟨"ZoneAnswersLaw", "put", "(LZoneAnswers;II[J)I"⟩ method_6_code 5 (some .int) [(0, 10, 13, 19), (0, 10, 17, 13), (0, 10, 21, 29)] : Cond) ∈ zw := zw_at 848 (by decide +kernel) (by decide +kernel)
theorem w_936 : (.methodLink "ZoneAnswersLaw" 84 ⟨"ZoneAnswersLaw", "take", "(LZoneAnswers;I[J)I"⟩ : Cond) ∈ zw := zw_at 936 (by decide +kernel) (by decide +kernel)
theorem w_937 : (.static ⟨"ZoneAnswersLaw", "take", "(LZoneAnswers;I[J)I"⟩ : Cond) ∈ zw := zw_at 937 (by decide +kernel) (by decide +kernel)
theorem w_938 : (.codeWith ⟨"ZoneAnswersLaw", "take", "(LZoneAnswers;I[J)I"⟩ method_7_code 4 (some .int) [(0, 9, 12, 19), (0, 9, 15, 34)] : Cond) ∈ zw := zw_at 938 (by decide +kernel) (by decide +kernel)
theorem w_984 : (.methodLink "ZoneAnswersLaw" 87 ⟨"ZoneAnswersLaw", "takeAll", "(LZoneAnswers;I[J)I"⟩ : Cond) ∈ zw := zw_at 984 (by decide +kernel) (by decide +kernel)
theorem w_985 : (.static ⟨"ZoneAnswersLaw", "takeAll", "(LZoneAnswers;I[J)I"⟩ : Cond) ∈ zw := zw_at 985 (by decide +kernel) (by decide +kernel)
theorem w_986 : (.codeWith ⟨"ZoneAnswersLaw", "takeAll", "(LZoneAnswers;I[J)I"⟩ method_8_code 4 (some .int) [(0, 9, 12, 19)] : Cond) ∈ zw := zw_at 986 (by decide +kernel) (by decide +kernel)
theorem w_1001 : (.methodLink "ZoneAnswersLaw" 94 ⟨"ZoneAnswersLaw", "ask", "(LZoneAnswers;IZ[J)I"⟩ : Cond) ∈ zw := zw_at 1001 (by decide +kernel) (by decide +kernel)
theorem w_1002 : (.static ⟨"ZoneAnswersLaw", "ask", "(LZoneAnswers;IZ[J)I"⟩ : Cond) ∈ zw := zw_at 1002 (by decide +kernel) (by decide +kernel)
theorem w_1003 : (.codeWith ⟨"ZoneAnswersLaw", "ask", "(LZoneAnswers;IZ[J)I"⟩ method_9_code 5 (some .int) [(0, 10, 13, 19)] : Cond) ∈ zw := zw_at 1003 (by decide +kernel) (by decide +kernel)
theorem w_1197 : (.methodLink "ZoneAnswersLaw" 98 ⟨"ZoneAnswersLaw", "records", "(LZoneAnswers;I[J)I"⟩ : Cond) ∈ zw := zw_at 1197 (by decide +kernel) (by decide +kernel)
theorem w_1198 : (.static ⟨"ZoneAnswersLaw", "records", "(LZoneAnswers;I[J)I"⟩ : Cond) ∈ zw := zw_at 1198 (by decide +kernel) (by decide +kernel)
theorem w_1199 : (.codeWith ⟨"ZoneAnswersLaw", "records", "(LZoneAnswers;I[J)I"⟩ method_10_code 4 (some .int) [(0, 9, 12, 34)] : Cond) ∈ zw := zw_at 1199 (by decide +kernel) (by decide +kernel)
theorem w_1209 : (.methodLink "ZoneAnswersLaw" 101 ⟨"ZoneAnswersLaw", "told", "(LZoneAnswers;III[J)I"⟩ : Cond) ∈ zw := zw_at 1209 (by decide +kernel) (by decide +kernel)
theorem w_1210 : (.static ⟨"ZoneAnswersLaw", "told", "(LZoneAnswers;III[J)I"⟩ : Cond) ∈ zw := zw_at 1210 (by decide +kernel) (by decide +kernel)
theorem w_1211 : (.codeWith ⟨"ZoneAnswersLaw", "told", "(LZoneAnswers;III[J)I"⟩ method_11_code 6 (some .int) [(0, 12, 15, 34), (0, 12, 19, 19)] : Cond) ∈ zw := zw_at 1211 (by decide +kernel) (by decide +kernel)
theorem w_1222 : (.methodLink "ZoneAnswersLaw" 105 ⟨"ZoneAnswersLaw", "byteOf", "(LZoneAnswers;III[J)I"⟩ : Cond) ∈ zw := zw_at 1222 (by decide +kernel) (by decide +kernel)
theorem w_1223 : (.static ⟨"ZoneAnswersLaw", "byteOf", "(LZoneAnswers;III[J)I"⟩ : Cond) ∈ zw := zw_at 1223 (by decide +kernel) (by decide +kernel)
theorem w_1224 : (.codeWith ⟨"ZoneAnswersLaw", "byteOf", "(LZoneAnswers;III[J)I"⟩ method_12_code 6 (some .int) [(0, 12, 15, 34), (0, 12, 19, 53)] : Cond) ∈ zw := zw_at 1224 (by decide +kernel) (by decide +kernel)
theorem w_1235 : (.methodLink "ZoneAnswersLaw" 108 ⟨"ZoneAnswersLaw", "state", "(LZoneAnswers;[J)I"⟩ : Cond) ∈ zw := zw_at 1235 (by decide +kernel) (by decide +kernel)
theorem w_1236 : (.static ⟨"ZoneAnswersLaw", "state", "(LZoneAnswers;[J)I"⟩ : Cond) ∈ zw := zw_at 1236 (by decide +kernel) (by decide +kernel)
theorem w_1237 : (.codeWith ⟨"ZoneAnswersLaw", "state", "(LZoneAnswers;[J)I"⟩ method_13_code 3 (some .int) [(0, 8, 11, 19)] : Cond) ∈ zw := zw_at 1237 (by decide +kernel) (by decide +kernel)
theorem w_1345 : (.methodLink "ZoneAnswersLaw" 69 ⟨"ZoneAnswersModel", "thrown", "()I"⟩ : Cond) ∈ zw := zw_at 1345 (by decide +kernel) (by decide +kernel)
theorem w_1346 : (.instanceMethod ⟨"ZoneAnswersModel", "thrown", "()I"⟩ : Cond) ∈ zw := zw_at 1346 (by decide +kernel) (by decide +kernel)
theorem w_1347 : (.selects "ZoneAnswersModel" ⟨"ZoneAnswersModel", "thrown", "()I"⟩ ⟨"ZoneAnswersModel", "thrown", "()I"⟩ : Cond) ∈ zw := zw_at 1347 (by decide +kernel) (by decide +kernel)
theorem w_1348 : (.code ⟨"ZoneAnswersModel", "thrown", "()I"⟩ prog_12_method_2_code 1 (some .int) : Cond) ∈ zw := zw_at 1348 (by decide +kernel) (by decide +kernel)
theorem w_1349 : (.methodLink "ZoneAnswersLaw" 68 ⟨"ZoneAnswersModel", "feed", "(IIIII)I"⟩ : Cond) ∈ zw := zw_at 1349 (by decide +kernel) (by decide +kernel)
theorem w_1350 : (.instanceMethod ⟨"ZoneAnswersModel", "feed", "(IIIII)I"⟩ : Cond) ∈ zw := zw_at 1350 (by decide +kernel) (by decide +kernel)
theorem w_1351 : (.selects "ZoneAnswersModel" ⟨"ZoneAnswersModel", "feed", "(IIIII)I"⟩ ⟨"ZoneAnswersModel", "feed", "(IIIII)I"⟩ : Cond) ∈ zw := zw_at 1351 (by decide +kernel) (by decide +kernel)
theorem w_1352 : (.code ⟨"ZoneAnswersModel", "feed", "(IIIII)I"⟩ prog_12_method_34_code 8 (some .int) : Cond) ∈ zw := zw_at 1352 (by decide +kernel) (by decide +kernel)
theorem w_1358 : (.methodLink "ZoneAnswersLaw" 75 ⟨"ZoneAnswersModel", "end", "(I)I"⟩ : Cond) ∈ zw := zw_at 1358 (by decide +kernel) (by decide +kernel)
theorem w_1359 : (.instanceMethod ⟨"ZoneAnswersModel", "end", "(I)I"⟩ : Cond) ∈ zw := zw_at 1359 (by decide +kernel) (by decide +kernel)
theorem w_1360 : (.selects "ZoneAnswersModel" ⟨"ZoneAnswersModel", "end", "(I)I"⟩ ⟨"ZoneAnswersModel", "end", "(I)I"⟩ : Cond) ∈ zw := zw_at 1360 (by decide +kernel) (by decide +kernel)
theorem w_1361 : (.code ⟨"ZoneAnswersModel", "end", "(I)I"⟩ prog_12_method_35_code 2 (some .int) : Cond) ∈ zw := zw_at 1361 (by decide +kernel) (by decide +kernel)
theorem w_1362 : (.methodLink "ZoneAnswersLaw" 79 ⟨"ZoneAnswersModel", "origin", "(IIIII)V"⟩ : Cond) ∈ zw := zw_at 1362 (by decide +kernel) (by decide +kernel)
theorem w_1363 : (.instanceMethod ⟨"ZoneAnswersModel", "origin", "(IIIII)V"⟩ : Cond) ∈ zw := zw_at 1363 (by decide +kernel) (by decide +kernel)
theorem w_1364 : (.selects "ZoneAnswersModel" ⟨"ZoneAnswersModel", "origin", "(IIIII)V"⟩ ⟨"ZoneAnswersModel", "origin", "(IIIII)V"⟩ : Cond) ∈ zw := zw_at 1364 (by decide +kernel) (by decide +kernel)
theorem w_1365 : (.code ⟨"ZoneAnswersModel", "origin", "(IIIII)V"⟩ prog_12_method_36_code 14 none : Cond) ∈ zw := zw_at 1365 (by decide +kernel) (by decide +kernel)
theorem w_1375 : (.methodLink "ZoneAnswersLaw" 83 ⟨"ZoneAnswersModel", "put", "(II)I"⟩ : Cond) ∈ zw := zw_at 1375 (by decide +kernel) (by decide +kernel)
theorem w_1376 : (.instanceMethod ⟨"ZoneAnswersModel", "put", "(II)I"⟩ : Cond) ∈ zw := zw_at 1376 (by decide +kernel) (by decide +kernel)
theorem w_1377 : (.selects "ZoneAnswersModel" ⟨"ZoneAnswersModel", "put", "(II)I"⟩ ⟨"ZoneAnswersModel", "put", "(II)I"⟩ : Cond) ∈ zw := zw_at 1377 (by decide +kernel) (by decide +kernel)
theorem w_1378 : (.code ⟨"ZoneAnswersModel", "put", "(II)I"⟩ prog_12_method_42_code 4 (some .int) : Cond) ∈ zw := zw_at 1378 (by decide +kernel) (by decide +kernel)
theorem w_1421 : (.methodLink "ZoneAnswersLaw" 86 ⟨"ZoneAnswersModel", "take", "(I)I"⟩ : Cond) ∈ zw := zw_at 1421 (by decide +kernel) (by decide +kernel)
theorem w_1422 : (.instanceMethod ⟨"ZoneAnswersModel", "take", "(I)I"⟩ : Cond) ∈ zw := zw_at 1422 (by decide +kernel) (by decide +kernel)
theorem w_1423 : (.selects "ZoneAnswersModel" ⟨"ZoneAnswersModel", "take", "(I)I"⟩ ⟨"ZoneAnswersModel", "take", "(I)I"⟩ : Cond) ∈ zw := zw_at 1423 (by decide +kernel) (by decide +kernel)
theorem w_1424 : (.code ⟨"ZoneAnswersModel", "take", "(I)I"⟩ prog_12_method_44_code 3 (some .int) : Cond) ∈ zw := zw_at 1424 (by decide +kernel) (by decide +kernel)
theorem w_1429 : (.methodLink "ZoneAnswersLaw" 89 ⟨"ZoneAnswersModel", "takeAll", "(I)I"⟩ : Cond) ∈ zw := zw_at 1429 (by decide +kernel) (by decide +kernel)
theorem w_1430 : (.instanceMethod ⟨"ZoneAnswersModel", "takeAll", "(I)I"⟩ : Cond) ∈ zw := zw_at 1430 (by decide +kernel) (by decide +kernel)
theorem w_1431 : (.selects "ZoneAnswersModel" ⟨"ZoneAnswersModel", "takeAll", "(I)I"⟩ ⟨"ZoneAnswersModel", "takeAll", "(I)I"⟩ : Cond) ∈ zw := zw_at 1431 (by decide +kernel) (by decide +kernel)
theorem w_1432 : (.code ⟨"ZoneAnswersModel", "takeAll", "(I)I"⟩ prog_12_method_46_code 5 (some .int) : Cond) ∈ zw := zw_at 1432 (by decide +kernel) (by decide +kernel)
theorem w_1437 : (.methodLink "ZoneAnswersLaw" 93 ⟨"ZoneAnswersModel", "serial", "(I)I"⟩ : Cond) ∈ zw := zw_at 1437 (by decide +kernel) (by decide +kernel)
theorem w_1438 : (.instanceMethod ⟨"ZoneAnswersModel", "serial", "(I)I"⟩ : Cond) ∈ zw := zw_at 1438 (by decide +kernel) (by decide +kernel)
theorem w_1439 : (.selects "ZoneAnswersModel" ⟨"ZoneAnswersModel", "serial", "(I)I"⟩ ⟨"ZoneAnswersModel", "serial", "(I)I"⟩ : Cond) ∈ zw := zw_at 1439 (by decide +kernel) (by decide +kernel)
theorem w_1440 : (.code ⟨"ZoneAnswersModel", "serial", "(I)I"⟩ prog_12_method_47_code 6 (some .int) : Cond) ∈ zw := zw_at 1440 (by decide +kernel) (by decide +kernel)
theorem w_1448 : (.methodLink "ZoneAnswersLaw" 97 ⟨"ZoneAnswersModel", "ask", "(IZ)I"⟩ : Cond) ∈ zw := zw_at 1448 (by decide +kernel) (by decide +kernel)
theorem w_1449 : (.instanceMethod ⟨"ZoneAnswersModel", "ask", "(IZ)I"⟩ : Cond) ∈ zw := zw_at 1449 (by decide +kernel) (by decide +kernel)
theorem w_1450 : (.selects "ZoneAnswersModel" ⟨"ZoneAnswersModel", "ask", "(IZ)I"⟩ ⟨"ZoneAnswersModel", "ask", "(IZ)I"⟩ : Cond) ∈ zw := zw_at 1450 (by decide +kernel) (by decide +kernel)
theorem w_1451 : (.code ⟨"ZoneAnswersModel", "ask", "(IZ)I"⟩ prog_12_method_48_code 7 (some .int) : Cond) ∈ zw := zw_at 1451 (by decide +kernel) (by decide +kernel)
theorem w_1576 : (.methodLink "ZoneAnswersLaw" 100 ⟨"ZoneAnswersModel", "records", "(I)I"⟩ : Cond) ∈ zw := zw_at 1576 (by decide +kernel) (by decide +kernel)
theorem w_1577 : (.instanceMethod ⟨"ZoneAnswersModel", "records", "(I)I"⟩ : Cond) ∈ zw := zw_at 1577 (by decide +kernel) (by decide +kernel)
theorem w_1578 : (.selects "ZoneAnswersModel" ⟨"ZoneAnswersModel", "records", "(I)I"⟩ ⟨"ZoneAnswersModel", "records", "(I)I"⟩ : Cond) ∈ zw := zw_at 1578 (by decide +kernel) (by decide +kernel)
theorem w_1579 : (.code ⟨"ZoneAnswersModel", "records", "(I)I"⟩ prog_12_method_50_code 4 (some .int) : Cond) ∈ zw := zw_at 1579 (by decide +kernel) (by decide +kernel)
theorem w_1580 : (.methodLink "ZoneAnswersLaw" 104 ⟨"ZoneAnswersModel", "told", "(III)I"⟩ : Cond) ∈ zw := zw_at 1580 (by decide +kernel) (by decide +kernel)
theorem w_1581 : (.instanceMethod ⟨"ZoneAnswersModel", "told", "(III)I"⟩ : Cond) ∈ zw := zw_at 1581 (by decide +kernel) (by decide +kernel)
theorem w_1582 : (.selects "ZoneAnswersModel" ⟨"ZoneAnswersModel", "told", "(III)I"⟩ ⟨"ZoneAnswersModel", "told", "(III)I"⟩ : Cond) ∈ zw := zw_at 1582 (by decide +kernel) (by decide +kernel)
theorem w_1583 : (.code ⟨"ZoneAnswersModel", "told", "(III)I"⟩ prog_12_method_52_code 5 (some .int) : Cond) ∈ zw := zw_at 1583 (by decide +kernel) (by decide +kernel)
theorem w_1588 : (.methodLink "ZoneAnswersLaw" 107 ⟨"ZoneAnswersModel", "byteOf", "(III)I"⟩ : Cond) ∈ zw := zw_at 1588 (by decide +kernel) (by decide +kernel)
theorem w_1589 : (.instanceMethod ⟨"ZoneAnswersModel", "byteOf", "(III)I"⟩ : Cond) ∈ zw := zw_at 1589 (by decide +kernel) (by decide +kernel)
theorem w_1590 : (.selects "ZoneAnswersModel" ⟨"ZoneAnswersModel", "byteOf", "(III)I"⟩ ⟨"ZoneAnswersModel", "byteOf", "(III)I"⟩ : Cond) ∈ zw := zw_at 1590 (by decide +kernel) (by decide +kernel)
theorem w_1591 : (.code ⟨"ZoneAnswersModel", "byteOf", "(III)I"⟩ prog_12_method_53_code 6 (some .int) : Cond) ∈ zw := zw_at 1591 (by decide +kernel) (by decide +kernel)
theorem w_1592 : (.methodLink "ZoneAnswersLaw" 111 ⟨"ZoneAnswersModel", "state", "()I"⟩ : Cond) ∈ zw := zw_at 1592 (by decide +kernel) (by decide +kernel)
theorem w_1593 : (.instanceMethod ⟨"ZoneAnswersModel", "state", "()I"⟩ : Cond) ∈ zw := zw_at 1593 (by decide +kernel) (by decide +kernel)
theorem w_1594 : (.selects "ZoneAnswersModel" ⟨"ZoneAnswersModel", "state", "()I"⟩ ⟨"ZoneAnswersModel", "state", "()I"⟩ : Cond) ∈ zw := zw_at 1594 (by decide +kernel) (by decide +kernel)
theorem w_1595 : (.code ⟨"ZoneAnswersModel", "state", "()I"⟩ prog_12_method_54_code 2 (some .int) : Cond) ∈ zw := zw_at 1595 (by decide +kernel) (by decide +kernel)
theorem w_1596 : (.methodLink "ZoneAnswersLaw" 115 ⟨"ZoneAnswersModel", "count", "(I)I"⟩ : Cond) ∈ zw := zw_at 1596 (by decide +kernel) (by decide +kernel)
theorem w_1597 : (.instanceMethod ⟨"ZoneAnswersModel", "count", "(I)I"⟩ : Cond) ∈ zw := zw_at 1597 (by decide +kernel) (by decide +kernel)
theorem w_1598 : (.selects "ZoneAnswersModel" ⟨"ZoneAnswersModel", "count", "(I)I"⟩ ⟨"ZoneAnswersModel", "count", "(I)I"⟩ : Cond) ∈ zw := zw_at 1598 (by decide +kernel) (by decide +kernel)
theorem w_1599 : (.code ⟨"ZoneAnswersModel", "count", "(I)I"⟩ prog_12_method_55_code 8 (some .int) : Cond) ∈ zw := zw_at 1599 (by decide +kernel) (by decide +kernel)
abbrev c_La_law : ByteArray := code
abbrev y_La_law : MethodName := ⟨"ZoneAnswersLaw", "law", "([I)Z"⟩
theorem d_La_law_0 : decode c_La_law 0 = .ok (.new 8, 3) := by decide +kernel
theorem d_La_law_3 : decode c_La_law 3 = .ok (.dup, 1) := by decide +kernel
theorem d_La_law_4 : decode c_La_law 4 = .ok (.invokespecial 59, 3) := by decide +kernel
theorem d_La_law_7 : decode c_La_law 7 = .ok (.astore_n 1, 1) := by decide +kernel
theorem d_La_law_8 : decode c_La_law 8 = .ok (.new 60, 3) := by decide +kernel
theorem d_La_law_11 : decode c_La_law 11 = .ok (.dup, 1) := by decide +kernel
theorem d_La_law_12 : decode c_La_law 12 = .ok (.invokespecial 62, 3) := by decide +kernel
theorem d_La_law_15 : decode c_La_law 15 = .ok (.astore_n 2, 1) := by decide +kernel
theorem d_La_law_16 : decode c_La_law 16 = .ok (.iconst 1, 1) := by decide +kernel
theorem d_La_law_17 : decode c_La_law 17 = .ok (.newarray .long, 2) := by decide +kernel
theorem d_La_law_19 : decode c_La_law 19 = .ok (.astore_n 3, 1) := by decide +kernel
theorem d_La_law_20 : decode c_La_law 20 = .ok (.iconst 0, 1) := by decide +kernel
theorem d_La_law_21 : decode c_La_law 21 = .ok (.istore 4, 2) := by decide +kernel
theorem d_La_law_23 : decode c_La_law 23 = .ok (.iload 4, 2) := by decide +kernel
theorem d_La_law_25 : decode c_La_law 25 = .ok (.aload_n 0, 1) := by decide +kernel
theorem d_La_law_26 : decode c_La_law 26 = .ok (.arraylength, 1) := by decide +kernel
theorem d_La_law_27 : decode c_La_law 27 = .ok (.bipush 6, 2) := by decide +kernel
theorem d_La_law_29 : decode c_La_law 29 = .ok (.isub, 1) := by decide +kernel
theorem d_La_law_30 : decode c_La_law 30 = .ok (.if_icmp .gt 902, 3) := by decide +kernel
theorem d_La_law_33 : decode c_La_law 33 = .ok (.aload_n 0, 1) := by decide +kernel
theorem d_La_law_34 : decode c_La_law 34 = .ok (.iload 4, 2) := by decide +kernel
theorem d_La_law_36 : decode c_La_law 36 = .ok (.iaload, 1) := by decide +kernel
theorem d_La_law_37 : decode c_La_law 37 = .ok (.bipush 15, 2) := by decide +kernel
theorem d_La_law_39 : decode c_La_law 39 = .ok (.iand, 1) := by decide +kernel
theorem d_La_law_40 : decode c_La_law 40 = .ok (.tableswitch 886 0 12 #[68, 172, 228, 312, 380, 436, 492, 517, 601, 657, 737, 817, 861], 68) := by decide +kernel
theorem d_La_law_108 : decode c_La_law 108 = .ok (.aload_n 1, 1) := by decide +kernel
theorem d_La_law_109 : decode c_La_law 109 = .ok (.aload_n 0, 1) := by decide +kernel
theorem d_La_law_110 : decode c_La_law 110 = .ok (.iload 4, 2) := by decide +kernel
theorem d_La_law_112 : decode c_La_law 112 = .ok (.iconst 1, 1) := by decide +kernel
theorem d_La_law_113 : decode c_La_law 113 = .ok (.iadd, 1) := by decide +kernel
theorem d_La_law_114 : decode c_La_law 114 = .ok (.iaload, 1) := by decide +kernel
theorem d_La_law_115 : decode c_La_law 115 = .ok (.aload_n 0, 1) := by decide +kernel
theorem d_La_law_116 : decode c_La_law 116 = .ok (.iload 4, 2) := by decide +kernel
theorem d_La_law_118 : decode c_La_law 118 = .ok (.iconst 2, 1) := by decide +kernel
theorem d_La_law_119 : decode c_La_law 119 = .ok (.iadd, 1) := by decide +kernel
theorem d_La_law_120 : decode c_La_law 120 = .ok (.iaload, 1) := by decide +kernel
theorem d_La_law_121 : decode c_La_law 121 = .ok (.aload_n 0, 1) := by decide +kernel
theorem d_La_law_122 : decode c_La_law 122 = .ok (.iload 4, 2) := by decide +kernel
theorem d_La_law_124 : decode c_La_law 124 = .ok (.iconst 3, 1) := by decide +kernel
theorem d_La_law_125 : decode c_La_law 125 = .ok (.iadd, 1) := by decide +kernel
theorem d_La_law_126 : decode c_La_law 126 = .ok (.iaload, 1) := by decide +kernel
theorem d_La_law_127 : decode c_La_law 127 = .ok (.aload_n 0, 1) := by decide +kernel
theorem d_La_law_128 : decode c_La_law 128 = .ok (.iload 4, 2) := by decide +kernel
theorem d_La_law_130 : decode c_La_law 130 = .ok (.iconst 4, 1) := by decide +kernel
theorem d_La_law_131 : decode c_La_law 131 = .ok (.iadd, 1) := by decide +kernel
theorem d_La_law_132 : decode c_La_law 132 = .ok (.iaload, 1) := by decide +kernel
theorem d_La_law_133 : decode c_La_law 133 = .ok (.aload_n 0, 1) := by decide +kernel
theorem d_La_law_134 : decode c_La_law 134 = .ok (.iload 4, 2) := by decide +kernel
theorem d_La_law_136 : decode c_La_law 136 = .ok (.iconst 5, 1) := by decide +kernel
theorem d_La_law_137 : decode c_La_law 137 = .ok (.iadd, 1) := by decide +kernel
theorem d_La_law_138 : decode c_La_law 138 = .ok (.iaload, 1) := by decide +kernel
theorem d_La_law_139 : decode c_La_law 139 = .ok (.aload_n 3, 1) := by decide +kernel
theorem d_La_law_140 : decode c_La_law 140 = .ok (.invokestatic 63, 3) := by decide +kernel
theorem d_La_law_143 : decode c_La_law 143 = .ok (.istore 5, 2) := by decide +kernel
theorem d_La_law_145 : decode c_La_law 145 = .ok (.aload_n 2, 1) := by decide +kernel
theorem d_La_law_146 : decode c_La_law 146 = .ok (.aload_n 0, 1) := by decide +kernel
theorem d_La_law_147 : decode c_La_law 147 = .ok (.iload 4, 2) := by decide +kernel
theorem d_La_law_149 : decode c_La_law 149 = .ok (.iconst 1, 1) := by decide +kernel
theorem d_La_law_150 : decode c_La_law 150 = .ok (.iadd, 1) := by decide +kernel
theorem d_La_law_151 : decode c_La_law 151 = .ok (.iaload, 1) := by decide +kernel
theorem d_La_law_152 : decode c_La_law 152 = .ok (.aload_n 0, 1) := by decide +kernel
theorem d_La_law_153 : decode c_La_law 153 = .ok (.iload 4, 2) := by decide +kernel
theorem d_La_law_155 : decode c_La_law 155 = .ok (.iconst 2, 1) := by decide +kernel
theorem d_La_law_156 : decode c_La_law 156 = .ok (.iadd, 1) := by decide +kernel
theorem d_La_law_157 : decode c_La_law 157 = .ok (.iaload, 1) := by decide +kernel
theorem d_La_law_158 : decode c_La_law 158 = .ok (.aload_n 0, 1) := by decide +kernel
theorem d_La_law_159 : decode c_La_law 159 = .ok (.iload 4, 2) := by decide +kernel
theorem d_La_law_161 : decode c_La_law 161 = .ok (.iconst 3, 1) := by decide +kernel
theorem d_La_law_162 : decode c_La_law 162 = .ok (.iadd, 1) := by decide +kernel
theorem d_La_law_163 : decode c_La_law 163 = .ok (.iaload, 1) := by decide +kernel
theorem d_La_law_164 : decode c_La_law 164 = .ok (.aload_n 0, 1) := by decide +kernel
theorem d_La_law_165 : decode c_La_law 165 = .ok (.iload 4, 2) := by decide +kernel
theorem d_La_law_167 : decode c_La_law 167 = .ok (.iconst 4, 1) := by decide +kernel
theorem d_La_law_168 : decode c_La_law 168 = .ok (.iadd, 1) := by decide +kernel
theorem d_La_law_169 : decode c_La_law 169 = .ok (.iaload, 1) := by decide +kernel
theorem d_La_law_170 : decode c_La_law 170 = .ok (.aload_n 0, 1) := by decide +kernel
theorem d_La_law_171 : decode c_La_law 171 = .ok (.iload 4, 2) := by decide +kernel
theorem d_La_law_173 : decode c_La_law 173 = .ok (.iconst 5, 1) := by decide +kernel
theorem d_La_law_174 : decode c_La_law 174 = .ok (.iadd, 1) := by decide +kernel
theorem d_La_law_175 : decode c_La_law 175 = .ok (.iaload, 1) := by decide +kernel
theorem d_La_law_176 : decode c_La_law 176 = .ok (.invokevirtual 68, 3) := by decide +kernel
theorem d_La_law_179 : decode c_La_law 179 = .ok (.istore 6, 2) := by decide +kernel
theorem d_La_law_181 : decode c_La_law 181 = .ok (.aload_n 2, 1) := by decide +kernel
theorem d_La_law_182 : decode c_La_law 182 = .ok (.invokevirtual 69, 3) := by decide +kernel
theorem d_La_law_185 : decode c_La_law 185 = .ok (.iload 5, 2) := by decide +kernel
theorem d_La_law_187 : decode c_La_law 187 = .ok (.if_icmp .eq 5, 3) := by decide +kernel
theorem d_La_law_190 : decode c_La_law 190 = .ok (.iconst 0, 1) := by decide +kernel
theorem d_La_law_191 : decode c_La_law 191 = .ok (.ireturn, 1) := by decide +kernel
theorem d_La_law_192 : decode c_La_law 192 = .ok (.iload 5, 2) := by decide +kernel
theorem d_La_law_194 : decode c_La_law 194 = .ok (.ifCond .ne 15, 3) := by decide +kernel
theorem d_La_law_197 : decode c_La_law 197 = .ok (.aload_n 3, 1) := by decide +kernel
theorem d_La_law_198 : decode c_La_law 198 = .ok (.iconst 0, 1) := by decide +kernel
theorem d_La_law_199 : decode c_La_law 199 = .ok (.laload, 1) := by decide +kernel
theorem d_La_law_200 : decode c_La_law 200 = .ok (.iload 6, 2) := by decide +kernel
theorem d_La_law_202 : decode c_La_law 202 = .ok (.i2l, 1) := by decide +kernel
theorem d_La_law_203 : decode c_La_law 203 = .ok (.lcmp, 1) := by decide +kernel
theorem d_La_law_204 : decode c_La_law 204 = .ok (.ifCond .eq 5, 3) := by decide +kernel
theorem d_La_law_207 : decode c_La_law 207 = .ok (.iconst 0, 1) := by decide +kernel
theorem d_La_law_208 : decode c_La_law 208 = .ok (.ireturn, 1) := by decide +kernel
theorem d_La_law_209 : decode c_La_law 209 = .ok (.goto 717, 3) := by decide +kernel
theorem d_La_law_212 : decode c_La_law 212 = .ok (.aload_n 1, 1) := by decide +kernel
theorem d_La_law_213 : decode c_La_law 213 = .ok (.aload_n 0, 1) := by decide +kernel
theorem d_La_law_214 : decode c_La_law 214 = .ok (.iload 4, 2) := by decide +kernel
theorem d_La_law_216 : decode c_La_law 216 = .ok (.iconst 1, 1) := by decide +kernel
theorem d_La_law_217 : decode c_La_law 217 = .ok (.iadd, 1) := by decide +kernel
theorem d_La_law_218 : decode c_La_law 218 = .ok (.iaload, 1) := by decide +kernel
theorem d_La_law_219 : decode c_La_law 219 = .ok (.aload_n 3, 1) := by decide +kernel
theorem d_La_law_220 : decode c_La_law 220 = .ok (.invokestatic 72, 3) := by decide +kernel
theorem d_La_law_223 : decode c_La_law 223 = .ok (.istore 5, 2) := by decide +kernel
theorem d_La_law_225 : decode c_La_law 225 = .ok (.aload_n 2, 1) := by decide +kernel
theorem d_La_law_226 : decode c_La_law 226 = .ok (.aload_n 0, 1) := by decide +kernel
theorem d_La_law_227 : decode c_La_law 227 = .ok (.iload 4, 2) := by decide +kernel
theorem d_La_law_229 : decode c_La_law 229 = .ok (.iconst 1, 1) := by decide +kernel
theorem d_La_law_230 : decode c_La_law 230 = .ok (.iadd, 1) := by decide +kernel
theorem d_La_law_231 : decode c_La_law 231 = .ok (.iaload, 1) := by decide +kernel
theorem d_La_law_232 : decode c_La_law 232 = .ok (.invokevirtual 75, 3) := by decide +kernel
theorem d_La_law_235 : decode c_La_law 235 = .ok (.istore 6, 2) := by decide +kernel
theorem d_La_law_237 : decode c_La_law 237 = .ok (.aload_n 2, 1) := by decide +kernel
theorem d_La_law_238 : decode c_La_law 238 = .ok (.invokevirtual 69, 3) := by decide +kernel
theorem d_La_law_241 : decode c_La_law 241 = .ok (.iload 5, 2) := by decide +kernel
theorem d_La_law_243 : decode c_La_law 243 = .ok (.if_icmp .eq 5, 3) := by decide +kernel
theorem d_La_law_246 : decode c_La_law 246 = .ok (.iconst 0, 1) := by decide +kernel
theorem d_La_law_247 : decode c_La_law 247 = .ok (.ireturn, 1) := by decide +kernel
theorem d_La_law_248 : decode c_La_law 248 = .ok (.iload 5, 2) := by decide +kernel
theorem d_La_law_250 : decode c_La_law 250 = .ok (.ifCond .ne 15, 3) := by decide +kernel
theorem d_La_law_253 : decode c_La_law 253 = .ok (.aload_n 3, 1) := by decide +kernel
theorem d_La_law_254 : decode c_La_law 254 = .ok (.iconst 0, 1) := by decide +kernel
theorem d_La_law_255 : decode c_La_law 255 = .ok (.laload, 1) := by decide +kernel
theorem d_La_law_256 : decode c_La_law 256 = .ok (.iload 6, 2) := by decide +kernel
theorem d_La_law_258 : decode c_La_law 258 = .ok (.i2l, 1) := by decide +kernel
theorem d_La_law_259 : decode c_La_law 259 = .ok (.lcmp, 1) := by decide +kernel
theorem d_La_law_260 : decode c_La_law 260 = .ok (.ifCond .eq 5, 3) := by decide +kernel
theorem d_La_law_263 : decode c_La_law 263 = .ok (.iconst 0, 1) := by decide +kernel
theorem d_La_law_264 : decode c_La_law 264 = .ok (.ireturn, 1) := by decide +kernel
theorem d_La_law_265 : decode c_La_law 265 = .ok (.goto 661, 3) := by decide +kernel
theorem d_La_law_268 : decode c_La_law 268 = .ok (.aload_n 1, 1) := by decide +kernel
theorem d_La_law_269 : decode c_La_law 269 = .ok (.aload_n 0, 1) := by decide +kernel
theorem d_La_law_270 : decode c_La_law 270 = .ok (.iload 4, 2) := by decide +kernel
theorem d_La_law_272 : decode c_La_law 272 = .ok (.iconst 1, 1) := by decide +kernel
theorem d_La_law_273 : decode c_La_law 273 = .ok (.iadd, 1) := by decide +kernel
theorem d_La_law_274 : decode c_La_law 274 = .ok (.iaload, 1) := by decide +kernel
theorem d_La_law_275 : decode c_La_law 275 = .ok (.aload_n 0, 1) := by decide +kernel
theorem d_La_law_276 : decode c_La_law 276 = .ok (.iload 4, 2) := by decide +kernel
theorem d_La_law_278 : decode c_La_law 278 = .ok (.iconst 2, 1) := by decide +kernel
theorem d_La_law_279 : decode c_La_law 279 = .ok (.iadd, 1) := by decide +kernel
theorem d_La_law_280 : decode c_La_law 280 = .ok (.iaload, 1) := by decide +kernel
theorem d_La_law_281 : decode c_La_law 281 = .ok (.aload_n 0, 1) := by decide +kernel
theorem d_La_law_282 : decode c_La_law 282 = .ok (.iload 4, 2) := by decide +kernel
theorem d_La_law_284 : decode c_La_law 284 = .ok (.iconst 3, 1) := by decide +kernel
theorem d_La_law_285 : decode c_La_law 285 = .ok (.iadd, 1) := by decide +kernel
theorem d_La_law_286 : decode c_La_law 286 = .ok (.iaload, 1) := by decide +kernel
theorem d_La_law_287 : decode c_La_law 287 = .ok (.aload_n 0, 1) := by decide +kernel
theorem d_La_law_288 : decode c_La_law 288 = .ok (.iload 4, 2) := by decide +kernel
theorem d_La_law_290 : decode c_La_law 290 = .ok (.iconst 4, 1) := by decide +kernel
theorem d_La_law_291 : decode c_La_law 291 = .ok (.iadd, 1) := by decide +kernel
theorem d_La_law_292 : decode c_La_law 292 = .ok (.iaload, 1) := by decide +kernel
theorem d_La_law_293 : decode c_La_law 293 = .ok (.aload_n 0, 1) := by decide +kernel
theorem d_La_law_294 : decode c_La_law 294 = .ok (.iload 4, 2) := by decide +kernel
theorem d_La_law_296 : decode c_La_law 296 = .ok (.iconst 5, 1) := by decide +kernel
theorem d_La_law_297 : decode c_La_law 297 = .ok (.iadd, 1) := by decide +kernel
theorem d_La_law_298 : decode c_La_law 298 = .ok (.iaload, 1) := by decide +kernel
theorem d_La_law_299 : decode c_La_law 299 = .ok (.invokestatic 76, 3) := by decide +kernel
theorem d_La_law_302 : decode c_La_law 302 = .ok (.istore 5, 2) := by decide +kernel
theorem d_La_law_304 : decode c_La_law 304 = .ok (.aload_n 2, 1) := by decide +kernel
theorem d_La_law_305 : decode c_La_law 305 = .ok (.aload_n 0, 1) := by decide +kernel
theorem d_La_law_306 : decode c_La_law 306 = .ok (.iload 4, 2) := by decide +kernel
theorem d_La_law_308 : decode c_La_law 308 = .ok (.iconst 1, 1) := by decide +kernel
theorem d_La_law_309 : decode c_La_law 309 = .ok (.iadd, 1) := by decide +kernel
theorem d_La_law_310 : decode c_La_law 310 = .ok (.iaload, 1) := by decide +kernel
theorem d_La_law_311 : decode c_La_law 311 = .ok (.aload_n 0, 1) := by decide +kernel
theorem d_La_law_312 : decode c_La_law 312 = .ok (.iload 4, 2) := by decide +kernel
theorem d_La_law_314 : decode c_La_law 314 = .ok (.iconst 2, 1) := by decide +kernel
theorem d_La_law_315 : decode c_La_law 315 = .ok (.iadd, 1) := by decide +kernel
theorem d_La_law_316 : decode c_La_law 316 = .ok (.iaload, 1) := by decide +kernel
theorem d_La_law_317 : decode c_La_law 317 = .ok (.aload_n 0, 1) := by decide +kernel
theorem d_La_law_318 : decode c_La_law 318 = .ok (.iload 4, 2) := by decide +kernel
theorem d_La_law_320 : decode c_La_law 320 = .ok (.iconst 3, 1) := by decide +kernel
theorem d_La_law_321 : decode c_La_law 321 = .ok (.iadd, 1) := by decide +kernel
theorem d_La_law_322 : decode c_La_law 322 = .ok (.iaload, 1) := by decide +kernel
theorem d_La_law_323 : decode c_La_law 323 = .ok (.aload_n 0, 1) := by decide +kernel
theorem d_La_law_324 : decode c_La_law 324 = .ok (.iload 4, 2) := by decide +kernel
theorem d_La_law_326 : decode c_La_law 326 = .ok (.iconst 4, 1) := by decide +kernel
theorem d_La_law_327 : decode c_La_law 327 = .ok (.iadd, 1) := by decide +kernel
theorem d_La_law_328 : decode c_La_law 328 = .ok (.iaload, 1) := by decide +kernel
theorem d_La_law_329 : decode c_La_law 329 = .ok (.aload_n 0, 1) := by decide +kernel
theorem d_La_law_330 : decode c_La_law 330 = .ok (.iload 4, 2) := by decide +kernel
theorem d_La_law_332 : decode c_La_law 332 = .ok (.iconst 5, 1) := by decide +kernel
theorem d_La_law_333 : decode c_La_law 333 = .ok (.iadd, 1) := by decide +kernel
theorem d_La_law_334 : decode c_La_law 334 = .ok (.iaload, 1) := by decide +kernel
theorem d_La_law_335 : decode c_La_law 335 = .ok (.invokevirtual 79, 3) := by decide +kernel
theorem d_La_law_338 : decode c_La_law 338 = .ok (.aload_n 2, 1) := by decide +kernel
theorem d_La_law_339 : decode c_La_law 339 = .ok (.invokevirtual 69, 3) := by decide +kernel
theorem d_La_law_342 : decode c_La_law 342 = .ok (.iload 5, 2) := by decide +kernel
theorem d_La_law_344 : decode c_La_law 344 = .ok (.if_icmp .eq 5, 3) := by decide +kernel
theorem d_La_law_347 : decode c_La_law 347 = .ok (.iconst 0, 1) := by decide +kernel
theorem d_La_law_348 : decode c_La_law 348 = .ok (.ireturn, 1) := by decide +kernel
theorem d_La_law_349 : decode c_La_law 349 = .ok (.goto 577, 3) := by decide +kernel
theorem d_La_law_352 : decode c_La_law 352 = .ok (.aload_n 1, 1) := by decide +kernel
theorem d_La_law_353 : decode c_La_law 353 = .ok (.aload_n 0, 1) := by decide +kernel
theorem d_La_law_354 : decode c_La_law 354 = .ok (.iload 4, 2) := by decide +kernel
theorem d_La_law_356 : decode c_La_law 356 = .ok (.iconst 1, 1) := by decide +kernel
theorem d_La_law_357 : decode c_La_law 357 = .ok (.iadd, 1) := by decide +kernel
theorem d_La_law_358 : decode c_La_law 358 = .ok (.iaload, 1) := by decide +kernel
theorem d_La_law_359 : decode c_La_law 359 = .ok (.aload_n 0, 1) := by decide +kernel
theorem d_La_law_360 : decode c_La_law 360 = .ok (.iload 4, 2) := by decide +kernel
theorem d_La_law_362 : decode c_La_law 362 = .ok (.iconst 2, 1) := by decide +kernel
theorem d_La_law_363 : decode c_La_law 363 = .ok (.iadd, 1) := by decide +kernel
theorem d_La_law_364 : decode c_La_law 364 = .ok (.iaload, 1) := by decide +kernel
theorem d_La_law_365 : decode c_La_law 365 = .ok (.aload_n 3, 1) := by decide +kernel
theorem d_La_law_366 : decode c_La_law 366 = .ok (.invokestatic 80, 3) := by decide +kernel
theorem d_La_law_369 : decode c_La_law 369 = .ok (.istore 5, 2) := by decide +kernel
theorem d_La_law_371 : decode c_La_law 371 = .ok (.aload_n 2, 1) := by decide +kernel
theorem d_La_law_372 : decode c_La_law 372 = .ok (.aload_n 0, 1) := by decide +kernel
theorem d_La_law_373 : decode c_La_law 373 = .ok (.iload 4, 2) := by decide +kernel
theorem d_La_law_375 : decode c_La_law 375 = .ok (.iconst 1, 1) := by decide +kernel
theorem d_La_law_376 : decode c_La_law 376 = .ok (.iadd, 1) := by decide +kernel
theorem d_La_law_377 : decode c_La_law 377 = .ok (.iaload, 1) := by decide +kernel
theorem d_La_law_378 : decode c_La_law 378 = .ok (.aload_n 0, 1) := by decide +kernel
theorem d_La_law_379 : decode c_La_law 379 = .ok (.iload 4, 2) := by decide +kernel
theorem d_La_law_381 : decode c_La_law 381 = .ok (.iconst 2, 1) := by decide +kernel
theorem d_La_law_382 : decode c_La_law 382 = .ok (.iadd, 1) := by decide +kernel
theorem d_La_law_383 : decode c_La_law 383 = .ok (.iaload, 1) := by decide +kernel
theorem d_La_law_384 : decode c_La_law 384 = .ok (.invokevirtual 83, 3) := by decide +kernel
theorem d_La_law_387 : decode c_La_law 387 = .ok (.istore 6, 2) := by decide +kernel
theorem d_La_law_389 : decode c_La_law 389 = .ok (.aload_n 2, 1) := by decide +kernel
theorem d_La_law_390 : decode c_La_law 390 = .ok (.invokevirtual 69, 3) := by decide +kernel
theorem d_La_law_393 : decode c_La_law 393 = .ok (.iload 5, 2) := by decide +kernel
theorem d_La_law_395 : decode c_La_law 395 = .ok (.if_icmp .eq 5, 3) := by decide +kernel
theorem d_La_law_398 : decode c_La_law 398 = .ok (.iconst 0, 1) := by decide +kernel
theorem d_La_law_399 : decode c_La_law 399 = .ok (.ireturn, 1) := by decide +kernel
theorem d_La_law_400 : decode c_La_law 400 = .ok (.iload 5, 2) := by decide +kernel
theorem d_La_law_402 : decode c_La_law 402 = .ok (.ifCond .ne 15, 3) := by decide +kernel
theorem d_La_law_405 : decode c_La_law 405 = .ok (.aload_n 3, 1) := by decide +kernel
theorem d_La_law_406 : decode c_La_law 406 = .ok (.iconst 0, 1) := by decide +kernel
theorem d_La_law_407 : decode c_La_law 407 = .ok (.laload, 1) := by decide +kernel
theorem d_La_law_408 : decode c_La_law 408 = .ok (.iload 6, 2) := by decide +kernel
theorem d_La_law_410 : decode c_La_law 410 = .ok (.i2l, 1) := by decide +kernel
theorem d_La_law_411 : decode c_La_law 411 = .ok (.lcmp, 1) := by decide +kernel
theorem d_La_law_412 : decode c_La_law 412 = .ok (.ifCond .eq 5, 3) := by decide +kernel
theorem d_La_law_415 : decode c_La_law 415 = .ok (.iconst 0, 1) := by decide +kernel
theorem d_La_law_416 : decode c_La_law 416 = .ok (.ireturn, 1) := by decide +kernel
theorem d_La_law_417 : decode c_La_law 417 = .ok (.goto 509, 3) := by decide +kernel
theorem d_La_law_420 : decode c_La_law 420 = .ok (.aload_n 1, 1) := by decide +kernel
theorem d_La_law_421 : decode c_La_law 421 = .ok (.aload_n 0, 1) := by decide +kernel
theorem d_La_law_422 : decode c_La_law 422 = .ok (.iload 4, 2) := by decide +kernel
theorem d_La_law_424 : decode c_La_law 424 = .ok (.iconst 1, 1) := by decide +kernel
theorem d_La_law_425 : decode c_La_law 425 = .ok (.iadd, 1) := by decide +kernel
theorem d_La_law_426 : decode c_La_law 426 = .ok (.iaload, 1) := by decide +kernel
theorem d_La_law_427 : decode c_La_law 427 = .ok (.aload_n 3, 1) := by decide +kernel
theorem d_La_law_428 : decode c_La_law 428 = .ok (.invokestatic 84, 3) := by decide +kernel
theorem d_La_law_431 : decode c_La_law 431 = .ok (.istore 5, 2) := by decide +kernel
theorem d_La_law_433 : decode c_La_law 433 = .ok (.aload_n 2, 1) := by decide +kernel
theorem d_La_law_434 : decode c_La_law 434 = .ok (.aload_n 0, 1) := by decide +kernel
theorem d_La_law_435 : decode c_La_law 435 = .ok (.iload 4, 2) := by decide +kernel
theorem d_La_law_437 : decode c_La_law 437 = .ok (.iconst 1, 1) := by decide +kernel
theorem d_La_law_438 : decode c_La_law 438 = .ok (.iadd, 1) := by decide +kernel
theorem d_La_law_439 : decode c_La_law 439 = .ok (.iaload, 1) := by decide +kernel
theorem d_La_law_440 : decode c_La_law 440 = .ok (.invokevirtual 86, 3) := by decide +kernel
theorem d_La_law_443 : decode c_La_law 443 = .ok (.istore 6, 2) := by decide +kernel
theorem d_La_law_445 : decode c_La_law 445 = .ok (.aload_n 2, 1) := by decide +kernel
theorem d_La_law_446 : decode c_La_law 446 = .ok (.invokevirtual 69, 3) := by decide +kernel
theorem d_La_law_449 : decode c_La_law 449 = .ok (.iload 5, 2) := by decide +kernel
theorem d_La_law_451 : decode c_La_law 451 = .ok (.if_icmp .eq 5, 3) := by decide +kernel
theorem d_La_law_454 : decode c_La_law 454 = .ok (.iconst 0, 1) := by decide +kernel
theorem d_La_law_455 : decode c_La_law 455 = .ok (.ireturn, 1) := by decide +kernel
theorem d_La_law_456 : decode c_La_law 456 = .ok (.iload 5, 2) := by decide +kernel
theorem d_La_law_458 : decode c_La_law 458 = .ok (.ifCond .ne 15, 3) := by decide +kernel
theorem d_La_law_461 : decode c_La_law 461 = .ok (.aload_n 3, 1) := by decide +kernel
theorem d_La_law_462 : decode c_La_law 462 = .ok (.iconst 0, 1) := by decide +kernel
theorem d_La_law_463 : decode c_La_law 463 = .ok (.laload, 1) := by decide +kernel
theorem d_La_law_464 : decode c_La_law 464 = .ok (.iload 6, 2) := by decide +kernel
theorem d_La_law_466 : decode c_La_law 466 = .ok (.i2l, 1) := by decide +kernel
theorem d_La_law_467 : decode c_La_law 467 = .ok (.lcmp, 1) := by decide +kernel
theorem d_La_law_468 : decode c_La_law 468 = .ok (.ifCond .eq 5, 3) := by decide +kernel
theorem d_La_law_471 : decode c_La_law 471 = .ok (.iconst 0, 1) := by decide +kernel
theorem d_La_law_472 : decode c_La_law 472 = .ok (.ireturn, 1) := by decide +kernel
theorem d_La_law_473 : decode c_La_law 473 = .ok (.goto 453, 3) := by decide +kernel
theorem d_La_law_476 : decode c_La_law 476 = .ok (.aload_n 1, 1) := by decide +kernel
theorem d_La_law_477 : decode c_La_law 477 = .ok (.aload_n 0, 1) := by decide +kernel
theorem d_La_law_478 : decode c_La_law 478 = .ok (.iload 4, 2) := by decide +kernel
theorem d_La_law_480 : decode c_La_law 480 = .ok (.iconst 1, 1) := by decide +kernel
theorem d_La_law_481 : decode c_La_law 481 = .ok (.iadd, 1) := by decide +kernel
theorem d_La_law_482 : decode c_La_law 482 = .ok (.iaload, 1) := by decide +kernel
theorem d_La_law_483 : decode c_La_law 483 = .ok (.aload_n 3, 1) := by decide +kernel
theorem d_La_law_484 : decode c_La_law 484 = .ok (.invokestatic 87, 3) := by decide +kernel
theorem d_La_law_487 : decode c_La_law 487 = .ok (.istore 5, 2) := by decide +kernel
theorem d_La_law_489 : decode c_La_law 489 = .ok (.aload_n 2, 1) := by decide +kernel
theorem d_La_law_490 : decode c_La_law 490 = .ok (.aload_n 0, 1) := by decide +kernel
theorem d_La_law_491 : decode c_La_law 491 = .ok (.iload 4, 2) := by decide +kernel
theorem d_La_law_493 : decode c_La_law 493 = .ok (.iconst 1, 1) := by decide +kernel
theorem d_La_law_494 : decode c_La_law 494 = .ok (.iadd, 1) := by decide +kernel
theorem d_La_law_495 : decode c_La_law 495 = .ok (.iaload, 1) := by decide +kernel
theorem d_La_law_496 : decode c_La_law 496 = .ok (.invokevirtual 89, 3) := by decide +kernel
theorem d_La_law_499 : decode c_La_law 499 = .ok (.istore 6, 2) := by decide +kernel
theorem d_La_law_501 : decode c_La_law 501 = .ok (.aload_n 2, 1) := by decide +kernel
theorem d_La_law_502 : decode c_La_law 502 = .ok (.invokevirtual 69, 3) := by decide +kernel
theorem d_La_law_505 : decode c_La_law 505 = .ok (.iload 5, 2) := by decide +kernel
theorem d_La_law_507 : decode c_La_law 507 = .ok (.if_icmp .eq 5, 3) := by decide +kernel
theorem d_La_law_510 : decode c_La_law 510 = .ok (.iconst 0, 1) := by decide +kernel
theorem d_La_law_511 : decode c_La_law 511 = .ok (.ireturn, 1) := by decide +kernel
theorem d_La_law_512 : decode c_La_law 512 = .ok (.iload 5, 2) := by decide +kernel
theorem d_La_law_514 : decode c_La_law 514 = .ok (.ifCond .ne 15, 3) := by decide +kernel
theorem d_La_law_517 : decode c_La_law 517 = .ok (.aload_n 3, 1) := by decide +kernel
theorem d_La_law_518 : decode c_La_law 518 = .ok (.iconst 0, 1) := by decide +kernel
theorem d_La_law_519 : decode c_La_law 519 = .ok (.laload, 1) := by decide +kernel
theorem d_La_law_520 : decode c_La_law 520 = .ok (.iload 6, 2) := by decide +kernel
theorem d_La_law_522 : decode c_La_law 522 = .ok (.i2l, 1) := by decide +kernel
theorem d_La_law_523 : decode c_La_law 523 = .ok (.lcmp, 1) := by decide +kernel
theorem d_La_law_524 : decode c_La_law 524 = .ok (.ifCond .eq 5, 3) := by decide +kernel
theorem d_La_law_527 : decode c_La_law 527 = .ok (.iconst 0, 1) := by decide +kernel
theorem d_La_law_528 : decode c_La_law 528 = .ok (.ireturn, 1) := by decide +kernel
theorem d_La_law_529 : decode c_La_law 529 = .ok (.goto 397, 3) := by decide +kernel
theorem d_La_law_532 : decode c_La_law 532 = .ok (.aload_n 1, 1) := by decide +kernel
theorem d_La_law_533 : decode c_La_law 533 = .ok (.aload_n 0, 1) := by decide +kernel
theorem d_La_law_534 : decode c_La_law 534 = .ok (.iload 4, 2) := by decide +kernel
theorem d_La_law_536 : decode c_La_law 536 = .ok (.iconst 1, 1) := by decide +kernel
theorem d_La_law_537 : decode c_La_law 537 = .ok (.iadd, 1) := by decide +kernel
theorem d_La_law_538 : decode c_La_law 538 = .ok (.iaload, 1) := by decide +kernel
theorem d_La_law_539 : decode c_La_law 539 = .ok (.invokevirtual 90, 3) := by decide +kernel
theorem d_La_law_542 : decode c_La_law 542 = .ok (.aload_n 2, 1) := by decide +kernel
theorem d_La_law_543 : decode c_La_law 543 = .ok (.aload_n 0, 1) := by decide +kernel
theorem d_La_law_544 : decode c_La_law 544 = .ok (.iload 4, 2) := by decide +kernel
theorem d_La_law_546 : decode c_La_law 546 = .ok (.iconst 1, 1) := by decide +kernel
theorem d_La_law_547 : decode c_La_law 547 = .ok (.iadd, 1) := by decide +kernel
theorem d_La_law_548 : decode c_La_law 548 = .ok (.iaload, 1) := by decide +kernel
theorem d_La_law_549 : decode c_La_law 549 = .ok (.invokevirtual 93, 3) := by decide +kernel
theorem d_La_law_552 : decode c_La_law 552 = .ok (.if_icmp .eq 374, 3) := by decide +kernel
theorem d_La_law_555 : decode c_La_law 555 = .ok (.iconst 0, 1) := by decide +kernel
theorem d_La_law_556 : decode c_La_law 556 = .ok (.ireturn, 1) := by decide +kernel
theorem d_La_law_557 : decode c_La_law 557 = .ok (.aload_n 1, 1) := by decide +kernel
theorem d_La_law_558 : decode c_La_law 558 = .ok (.aload_n 0, 1) := by decide +kernel
theorem d_La_law_559 : decode c_La_law 559 = .ok (.iload 4, 2) := by decide +kernel
theorem d_La_law_561 : decode c_La_law 561 = .ok (.iconst 1, 1) := by decide +kernel
theorem d_La_law_562 : decode c_La_law 562 = .ok (.iadd, 1) := by decide +kernel
theorem d_La_law_563 : decode c_La_law 563 = .ok (.iaload, 1) := by decide +kernel
theorem d_La_law_564 : decode c_La_law 564 = .ok (.aload_n 0, 1) := by decide +kernel
theorem d_La_law_565 : decode c_La_law 565 = .ok (.iload 4, 2) := by decide +kernel
theorem d_La_law_567 : decode c_La_law 567 = .ok (.iconst 2, 1) := by decide +kernel
theorem d_La_law_568 : decode c_La_law 568 = .ok (.iadd, 1) := by decide +kernel
theorem d_La_law_569 : decode c_La_law 569 = .ok (.iaload, 1) := by decide +kernel
theorem d_La_law_570 : decode c_La_law 570 = .ok (.ifCond .eq 7, 3) := by decide +kernel
theorem d_La_law_573 : decode c_La_law 573 = .ok (.iconst 1, 1) := by decide +kernel
theorem d_La_law_574 : decode c_La_law 574 = .ok (.goto 4, 3) := by decide +kernel
theorem d_La_law_577 : decode c_La_law 577 = .ok (.iconst 0, 1) := by decide +kernel
theorem d_La_law_578 : decode c_La_law 578 = .ok (.aload_n 3, 1) := by decide +kernel
theorem d_La_law_579 : decode c_La_law 579 = .ok (.invokestatic 94, 3) := by decide +kernel
theorem d_La_law_582 : decode c_La_law 582 = .ok (.istore 5, 2) := by decide +kernel
theorem d_La_law_584 : decode c_La_law 584 = .ok (.aload_n 2, 1) := by decide +kernel
theorem d_La_law_585 : decode c_La_law 585 = .ok (.aload_n 0, 1) := by decide +kernel
theorem d_La_law_586 : decode c_La_law 586 = .ok (.iload 4, 2) := by decide +kernel
theorem d_La_law_588 : decode c_La_law 588 = .ok (.iconst 1, 1) := by decide +kernel
theorem d_La_law_589 : decode c_La_law 589 = .ok (.iadd, 1) := by decide +kernel
theorem d_La_law_590 : decode c_La_law 590 = .ok (.iaload, 1) := by decide +kernel
theorem d_La_law_591 : decode c_La_law 591 = .ok (.aload_n 0, 1) := by decide +kernel
theorem d_La_law_592 : decode c_La_law 592 = .ok (.iload 4, 2) := by decide +kernel
theorem d_La_law_594 : decode c_La_law 594 = .ok (.iconst 2, 1) := by decide +kernel
theorem d_La_law_595 : decode c_La_law 595 = .ok (.iadd, 1) := by decide +kernel
theorem d_La_law_596 : decode c_La_law 596 = .ok (.iaload, 1) := by decide +kernel
theorem d_La_law_597 : decode c_La_law 597 = .ok (.ifCond .eq 7, 3) := by decide +kernel
theorem d_La_law_600 : decode c_La_law 600 = .ok (.iconst 1, 1) := by decide +kernel
theorem d_La_law_601 : decode c_La_law 601 = .ok (.goto 4, 3) := by decide +kernel
theorem d_La_law_604 : decode c_La_law 604 = .ok (.iconst 0, 1) := by decide +kernel
theorem d_La_law_605 : decode c_La_law 605 = .ok (.invokevirtual 97, 3) := by decide +kernel
theorem d_La_law_608 : decode c_La_law 608 = .ok (.istore 6, 2) := by decide +kernel
theorem d_La_law_610 : decode c_La_law 610 = .ok (.aload_n 2, 1) := by decide +kernel
theorem d_La_law_611 : decode c_La_law 611 = .ok (.invokevirtual 69, 3) := by decide +kernel
theorem d_La_law_614 : decode c_La_law 614 = .ok (.iload 5, 2) := by decide +kernel
theorem d_La_law_616 : decode c_La_law 616 = .ok (.if_icmp .eq 5, 3) := by decide +kernel
theorem d_La_law_619 : decode c_La_law 619 = .ok (.iconst 0, 1) := by decide +kernel
theorem d_La_law_620 : decode c_La_law 620 = .ok (.ireturn, 1) := by decide +kernel
theorem d_La_law_621 : decode c_La_law 621 = .ok (.iload 5, 2) := by decide +kernel
theorem d_La_law_623 : decode c_La_law 623 = .ok (.ifCond .ne 15, 3) := by decide +kernel
theorem d_La_law_626 : decode c_La_law 626 = .ok (.aload_n 3, 1) := by decide +kernel
theorem d_La_law_627 : decode c_La_law 627 = .ok (.iconst 0, 1) := by decide +kernel
theorem d_La_law_628 : decode c_La_law 628 = .ok (.laload, 1) := by decide +kernel
theorem d_La_law_629 : decode c_La_law 629 = .ok (.iload 6, 2) := by decide +kernel
theorem d_La_law_631 : decode c_La_law 631 = .ok (.i2l, 1) := by decide +kernel
theorem d_La_law_632 : decode c_La_law 632 = .ok (.lcmp, 1) := by decide +kernel
theorem d_La_law_633 : decode c_La_law 633 = .ok (.ifCond .eq 5, 3) := by decide +kernel
theorem d_La_law_636 : decode c_La_law 636 = .ok (.iconst 0, 1) := by decide +kernel
theorem d_La_law_637 : decode c_La_law 637 = .ok (.ireturn, 1) := by decide +kernel
theorem d_La_law_638 : decode c_La_law 638 = .ok (.goto 288, 3) := by decide +kernel
theorem d_La_law_641 : decode c_La_law 641 = .ok (.aload_n 1, 1) := by decide +kernel
theorem d_La_law_642 : decode c_La_law 642 = .ok (.aload_n 0, 1) := by decide +kernel
theorem d_La_law_643 : decode c_La_law 643 = .ok (.iload 4, 2) := by decide +kernel
theorem d_La_law_645 : decode c_La_law 645 = .ok (.iconst 1, 1) := by decide +kernel
theorem d_La_law_646 : decode c_La_law 646 = .ok (.iadd, 1) := by decide +kernel
theorem d_La_law_647 : decode c_La_law 647 = .ok (.iaload, 1) := by decide +kernel
theorem d_La_law_648 : decode c_La_law 648 = .ok (.aload_n 3, 1) := by decide +kernel
theorem d_La_law_649 : decode c_La_law 649 = .ok (.invokestatic 98, 3) := by decide +kernel
theorem d_La_law_652 : decode c_La_law 652 = .ok (.istore 5, 2) := by decide +kernel
theorem d_La_law_654 : decode c_La_law 654 = .ok (.aload_n 2, 1) := by decide +kernel
theorem d_La_law_655 : decode c_La_law 655 = .ok (.aload_n 0, 1) := by decide +kernel
theorem d_La_law_656 : decode c_La_law 656 = .ok (.iload 4, 2) := by decide +kernel
theorem d_La_law_658 : decode c_La_law 658 = .ok (.iconst 1, 1) := by decide +kernel
theorem d_La_law_659 : decode c_La_law 659 = .ok (.iadd, 1) := by decide +kernel
theorem d_La_law_660 : decode c_La_law 660 = .ok (.iaload, 1) := by decide +kernel
theorem d_La_law_661 : decode c_La_law 661 = .ok (.invokevirtual 100, 3) := by decide +kernel
theorem d_La_law_664 : decode c_La_law 664 = .ok (.istore 6, 2) := by decide +kernel
theorem d_La_law_666 : decode c_La_law 666 = .ok (.aload_n 2, 1) := by decide +kernel
theorem d_La_law_667 : decode c_La_law 667 = .ok (.invokevirtual 69, 3) := by decide +kernel
theorem d_La_law_670 : decode c_La_law 670 = .ok (.iload 5, 2) := by decide +kernel
theorem d_La_law_672 : decode c_La_law 672 = .ok (.if_icmp .eq 5, 3) := by decide +kernel
theorem d_La_law_675 : decode c_La_law 675 = .ok (.iconst 0, 1) := by decide +kernel
theorem d_La_law_676 : decode c_La_law 676 = .ok (.ireturn, 1) := by decide +kernel
theorem d_La_law_677 : decode c_La_law 677 = .ok (.iload 5, 2) := by decide +kernel
theorem d_La_law_679 : decode c_La_law 679 = .ok (.ifCond .ne 15, 3) := by decide +kernel
theorem d_La_law_682 : decode c_La_law 682 = .ok (.aload_n 3, 1) := by decide +kernel
theorem d_La_law_683 : decode c_La_law 683 = .ok (.iconst 0, 1) := by decide +kernel
theorem d_La_law_684 : decode c_La_law 684 = .ok (.laload, 1) := by decide +kernel
theorem d_La_law_685 : decode c_La_law 685 = .ok (.iload 6, 2) := by decide +kernel
theorem d_La_law_687 : decode c_La_law 687 = .ok (.i2l, 1) := by decide +kernel
theorem d_La_law_688 : decode c_La_law 688 = .ok (.lcmp, 1) := by decide +kernel
theorem d_La_law_689 : decode c_La_law 689 = .ok (.ifCond .eq 5, 3) := by decide +kernel
theorem d_La_law_692 : decode c_La_law 692 = .ok (.iconst 0, 1) := by decide +kernel
theorem d_La_law_693 : decode c_La_law 693 = .ok (.ireturn, 1) := by decide +kernel
theorem d_La_law_694 : decode c_La_law 694 = .ok (.goto 232, 3) := by decide +kernel
theorem d_La_law_697 : decode c_La_law 697 = .ok (.aload_n 1, 1) := by decide +kernel
theorem d_La_law_698 : decode c_La_law 698 = .ok (.aload_n 0, 1) := by decide +kernel
theorem d_La_law_699 : decode c_La_law 699 = .ok (.iload 4, 2) := by decide +kernel
theorem d_La_law_701 : decode c_La_law 701 = .ok (.iconst 1, 1) := by decide +kernel
theorem d_La_law_702 : decode c_La_law 702 = .ok (.iadd, 1) := by decide +kernel
theorem d_La_law_703 : decode c_La_law 703 = .ok (.iaload, 1) := by decide +kernel
theorem d_La_law_704 : decode c_La_law 704 = .ok (.aload_n 0, 1) := by decide +kernel
theorem d_La_law_705 : decode c_La_law 705 = .ok (.iload 4, 2) := by decide +kernel
theorem d_La_law_707 : decode c_La_law 707 = .ok (.iconst 2, 1) := by decide +kernel
theorem d_La_law_708 : decode c_La_law 708 = .ok (.iadd, 1) := by decide +kernel
theorem d_La_law_709 : decode c_La_law 709 = .ok (.iaload, 1) := by decide +kernel
theorem d_La_law_710 : decode c_La_law 710 = .ok (.aload_n 0, 1) := by decide +kernel
theorem d_La_law_711 : decode c_La_law 711 = .ok (.iload 4, 2) := by decide +kernel
theorem d_La_law_713 : decode c_La_law 713 = .ok (.iconst 3, 1) := by decide +kernel
theorem d_La_law_714 : decode c_La_law 714 = .ok (.iadd, 1) := by decide +kernel
theorem d_La_law_715 : decode c_La_law 715 = .ok (.iaload, 1) := by decide +kernel
theorem d_La_law_716 : decode c_La_law 716 = .ok (.aload_n 3, 1) := by decide +kernel
theorem d_La_law_717 : decode c_La_law 717 = .ok (.invokestatic 101, 3) := by decide +kernel
theorem d_La_law_720 : decode c_La_law 720 = .ok (.istore 5, 2) := by decide +kernel
theorem d_La_law_722 : decode c_La_law 722 = .ok (.aload_n 2, 1) := by decide +kernel
theorem d_La_law_723 : decode c_La_law 723 = .ok (.aload_n 0, 1) := by decide +kernel
theorem d_La_law_724 : decode c_La_law 724 = .ok (.iload 4, 2) := by decide +kernel
theorem d_La_law_726 : decode c_La_law 726 = .ok (.iconst 1, 1) := by decide +kernel
theorem d_La_law_727 : decode c_La_law 727 = .ok (.iadd, 1) := by decide +kernel
theorem d_La_law_728 : decode c_La_law 728 = .ok (.iaload, 1) := by decide +kernel
theorem d_La_law_729 : decode c_La_law 729 = .ok (.aload_n 0, 1) := by decide +kernel
theorem d_La_law_730 : decode c_La_law 730 = .ok (.iload 4, 2) := by decide +kernel
theorem d_La_law_732 : decode c_La_law 732 = .ok (.iconst 2, 1) := by decide +kernel
theorem d_La_law_733 : decode c_La_law 733 = .ok (.iadd, 1) := by decide +kernel
theorem d_La_law_734 : decode c_La_law 734 = .ok (.iaload, 1) := by decide +kernel
theorem d_La_law_735 : decode c_La_law 735 = .ok (.aload_n 0, 1) := by decide +kernel
theorem d_La_law_736 : decode c_La_law 736 = .ok (.iload 4, 2) := by decide +kernel
theorem d_La_law_738 : decode c_La_law 738 = .ok (.iconst 3, 1) := by decide +kernel
theorem d_La_law_739 : decode c_La_law 739 = .ok (.iadd, 1) := by decide +kernel
theorem d_La_law_740 : decode c_La_law 740 = .ok (.iaload, 1) := by decide +kernel
theorem d_La_law_741 : decode c_La_law 741 = .ok (.invokevirtual 104, 3) := by decide +kernel
theorem d_La_law_744 : decode c_La_law 744 = .ok (.istore 6, 2) := by decide +kernel
theorem d_La_law_746 : decode c_La_law 746 = .ok (.aload_n 2, 1) := by decide +kernel
theorem d_La_law_747 : decode c_La_law 747 = .ok (.invokevirtual 69, 3) := by decide +kernel
theorem d_La_law_750 : decode c_La_law 750 = .ok (.iload 5, 2) := by decide +kernel
theorem d_La_law_752 : decode c_La_law 752 = .ok (.if_icmp .eq 5, 3) := by decide +kernel
theorem d_La_law_755 : decode c_La_law 755 = .ok (.iconst 0, 1) := by decide +kernel
theorem d_La_law_756 : decode c_La_law 756 = .ok (.ireturn, 1) := by decide +kernel
theorem d_La_law_757 : decode c_La_law 757 = .ok (.iload 5, 2) := by decide +kernel
theorem d_La_law_759 : decode c_La_law 759 = .ok (.ifCond .ne 15, 3) := by decide +kernel
theorem d_La_law_762 : decode c_La_law 762 = .ok (.aload_n 3, 1) := by decide +kernel
theorem d_La_law_763 : decode c_La_law 763 = .ok (.iconst 0, 1) := by decide +kernel
theorem d_La_law_764 : decode c_La_law 764 = .ok (.laload, 1) := by decide +kernel
theorem d_La_law_765 : decode c_La_law 765 = .ok (.iload 6, 2) := by decide +kernel
theorem d_La_law_767 : decode c_La_law 767 = .ok (.i2l, 1) := by decide +kernel
theorem d_La_law_768 : decode c_La_law 768 = .ok (.lcmp, 1) := by decide +kernel
theorem d_La_law_769 : decode c_La_law 769 = .ok (.ifCond .eq 5, 3) := by decide +kernel
theorem d_La_law_772 : decode c_La_law 772 = .ok (.iconst 0, 1) := by decide +kernel
theorem d_La_law_773 : decode c_La_law 773 = .ok (.ireturn, 1) := by decide +kernel
theorem d_La_law_774 : decode c_La_law 774 = .ok (.goto 152, 3) := by decide +kernel
theorem d_La_law_777 : decode c_La_law 777 = .ok (.aload_n 1, 1) := by decide +kernel
theorem d_La_law_778 : decode c_La_law 778 = .ok (.aload_n 0, 1) := by decide +kernel
theorem d_La_law_779 : decode c_La_law 779 = .ok (.iload 4, 2) := by decide +kernel
theorem d_La_law_781 : decode c_La_law 781 = .ok (.iconst 1, 1) := by decide +kernel
theorem d_La_law_782 : decode c_La_law 782 = .ok (.iadd, 1) := by decide +kernel
theorem d_La_law_783 : decode c_La_law 783 = .ok (.iaload, 1) := by decide +kernel
theorem d_La_law_784 : decode c_La_law 784 = .ok (.aload_n 0, 1) := by decide +kernel
theorem d_La_law_785 : decode c_La_law 785 = .ok (.iload 4, 2) := by decide +kernel
theorem d_La_law_787 : decode c_La_law 787 = .ok (.iconst 2, 1) := by decide +kernel
theorem d_La_law_788 : decode c_La_law 788 = .ok (.iadd, 1) := by decide +kernel
theorem d_La_law_789 : decode c_La_law 789 = .ok (.iaload, 1) := by decide +kernel
theorem d_La_law_790 : decode c_La_law 790 = .ok (.aload_n 0, 1) := by decide +kernel
theorem d_La_law_791 : decode c_La_law 791 = .ok (.iload 4, 2) := by decide +kernel
theorem d_La_law_793 : decode c_La_law 793 = .ok (.iconst 3, 1) := by decide +kernel
theorem d_La_law_794 : decode c_La_law 794 = .ok (.iadd, 1) := by decide +kernel
theorem d_La_law_795 : decode c_La_law 795 = .ok (.iaload, 1) := by decide +kernel
theorem d_La_law_796 : decode c_La_law 796 = .ok (.aload_n 3, 1) := by decide +kernel
theorem d_La_law_797 : decode c_La_law 797 = .ok (.invokestatic 105, 3) := by decide +kernel
theorem d_La_law_800 : decode c_La_law 800 = .ok (.istore 5, 2) := by decide +kernel
theorem d_La_law_802 : decode c_La_law 802 = .ok (.aload_n 2, 1) := by decide +kernel
theorem d_La_law_803 : decode c_La_law 803 = .ok (.aload_n 0, 1) := by decide +kernel
theorem d_La_law_804 : decode c_La_law 804 = .ok (.iload 4, 2) := by decide +kernel
theorem d_La_law_806 : decode c_La_law 806 = .ok (.iconst 1, 1) := by decide +kernel
theorem d_La_law_807 : decode c_La_law 807 = .ok (.iadd, 1) := by decide +kernel
theorem d_La_law_808 : decode c_La_law 808 = .ok (.iaload, 1) := by decide +kernel
theorem d_La_law_809 : decode c_La_law 809 = .ok (.aload_n 0, 1) := by decide +kernel
theorem d_La_law_810 : decode c_La_law 810 = .ok (.iload 4, 2) := by decide +kernel
theorem d_La_law_812 : decode c_La_law 812 = .ok (.iconst 2, 1) := by decide +kernel
theorem d_La_law_813 : decode c_La_law 813 = .ok (.iadd, 1) := by decide +kernel
theorem d_La_law_814 : decode c_La_law 814 = .ok (.iaload, 1) := by decide +kernel
theorem d_La_law_815 : decode c_La_law 815 = .ok (.aload_n 0, 1) := by decide +kernel
theorem d_La_law_816 : decode c_La_law 816 = .ok (.iload 4, 2) := by decide +kernel
theorem d_La_law_818 : decode c_La_law 818 = .ok (.iconst 3, 1) := by decide +kernel
theorem d_La_law_819 : decode c_La_law 819 = .ok (.iadd, 1) := by decide +kernel
theorem d_La_law_820 : decode c_La_law 820 = .ok (.iaload, 1) := by decide +kernel
theorem d_La_law_821 : decode c_La_law 821 = .ok (.invokevirtual 107, 3) := by decide +kernel
theorem d_La_law_824 : decode c_La_law 824 = .ok (.istore 6, 2) := by decide +kernel
theorem d_La_law_826 : decode c_La_law 826 = .ok (.aload_n 2, 1) := by decide +kernel
theorem d_La_law_827 : decode c_La_law 827 = .ok (.invokevirtual 69, 3) := by decide +kernel
theorem d_La_law_830 : decode c_La_law 830 = .ok (.iload 5, 2) := by decide +kernel
theorem d_La_law_832 : decode c_La_law 832 = .ok (.if_icmp .eq 5, 3) := by decide +kernel
theorem d_La_law_835 : decode c_La_law 835 = .ok (.iconst 0, 1) := by decide +kernel
theorem d_La_law_836 : decode c_La_law 836 = .ok (.ireturn, 1) := by decide +kernel
theorem d_La_law_837 : decode c_La_law 837 = .ok (.iload 5, 2) := by decide +kernel
theorem d_La_law_839 : decode c_La_law 839 = .ok (.ifCond .ne 15, 3) := by decide +kernel
theorem d_La_law_842 : decode c_La_law 842 = .ok (.aload_n 3, 1) := by decide +kernel
theorem d_La_law_843 : decode c_La_law 843 = .ok (.iconst 0, 1) := by decide +kernel
theorem d_La_law_844 : decode c_La_law 844 = .ok (.laload, 1) := by decide +kernel
theorem d_La_law_845 : decode c_La_law 845 = .ok (.iload 6, 2) := by decide +kernel
theorem d_La_law_847 : decode c_La_law 847 = .ok (.i2l, 1) := by decide +kernel
theorem d_La_law_848 : decode c_La_law 848 = .ok (.lcmp, 1) := by decide +kernel
theorem d_La_law_849 : decode c_La_law 849 = .ok (.ifCond .eq 5, 3) := by decide +kernel
theorem d_La_law_852 : decode c_La_law 852 = .ok (.iconst 0, 1) := by decide +kernel
theorem d_La_law_853 : decode c_La_law 853 = .ok (.ireturn, 1) := by decide +kernel
theorem d_La_law_854 : decode c_La_law 854 = .ok (.goto 72, 3) := by decide +kernel
theorem d_La_law_857 : decode c_La_law 857 = .ok (.aload_n 1, 1) := by decide +kernel
theorem d_La_law_858 : decode c_La_law 858 = .ok (.aload_n 3, 1) := by decide +kernel
theorem d_La_law_859 : decode c_La_law 859 = .ok (.invokestatic 108, 3) := by decide +kernel
theorem d_La_law_862 : decode c_La_law 862 = .ok (.istore 5, 2) := by decide +kernel
theorem d_La_law_864 : decode c_La_law 864 = .ok (.aload_n 2, 1) := by decide +kernel
theorem d_La_law_865 : decode c_La_law 865 = .ok (.invokevirtual 111, 3) := by decide +kernel
theorem d_La_law_868 : decode c_La_law 868 = .ok (.istore 6, 2) := by decide +kernel
theorem d_La_law_870 : decode c_La_law 870 = .ok (.aload_n 2, 1) := by decide +kernel
theorem d_La_law_871 : decode c_La_law 871 = .ok (.invokevirtual 69, 3) := by decide +kernel
theorem d_La_law_874 : decode c_La_law 874 = .ok (.iload 5, 2) := by decide +kernel
theorem d_La_law_876 : decode c_La_law 876 = .ok (.if_icmp .eq 5, 3) := by decide +kernel
theorem d_La_law_879 : decode c_La_law 879 = .ok (.iconst 0, 1) := by decide +kernel
theorem d_La_law_880 : decode c_La_law 880 = .ok (.ireturn, 1) := by decide +kernel
theorem d_La_law_881 : decode c_La_law 881 = .ok (.iload 5, 2) := by decide +kernel
theorem d_La_law_883 : decode c_La_law 883 = .ok (.ifCond .ne 15, 3) := by decide +kernel
theorem d_La_law_886 : decode c_La_law 886 = .ok (.aload_n 3, 1) := by decide +kernel
theorem d_La_law_887 : decode c_La_law 887 = .ok (.iconst 0, 1) := by decide +kernel
theorem d_La_law_888 : decode c_La_law 888 = .ok (.laload, 1) := by decide +kernel
theorem d_La_law_889 : decode c_La_law 889 = .ok (.iload 6, 2) := by decide +kernel
theorem d_La_law_891 : decode c_La_law 891 = .ok (.i2l, 1) := by decide +kernel
theorem d_La_law_892 : decode c_La_law 892 = .ok (.lcmp, 1) := by decide +kernel
theorem d_La_law_893 : decode c_La_law 893 = .ok (.ifCond .eq 5, 3) := by decide +kernel
theorem d_La_law_896 : decode c_La_law 896 = .ok (.iconst 0, 1) := by decide +kernel
theorem d_La_law_897 : decode c_La_law 897 = .ok (.ireturn, 1) := by decide +kernel
theorem d_La_law_898 : decode c_La_law 898 = .ok (.goto 28, 3) := by decide +kernel
theorem d_La_law_901 : decode c_La_law 901 = .ok (.aload_n 1, 1) := by decide +kernel
theorem d_La_law_902 : decode c_La_law 902 = .ok (.aload_n 0, 1) := by decide +kernel
theorem d_La_law_903 : decode c_La_law 903 = .ok (.iload 4, 2) := by decide +kernel
theorem d_La_law_905 : decode c_La_law 905 = .ok (.iconst 1, 1) := by decide +kernel
theorem d_La_law_906 : decode c_La_law 906 = .ok (.iadd, 1) := by decide +kernel
theorem d_La_law_907 : decode c_La_law 907 = .ok (.iaload, 1) := by decide +kernel
theorem d_La_law_908 : decode c_La_law 908 = .ok (.invokevirtual 112, 3) := by decide +kernel
theorem d_La_law_911 : decode c_La_law 911 = .ok (.aload_n 2, 1) := by decide +kernel
theorem d_La_law_912 : decode c_La_law 912 = .ok (.aload_n 0, 1) := by decide +kernel
theorem d_La_law_913 : decode c_La_law 913 = .ok (.iload 4, 2) := by decide +kernel
theorem d_La_law_915 : decode c_La_law 915 = .ok (.iconst 1, 1) := by decide +kernel
theorem d_La_law_916 : decode c_La_law 916 = .ok (.iadd, 1) := by decide +kernel
theorem d_La_law_917 : decode c_La_law 917 = .ok (.iaload, 1) := by decide +kernel
theorem d_La_law_918 : decode c_La_law 918 = .ok (.invokevirtual 115, 3) := by decide +kernel
theorem d_La_law_921 : decode c_La_law 921 = .ok (.if_icmp .eq 5, 3) := by decide +kernel
theorem d_La_law_924 : decode c_La_law 924 = .ok (.iconst 0, 1) := by decide +kernel
theorem d_La_law_925 : decode c_La_law 925 = .ok (.ireturn, 1) := by decide +kernel
theorem d_La_law_926 : decode c_La_law 926 = .ok (.iinc 4 6, 3) := by decide +kernel
theorem d_La_law_929 : decode c_La_law 929 = .ok (.goto (-906), 3) := by decide +kernel
theorem d_La_law_932 : decode c_La_law 932 = .ok (.iconst 1, 1) := by decide +kernel
theorem d_La_law_933 : decode c_La_law 933 = .ok (.ireturn, 1) := by decide +kernel
set_option maxHeartbeats 8000000 in
set_option maxRecDepth 100000 in
/-- the law's case 0: feed -/
theorem lawc_feed {p : Program} {e : Env} {s : State} {m : MethodId} {args : Array Value} {below : List Frame} {meth : Method} {c : Code} {Q : State → Prop} (l : Launch) (hoff : zl_off l) {E : zc_E} {sc L : Nat} {xs : Nat → Int32} (hx : p.tables.exec = Jvm.exec) (hb : c.code = c_La_law) (hml : c.maxLocals = 7) (hown : s.vm.findClass "ZoneAnswersLaw" = some m.cls) (hts : ∀ w ∈ zw, w.before args s = true) (hX : va_X sc L xs s s.heap) (hbl : sc < s.heap.size) (hbA : ¬ (fun q : Nat => zc_b E ≤ q) sc) (hbase : zc_b E ≤ s.heap.size) (hK : zK E s) (hN : zN zn s) (hQ : zQ E s s.heap) {xo mo out i C S : Nat} {Gv : zg_G} {H : Heap} {locs : List Loc} (hL : L ≤ 3072) (hi6 : 6 * i + 6 ≤ L) (hR : zRl E Gv xo mo out i C S) (hG : zP E Gv H) (hS : zg_S (zc_b E) s.heap H locs) {ls : Array Slot} (hl : lv_has ls 7 [(0, .ref sc), (1, .ref xo), (2, .ref mo), (3, .ref out), (4, .int (nI (6 * i)))]) (hback : ∀ (G2 : zg_G) (C2 S2 : Nat) (H2 : Heap) (locs2 : List Loc) (ls2 : Array Slot), zRl E G2 xo mo out (i + 1) C2 S2 → zP E G2 H2 → zg_S (zc_b E) s.heap H2 locs2 → lv_has ls2 7 [(0, .ref sc), (1, .ref xo), (2, .ref mo), (3, .ref out), (4, .int (nI (6 * i)))] → W p l e room_1 s m args below meth c H2 locs2 C2 S2 Q (F0 m 926 ls2 [])) : W p l e room_1 s m args below meth c H locs C S Q (F0 m 108 ls []) := by
  obtain ⟨ro, A, rs, c1, c2, th, fo, u, g, p9, q9, hA, hO, hout, hro, hI, hct, hug⟩ := hR
  have hE0 : Gv (E.2.2.2 0) = none := hQ.out hG
  have hvz : vsz A.2.1 rs.length := by rw [← hO.2]; exact vsz_r rs
  have hi9 : u + g ≤ 511 := by omega
  have hn3 := hct.nr hi9
  have hn9 : rs.length < 1000 := by omega
  have hb6 : zbg A.2.1 := fun x t p hp => Nat.lt_of_le_of_lt (hI.2.2.2.1 x t p hp) (by decide)
  have hrm := hct.rf (cC := 5) (cS := 2 * A.1.length + 46) hi9 (by decide) (by omega)
  refine lv_aload_n hx hb d_La_law_108 rfl (lv_at hl 1 rfl) ?_
  refine lv_aload_n hx hb d_La_law_109 rfl (lv_at hl 0 rfl) ?_
  refine lv_iload hx hb d_La_law_110 (lv_at hl 4 rfl) ?_
  refine lv_iconst (v := 1) hx hb d_La_law_112 (by decide) ?_
  refine lv_iadd hx hb d_La_law_113 ?_
  refine zi_as (y := nI (6 * i + 1)) (nI_add (6 * i) 1) ?_
  refine va_sld hx hb hX hbl hbA hS (vp_in_nI (by omega) (by omega)) d_La_law_114 ?_
  refine zi_as (y := xs (6 * i + 1)) (by rw [zi_n _ (by omega)]) ?_
  refine lv_aload_n hx hb d_La_law_115 rfl (lv_at hl 0 rfl) ?_
  refine lv_iload hx hb d_La_law_116 (lv_at hl 4 rfl) ?_
  refine lv_iconst (v := 2) hx hb d_La_law_118 (by decide) ?_
  refine lv_iadd hx hb d_La_law_119 ?_
  refine zi_as (y := nI (6 * i + 2)) (nI_add (6 * i) 2) ?_
  refine va_sld hx hb hX hbl hbA hS (vp_in_nI (by omega) (by omega)) d_La_law_120 ?_
  refine zi_as (y := xs (6 * i + 2)) (by rw [zi_n _ (by omega)]) ?_
  refine lv_aload_n hx hb d_La_law_121 rfl (lv_at hl 0 rfl) ?_
  refine lv_iload hx hb d_La_law_122 (lv_at hl 4 rfl) ?_
  refine lv_iconst (v := 3) hx hb d_La_law_124 (by decide) ?_
  refine lv_iadd hx hb d_La_law_125 ?_
  refine zi_as (y := nI (6 * i + 3)) (nI_add (6 * i) 3) ?_
  refine va_sld hx hb hX hbl hbA hS (vp_in_nI (by omega) (by omega)) d_La_law_126 ?_
  refine zi_as (y := xs (6 * i + 3)) (by rw [zi_n _ (by omega)]) ?_
  refine lv_aload_n hx hb d_La_law_127 rfl (lv_at hl 0 rfl) ?_
  refine lv_iload hx hb d_La_law_128 (lv_at hl 4 rfl) ?_
  refine lv_iconst (v := 4) hx hb d_La_law_130 (by decide) ?_
  refine lv_iadd hx hb d_La_law_131 ?_
  refine zi_as (y := nI (6 * i + 4)) (nI_add (6 * i) 4) ?_
  refine va_sld hx hb hX hbl hbA hS (vp_in_nI (by omega) (by omega)) d_La_law_132 ?_
  refine zi_as (y := xs (6 * i + 4)) (by rw [zi_n _ (by omega)]) ?_
  refine lv_aload_n hx hb d_La_law_133 rfl (lv_at hl 0 rfl) ?_
  refine lv_iload hx hb d_La_law_134 (lv_at hl 4 rfl) ?_
  refine lv_iconst (v := 5) hx hb d_La_law_136 (by decide) ?_
  refine lv_iadd hx hb d_La_law_137 ?_
  refine zi_as (y := nI (6 * i + 5)) (nI_add (6 * i) 5) ?_
  refine va_sld hx hb hX hbl hbA hS (vp_in_nI (by omega) (by omega)) d_La_law_138 ?_
  refine zi_as (y := xs (6 * i + 5)) (by rw [zi_n _ (by omega)]) ?_
  refine lv_aload_n hx hb d_La_law_139 rfl (lv_at hl 3 rfl) ?_
  have hGo140 := hG
  refine zk_i (zl_runS (n := 7) (As := [.ref xo, .int (xs (6 * i + 1)), .int (xs (6 * i + 2)), .int (xs (6 * i + 3)), .int (xs (6 * i + 4)), .int (xs (6 * i + 5)), .ref out]) (rest := []) ⟨hx, hb, hml, hown, hts⟩ (t_La_feed_s l hoff hA hE0 hout hro (xs (6 * i + 1)) (xs (6 * i + 2)) (xs (6 * i + 3)) (xs (6 * i + 4)) (xs (6 * i + 5)) (2 * A.1.length + 40) (Nat.le_refl _)) w_765 w_766 w_0 w_767 (by decide +kernel) ⟨Nat.le_of_ble_eq_true rfl, Nat.le_of_ble_eq_true rfl⟩ (zc_pre hbase hK hN hQ hG hS) rfl rfl hl.1 rfl (lv_room (Nat.le_of_ble_eq_true rfl)) d_La_law_140 ⟨(by dsimp only [room_1]; omega), (by dsimp only [room_1]; omega)⟩) hS (fun r140 G140 H locs hp140 hG hS => ?_)
  obtain ⟨ro1, B1, r1, f1, hs1, hA1, hf1, ho1, hr1, he1⟩ := hp140
  have hE1 : G140 (E.2.2.2 0) = none := hQ.out hG
  have hO1 := hO.fr hf1 zKl_0 zKl_20 zKl_21
  obtain ⟨fs1, hmo1, -⟩ := hO1.cell
  refine lv_istore (lv' := [(5, .int r140), (0, .ref sc), (1, .ref xo), (2, .ref mo), (3, .ref out), (4, .int (nI (6 * i)))]) hx hb d_La_law_143 hl (by decide) rfl (fun ls hl => ?_)
  refine lv_aload_n hx hb d_La_law_145 rfl (lv_at hl 3 rfl) ?_
  refine lv_aload_n hx hb d_La_law_146 rfl (lv_at hl 1 rfl) ?_
  refine lv_iload hx hb d_La_law_147 (lv_at hl 5 rfl) ?_
  refine lv_iconst (v := 1) hx hb d_La_law_149 (by decide) ?_
  refine lv_iadd hx hb d_La_law_150 ?_
  refine zi_as (y := nI (6 * i + 1)) (nI_add (6 * i) 1) ?_
  refine va_sld hx hb hX hbl hbA hS (vp_in_nI (by omega) (by omega)) d_La_law_151 ?_
  refine zi_as (y := xs (6 * i + 1)) (by rw [zi_n _ (by omega)]) ?_
  refine lv_aload_n hx hb d_La_law_152 rfl (lv_at hl 1 rfl) ?_
  refine lv_iload hx hb d_La_law_153 (lv_at hl 5 rfl) ?_
  refine lv_iconst (v := 2) hx hb d_La_law_155 (by decide) ?_
  refine lv_iadd hx hb d_La_law_156 ?_
  refine zi_as (y := nI (6 * i + 2)) (nI_add (6 * i) 2) ?_
  refine va_sld hx hb hX hbl hbA hS (vp_in_nI (by omega) (by omega)) d_La_law_157 ?_
  refine zi_as (y := xs (6 * i + 2)) (by rw [zi_n _ (by omega)]) ?_
  refine lv_aload_n hx hb d_La_law_158 rfl (lv_at hl 1 rfl) ?_
  refine lv_iload hx hb d_La_law_159 (lv_at hl 5 rfl) ?_
  refine lv_iconst (v := 3) hx hb d_La_law_161 (by decide) ?_
  refine lv_iadd hx hb d_La_law_162 ?_
  refine zi_as (y := nI (6 * i + 3)) (nI_add (6 * i) 3) ?_
  refine va_sld hx hb hX hbl hbA hS (vp_in_nI (by omega) (by omega)) d_La_law_163 ?_
  refine zi_as (y := xs (6 * i + 3)) (by rw [zi_n _ (by omega)]) ?_
  refine lv_aload_n hx hb d_La_law_164 rfl (lv_at hl 1 rfl) ?_
  refine lv_iload hx hb d_La_law_165 (lv_at hl 5 rfl) ?_
  refine lv_iconst (v := 4) hx hb d_La_law_167 (by decide) ?_
  refine lv_iadd hx hb d_La_law_168 ?_
  refine zi_as (y := nI (6 * i + 4)) (nI_add (6 * i) 4) ?_
  refine va_sld hx hb hX hbl hbA hS (vp_in_nI (by omega) (by omega)) d_La_law_169 ?_
  refine zi_as (y := xs (6 * i + 4)) (by rw [zi_n _ (by omega)]) ?_
  refine lv_aload_n hx hb d_La_law_170 rfl (lv_at hl 1 rfl) ?_
  refine lv_iload hx hb d_La_law_171 (lv_at hl 5 rfl) ?_
  refine lv_iconst (v := 5) hx hb d_La_law_173 (by decide) ?_
  refine lv_iadd hx hb d_La_law_174 ?_
  refine zi_as (y := nI (6 * i + 5)) (nI_add (6 * i) 5) ?_
  refine va_sld hx hb hX hbl hbA hS (vp_in_nI (by omega) (by omega)) d_La_law_175 ?_
  refine zi_as (y := xs (6 * i + 5)) (by rw [zi_n _ (by omega)]) ?_
  have hGo176 := hG
  refine zk_i (va_runV (As := [.int (xs (6 * i + 1)), .int (xs (6 * i + 2)), .int (xs (6 * i + 3)), .int (xs (6 * i + 4)), .int (xs (6 * i + 5))]) (rest := []) ⟨hx, hb, hml, hown, hts⟩ (t_Mo_feed_a l hO1 (xs (6 * i + 1)) (xs (6 * i + 2)) (xs (6 * i + 3)) (xs (6 * i + 4)) (xs (6 * i + 5)) ) (zcV 5 hts w_1349 w_1350 w_1351 w_30 w_1352 (by decide +kernel) ⟨Nat.le_of_ble_eq_true rfl, Nat.le_of_ble_eq_true rfl⟩) (zc_preV hbase hK hN hQ hG hS hmo1 rfl) rfl rfl hl.1 rfl (lv_room (Nat.le_of_ble_eq_true rfl)) d_La_law_176 ⟨(by dsimp only [room_1]; omega), (by dsimp only [room_1]; omega)⟩) hS (fun r176 G176 H locs hp176 hG hS => ?_)
  obtain ⟨ro2, rs2, B2, k2, r2, hs2, he2, hO2, hf2, hW2, hm2⟩ := hp176
  have hE2 : G176 (E.2.2.2 0) = none := hQ.out hG
  obtain ⟨hk, hB, hr⟩ := sFeed_un (xs (6 * i + 1)) (xs (6 * i + 2)) (xs (6 * i + 3)) (xs (6 * i + 4)) (xs (6 * i + 5)) _ _ _ _ _ _ hs1 hs2
  subst hB
  subst hk
  have hA2 := hA1.fr hf2 hE1 hE2 zKr_0 zKr_c
  obtain ⟨ho2, hr2⟩ := hf2 _ _ ho1 (by rw [hr1]; exact zKr_15)
  have hr2 := hr2.trans hr1
  obtain ⟨⟨u2, g2, p2, q2, hct2, hug2⟩, hI2⟩ := aft_feed hct hI hs1 hW2 hm2
  obtain ⟨fs2, hmo2, -⟩ := hO2.cell
  have hR2 : zRl E G176 xo mo out (i + 1) (C + (5)) (S + (2 * A.1.length + 46)) := ⟨ro2, B1, rs2, c1, c2, r140, f1, u2, g2, p2, q2, hA2, hO2, ho2, hr2, hI2, hct2, by omega⟩
  refine lv_istore (lv' := [(6, .int r176), (5, .int r140), (0, .ref sc), (1, .ref xo), (2, .ref mo), (3, .ref out), (4, .int (nI (6 * i)))]) hx hb d_La_law_179 hl (by decide) rfl (fun ls hl => ?_)
  refine lv_aload_n hx hb d_La_law_181 rfl (lv_at hl 4 rfl) ?_
  refine zk_i (va_runV (As := []) (rest := []) ⟨hx, hb, hml, hown, hts⟩ (t_Mo_thrown_a l hO2) (zcV 0 hts w_1345 w_1346 w_1347 w_30 w_1348 (by decide +kernel) ⟨Nat.le_of_ble_eq_true rfl, Nat.le_of_ble_eq_true rfl⟩) (zc_preV hbase hK hN hQ hG hS hmo2 rfl) rfl rfl hl.1 rfl (lv_room (Nat.le_of_ble_eq_true rfl)) d_La_law_182 ⟨(by dsimp only [room_1]; omega), (by dsimp only [room_1]; omega)⟩) hS (fun r182 G182 H locs hp182 hG hS => ?_)
  have hG : zP E G176 H := hp182.2 ▸ hG
  refine zi_as (y := r140) hp182.1 ?_
  refine lv_iload hx hb d_La_law_185 (lv_at hl 1 rfl) ?_
  refine lv_icmp_eq (tgt := 192) hx hb d_La_law_187 (by decide) (fun c187 => ?_) (fun c187 => ?_)
  · refine lv_iload hx hb d_La_law_192 (lv_at hl 1 rfl) ?_
    refine lv_if_ne (tgt := 209) hx hb d_La_law_194 (by decide) (fun c194 => ?_) (fun c194 => ?_)
    · refine lv_goto (tgt := 926) hx hb d_La_law_209 (by decide) ?_
      refine zW_more (cells2 := C + (5)) (slots2 := S + (2 * A.1.length + 46)) (by dsimp only; omega) (by dsimp only; omega) ?_
      exact hback _ _ _ _ _ _ hR2 hG hS (lv_sub hl [2, 3, 4, 5, 6] rfl)
    · refine lv_aload_n hx hb d_La_law_197 rfl (lv_at hl 5 rfl) ?_
      refine lv_iconst (v := 0) hx hb d_La_law_198 (by decide) ?_
      refine zi_as (y := nI 0) (nI_0.symm) ?_
      refine zg_lald hx hb hK hG 2 ho2 rfl (vp_in_nI (by omega) (by omega)) d_La_law_199 ?_
      refine zl_as (y := r1.toInt64) (by rw [zi_n 0 (by decide)]; exact he1 c194) ?_
      refine lv_iload hx hb d_La_law_200 (lv_at hl 0 rfl) ?_
      refine lv_i2l hx hb d_La_law_202 rfl ?_
      refine W.lcmp hx hb d_La_law_203 ?_
      refine zi_as (y := 0) (by rw [hr c194, ← he2 c194]; exact zcmp0 _) ?_
      refine lv_if_eq (tgt := 209) hx hb d_La_law_204 (by decide) (fun c204 => ?_) (fun c204 => ?_)
      · have b204 : 0 = 0 := (nI_eq (a := 0) (b := 0) (by omega) (by omega)).mp c204
        refine lv_goto (tgt := 926) hx hb d_La_law_209 (by decide) ?_
        refine zW_more (cells2 := C + (5)) (slots2 := S + (2 * A.1.length + 46)) (by dsimp only; omega) (by dsimp only; omega) ?_
        exact hback _ _ _ _ _ _ hR2 hG hS (lv_sub hl [2, 3, 4, 5, 6] rfl)
      · have b204 : ¬ 0 = 0 := fun q => c204 ((nI_eq (a := 0) (b := 0) (by omega) (by omega)).mpr q)
        exact absurd rfl c204
  · exact absurd rfl c187
set_option maxHeartbeats 8000000 in
set_option maxRecDepth 100000 in
/-- the law's case 1: end -/
theorem lawc_end {p : Program} {e : Env} {s : State} {m : MethodId} {args : Array Value} {below : List Frame} {meth : Method} {c : Code} {Q : State → Prop} (l : Launch) (hoff : zl_off l) {E : zc_E} {sc L : Nat} {xs : Nat → Int32} (hx : p.tables.exec = Jvm.exec) (hb : c.code = c_La_law) (hml : c.maxLocals = 7) (hown : s.vm.findClass "ZoneAnswersLaw" = some m.cls) (hts : ∀ w ∈ zw, w.before args s = true) (hX : va_X sc L xs s s.heap) (hbl : sc < s.heap.size) (hbA : ¬ (fun q : Nat => zc_b E ≤ q) sc) (hbase : zc_b E ≤ s.heap.size) (hK : zK E s) (hN : zN zn s) (hQ : zQ E s s.heap) {xo mo out i C S : Nat} {Gv : zg_G} {H : Heap} {locs : List Loc} (hL : L ≤ 3072) (hi6 : 6 * i + 6 ≤ L) (hR : zRl E Gv xo mo out i C S) (hG : zP E Gv H) (hS : zg_S (zc_b E) s.heap H locs) {ls : Array Slot} (hl : lv_has ls 7 [(0, .ref sc), (1, .ref xo), (2, .ref mo), (3, .ref out), (4, .int (nI (6 * i)))]) (hback : ∀ (G2 : zg_G) (C2 S2 : Nat) (H2 : Heap) (locs2 : List Loc) (ls2 : Array Slot), zRl E G2 xo mo out (i + 1) C2 S2 → zP E G2 H2 → zg_S (zc_b E) s.heap H2 locs2 → lv_has ls2 7 [(0, .ref sc), (1, .ref xo), (2, .ref mo), (3, .ref out), (4, .int (nI (6 * i)))] → W p l e room_1 s m args below meth c H2 locs2 C2 S2 Q (F0 m 926 ls2 [])) : W p l e room_1 s m args below meth c H locs C S Q (F0 m 212 ls []) := by
  obtain ⟨ro, A, rs, c1, c2, th, fo, u, g, p9, q9, hA, hO, hout, hro, hI, hct, hug⟩ := hR
  have hE0 : Gv (E.2.2.2 0) = none := hQ.out hG
  have hvz : vsz A.2.1 rs.length := by rw [← hO.2]; exact vsz_r rs
  have hi9 : u + g ≤ 511 := by omega
  have hn3 := hct.nr hi9
  have hn9 : rs.length < 1000 := by omega
  have hb6 : zbg A.2.1 := fun x t p hp => Nat.lt_of_le_of_lt (hI.2.2.2.1 x t p hp) (by decide)
  have hrm := hct.rf (cC := 1) (cS := 6) hi9 (by decide) (by omega)
  refine lv_aload_n hx hb d_La_law_212 rfl (lv_at hl 1 rfl) ?_
  refine lv_aload_n hx hb d_La_law_213 rfl (lv_at hl 0 rfl) ?_
  refine lv_iload hx hb d_La_law_214 (lv_at hl 4 rfl) ?_
  refine lv_iconst (v := 1) hx hb d_La_law_216 (by decide) ?_
  refine lv_iadd hx hb d_La_law_217 ?_
  refine zi_as (y := nI (6 * i + 1)) (nI_add (6 * i) 1) ?_
  refine va_sld hx hb hX hbl hbA hS (vp_in_nI (by omega) (by omega)) d_La_law_218 ?_
  refine zi_as (y := xs (6 * i + 1)) (by rw [zi_n _ (by omega)]) ?_
  refine lv_aload_n hx hb d_La_law_219 rfl (lv_at hl 3 rfl) ?_
  have hGo220 := hG
  refine zk_i (zl_runS (n := 3) (As := [.ref xo, .int (xs (6 * i + 1)), .ref out]) (rest := []) ⟨hx, hb, hml, hown, hts⟩ (t_La_end_s l hoff hA hE0 hout hro (xs (6 * i + 1)) ) w_805 w_806 w_0 w_807 (by decide +kernel) ⟨Nat.le_of_ble_eq_true rfl, Nat.le_of_ble_eq_true rfl⟩ (zc_pre hbase hK hN hQ hG hS) rfl rfl hl.1 rfl (lv_room (Nat.le_of_ble_eq_true rfl)) d_La_law_220 ⟨(by dsimp only [room_1]; omega), (by dsimp only [room_1]; omega)⟩) hS (fun r220 G220 H locs hp220 hG hS => ?_)
  obtain ⟨ro1, B1, r1, f1, hs1, hA1, hf1, ho1, hr1, he1⟩ := hp220
  have hE1 : G220 (E.2.2.2 0) = none := hQ.out hG
  have hO1 := hO.fr hf1 zKl_0 zKl_20 zKl_21
  obtain ⟨fs1, hmo1, -⟩ := hO1.cell
  refine lv_istore (lv' := [(5, .int r220), (0, .ref sc), (1, .ref xo), (2, .ref mo), (3, .ref out), (4, .int (nI (6 * i)))]) hx hb d_La_law_223 hl (by decide) rfl (fun ls hl => ?_)
  refine lv_aload_n hx hb d_La_law_225 rfl (lv_at hl 3 rfl) ?_
  refine lv_aload_n hx hb d_La_law_226 rfl (lv_at hl 1 rfl) ?_
  refine lv_iload hx hb d_La_law_227 (lv_at hl 5 rfl) ?_
  refine lv_iconst (v := 1) hx hb d_La_law_229 (by decide) ?_
  refine lv_iadd hx hb d_La_law_230 ?_
  refine zi_as (y := nI (6 * i + 1)) (nI_add (6 * i) 1) ?_
  refine va_sld hx hb hX hbl hbA hS (vp_in_nI (by omega) (by omega)) d_La_law_231 ?_
  refine zi_as (y := xs (6 * i + 1)) (by rw [zi_n _ (by omega)]) ?_
  have hGo232 := hG
  refine zk_i (va_runV (As := [.int (xs (6 * i + 1))]) (rest := []) ⟨hx, hb, hml, hown, hts⟩ (t_Mo_end_a l hO1 (xs (6 * i + 1)) ) (zcV 1 hts w_1358 w_1359 w_1360 w_30 w_1361 (by decide +kernel) ⟨Nat.le_of_ble_eq_true rfl, Nat.le_of_ble_eq_true rfl⟩) (zc_preV hbase hK hN hQ hG hS hmo1 rfl) rfl rfl hl.1 rfl (lv_room (Nat.le_of_ble_eq_true rfl)) d_La_law_232 ⟨(by dsimp only [room_1]; omega), (by dsimp only [room_1]; omega)⟩) hS (fun r232 G232 H locs hp232 hG hS => ?_)
  obtain ⟨ro2, rs2, B2, k2, r2, hs2, he2, hO2, hf2, hW2, hm2⟩ := hp232
  have hE2 : G232 (E.2.2.2 0) = none := hQ.out hG
  obtain ⟨hk, hB, hr⟩ := sEnd_un hA.len (xs (6 * i + 1)) _ _ _ _ _ _ hs1 hs2
  subst hB
  subst hk
  have hA2 := hA1.fr hf2 hE1 hE2 zKr_0 zKr_c
  obtain ⟨ho2, hr2⟩ := hf2 _ _ ho1 (by rw [hr1]; exact zKr_15)
  have hr2 := hr2.trans hr1
  obtain ⟨⟨u2, g2, p2, q2, hct2, hug2⟩, hI2⟩ := aft_end hct hI hs1 hW2 hm2
  obtain ⟨fs2, hmo2, -⟩ := hO2.cell
  have hR2 : zRl E G232 xo mo out (i + 1) (C + (1)) (S + (6)) := ⟨ro2, B1, rs2, c1, c2, r220, f1, u2, g2, p2, q2, hA2, hO2, ho2, hr2, hI2, hct2, by omega⟩
  refine lv_istore (lv' := [(6, .int r232), (5, .int r220), (0, .ref sc), (1, .ref xo), (2, .ref mo), (3, .ref out), (4, .int (nI (6 * i)))]) hx hb d_La_law_235 hl (by decide) rfl (fun ls hl => ?_)
  refine lv_aload_n hx hb d_La_law_237 rfl (lv_at hl 4 rfl) ?_
  refine zk_i (va_runV (As := []) (rest := []) ⟨hx, hb, hml, hown, hts⟩ (t_Mo_thrown_a l hO2) (zcV 0 hts w_1345 w_1346 w_1347 w_30 w_1348 (by decide +kernel) ⟨Nat.le_of_ble_eq_true rfl, Nat.le_of_ble_eq_true rfl⟩) (zc_preV hbase hK hN hQ hG hS hmo2 rfl) rfl rfl hl.1 rfl (lv_room (Nat.le_of_ble_eq_true rfl)) d_La_law_238 ⟨(by dsimp only [room_1]; omega), (by dsimp only [room_1]; omega)⟩) hS (fun r238 G238 H locs hp238 hG hS => ?_)
  have hG : zP E G232 H := hp238.2 ▸ hG
  refine zi_as (y := r220) hp238.1 ?_
  refine lv_iload hx hb d_La_law_241 (lv_at hl 1 rfl) ?_
  refine lv_icmp_eq (tgt := 248) hx hb d_La_law_243 (by decide) (fun c243 => ?_) (fun c243 => ?_)
  · refine lv_iload hx hb d_La_law_248 (lv_at hl 1 rfl) ?_
    refine lv_if_ne (tgt := 265) hx hb d_La_law_250 (by decide) (fun c250 => ?_) (fun c250 => ?_)
    · refine lv_goto (tgt := 926) hx hb d_La_law_265 (by decide) ?_
      refine zW_more (cells2 := C + (1)) (slots2 := S + (6)) (by dsimp only; omega) (by dsimp only; omega) ?_
      exact hback _ _ _ _ _ _ hR2 hG hS (lv_sub hl [2, 3, 4, 5, 6] rfl)
    · refine lv_aload_n hx hb d_La_law_253 rfl (lv_at hl 5 rfl) ?_
      refine lv_iconst (v := 0) hx hb d_La_law_254 (by decide) ?_
      refine zi_as (y := nI 0) (nI_0.symm) ?_
      refine zg_lald hx hb hK hG 2 ho2 rfl (vp_in_nI (by omega) (by omega)) d_La_law_255 ?_
      refine zl_as (y := r1.toInt64) (by rw [zi_n 0 (by decide)]; exact he1 c250) ?_
      refine lv_iload hx hb d_La_law_256 (lv_at hl 0 rfl) ?_
      refine lv_i2l hx hb d_La_law_258 rfl ?_
      refine W.lcmp hx hb d_La_law_259 ?_
      refine zi_as (y := 0) (by rw [hr c250, ← he2 c250]; exact zcmp0 _) ?_
      refine lv_if_eq (tgt := 265) hx hb d_La_law_260 (by decide) (fun c260 => ?_) (fun c260 => ?_)
      · have b260 : 0 = 0 := (nI_eq (a := 0) (b := 0) (by omega) (by omega)).mp c260
        refine lv_goto (tgt := 926) hx hb d_La_law_265 (by decide) ?_
        refine zW_more (cells2 := C + (1)) (slots2 := S + (6)) (by dsimp only; omega) (by dsimp only; omega) ?_
        exact hback _ _ _ _ _ _ hR2 hG hS (lv_sub hl [2, 3, 4, 5, 6] rfl)
      · have b260 : ¬ 0 = 0 := fun q => c260 ((nI_eq (a := 0) (b := 0) (by omega) (by omega)).mpr q)
        exact absurd rfl c260
  · exact absurd rfl c243
set_option maxHeartbeats 8000000 in
set_option maxRecDepth 100000 in
/-- the law's case 2: origin -/
theorem lawc_origin {p : Program} {e : Env} {s : State} {m : MethodId} {args : Array Value} {below : List Frame} {meth : Method} {c : Code} {Q : State → Prop} (l : Launch) (hoff : zl_off l) {E : zc_E} {sc L : Nat} {xs : Nat → Int32} (hx : p.tables.exec = Jvm.exec) (hb : c.code = c_La_law) (hml : c.maxLocals = 7) (hown : s.vm.findClass "ZoneAnswersLaw" = some m.cls) (hts : ∀ w ∈ zw, w.before args s = true) (hX : va_X sc L xs s s.heap) (hbl : sc < s.heap.size) (hbA : ¬ (fun q : Nat => zc_b E ≤ q) sc) (hbase : zc_b E ≤ s.heap.size) (hK : zK E s) (hN : zN zn s) (hQ : zQ E s s.heap) {xo mo out i C S : Nat} {Gv : zg_G} {H : Heap} {locs : List Loc} (hL : L ≤ 3072) (hi6 : 6 * i + 6 ≤ L) (hR : zRl E Gv xo mo out i C S) (hG : zP E Gv H) (hS : zg_S (zc_b E) s.heap H locs) {ls : Array Slot} (hl : lv_has ls 7 [(0, .ref sc), (1, .ref xo), (2, .ref mo), (3, .ref out), (4, .int (nI (6 * i)))]) (hback : ∀ (G2 : zg_G) (C2 S2 : Nat) (H2 : Heap) (locs2 : List Loc) (ls2 : Array Slot), zRl E G2 xo mo out (i + 1) C2 S2 → zP E G2 H2 → zg_S (zc_b E) s.heap H2 locs2 → lv_has ls2 7 [(0, .ref sc), (1, .ref xo), (2, .ref mo), (3, .ref out), (4, .int (nI (6 * i)))] → W p l e room_1 s m args below meth c H2 locs2 C2 S2 Q (F0 m 926 ls2 [])) : W p l e room_1 s m args below meth c H locs C S Q (F0 m 268 ls []) := by
  obtain ⟨ro, A, rs, c1, c2, th, fo, u, g, p9, q9, hA, hO, hout, hro, hI, hct, hug⟩ := hR
  have hE0 : Gv (E.2.2.2 0) = none := hQ.out hG
  have hvz : vsz A.2.1 rs.length := by rw [← hO.2]; exact vsz_r rs
  have hi9 : u + g ≤ 511 := by omega
  have hn3 := hct.nr hi9
  have hn9 : rs.length < 1000 := by omega
  have hb6 : zbg A.2.1 := fun x t p hp => Nat.lt_of_le_of_lt (hI.2.2.2.1 x t p hp) (by decide)
  obtain ⟨s9, h10, hs9, hrm, hfin⟩ := pick_org hct hi9 (xs (6 * i + 1)) (xs (6 * i + 2)) (xs (6 * i + 3)) (xs (6 * i + 4)) (xs (6 * i + 5))
  refine lv_aload_n hx hb d_La_law_268 rfl (lv_at hl 1 rfl) ?_
  refine lv_aload_n hx hb d_La_law_269 rfl (lv_at hl 0 rfl) ?_
  refine lv_iload hx hb d_La_law_270 (lv_at hl 4 rfl) ?_
  refine lv_iconst (v := 1) hx hb d_La_law_272 (by decide) ?_
  refine lv_iadd hx hb d_La_law_273 ?_
  refine zi_as (y := nI (6 * i + 1)) (nI_add (6 * i) 1) ?_
  refine va_sld hx hb hX hbl hbA hS (vp_in_nI (by omega) (by omega)) d_La_law_274 ?_
  refine zi_as (y := xs (6 * i + 1)) (by rw [zi_n _ (by omega)]) ?_
  refine lv_aload_n hx hb d_La_law_275 rfl (lv_at hl 0 rfl) ?_
  refine lv_iload hx hb d_La_law_276 (lv_at hl 4 rfl) ?_
  refine lv_iconst (v := 2) hx hb d_La_law_278 (by decide) ?_
  refine lv_iadd hx hb d_La_law_279 ?_
  refine zi_as (y := nI (6 * i + 2)) (nI_add (6 * i) 2) ?_
  refine va_sld hx hb hX hbl hbA hS (vp_in_nI (by omega) (by omega)) d_La_law_280 ?_
  refine zi_as (y := xs (6 * i + 2)) (by rw [zi_n _ (by omega)]) ?_
  refine lv_aload_n hx hb d_La_law_281 rfl (lv_at hl 0 rfl) ?_
  refine lv_iload hx hb d_La_law_282 (lv_at hl 4 rfl) ?_
  refine lv_iconst (v := 3) hx hb d_La_law_284 (by decide) ?_
  refine lv_iadd hx hb d_La_law_285 ?_
  refine zi_as (y := nI (6 * i + 3)) (nI_add (6 * i) 3) ?_
  refine va_sld hx hb hX hbl hbA hS (vp_in_nI (by omega) (by omega)) d_La_law_286 ?_
  refine zi_as (y := xs (6 * i + 3)) (by rw [zi_n _ (by omega)]) ?_
  refine lv_aload_n hx hb d_La_law_287 rfl (lv_at hl 0 rfl) ?_
  refine lv_iload hx hb d_La_law_288 (lv_at hl 4 rfl) ?_
  refine lv_iconst (v := 4) hx hb d_La_law_290 (by decide) ?_
  refine lv_iadd hx hb d_La_law_291 ?_
  refine zi_as (y := nI (6 * i + 4)) (nI_add (6 * i) 4) ?_
  refine va_sld hx hb hX hbl hbA hS (vp_in_nI (by omega) (by omega)) d_La_law_292 ?_
  refine zi_as (y := xs (6 * i + 4)) (by rw [zi_n _ (by omega)]) ?_
  refine lv_aload_n hx hb d_La_law_293 rfl (lv_at hl 0 rfl) ?_
  refine lv_iload hx hb d_La_law_294 (lv_at hl 4 rfl) ?_
  refine lv_iconst (v := 5) hx hb d_La_law_296 (by decide) ?_
  refine lv_iadd hx hb d_La_law_297 ?_
  refine zi_as (y := nI (6 * i + 5)) (nI_add (6 * i) 5) ?_
  refine va_sld hx hb hX hbl hbA hS (vp_in_nI (by omega) (by omega)) d_La_law_298 ?_
  refine zi_as (y := xs (6 * i + 5)) (by rw [zi_n _ (by omega)]) ?_
  have hGo299 := hG
  refine zk_i (zl_runS (n := 6) (As := [.ref xo, .int (xs (6 * i + 1)), .int (xs (6 * i + 2)), .int (xs (6 * i + 3)), .int (xs (6 * i + 4)), .int (xs (6 * i + 5))]) (rest := []) ⟨hx, hb, hml, hown, hts⟩ (t_La_origin_s l hoff hA hE0 hout hro (xs (6 * i + 1)) (xs (6 * i + 2)) (xs (6 * i + 3)) (xs (6 * i + 4)) (xs (6 * i + 5)) hvz hn9 s9 h10 hs9) w_822 w_823 w_0 w_824 (by decide +kernel) ⟨Nat.le_of_ble_eq_true rfl, Nat.le_of_ble_eq_true rfl⟩ (zc_pre hbase hK hN hQ hG hS) rfl rfl hl.1 rfl (lv_room (Nat.le_of_ble_eq_true rfl)) d_La_law_299 ⟨(by dsimp only [room_1]; omega), (by dsimp only [room_1]; omega)⟩) hS (fun r299 G299 H locs hp299 hG hS => ?_)
  obtain ⟨ro1, B1, r1, f1, hs1, hA1, hf1, ho1, hr1⟩ := hp299
  have hE1 : G299 (E.2.2.2 0) = none := hQ.out hG
  have hO1 := hO.fr hf1 zKl_0 zKl_20 zKl_21
  obtain ⟨fs1, hmo1, -⟩ := hO1.cell
  refine lv_istore (lv' := [(5, .int r299), (0, .ref sc), (1, .ref xo), (2, .ref mo), (3, .ref out), (4, .int (nI (6 * i)))]) hx hb d_La_law_302 hl (by decide) rfl (fun ls hl => ?_)
  refine lv_aload_n hx hb d_La_law_304 rfl (lv_at hl 3 rfl) ?_
  refine lv_aload_n hx hb d_La_law_305 rfl (lv_at hl 1 rfl) ?_
  refine lv_iload hx hb d_La_law_306 (lv_at hl 5 rfl) ?_
  refine lv_iconst (v := 1) hx hb d_La_law_308 (by decide) ?_
  refine lv_iadd hx hb d_La_law_309 ?_
  refine zi_as (y := nI (6 * i + 1)) (nI_add (6 * i) 1) ?_
  refine va_sld hx hb hX hbl hbA hS (vp_in_nI (by omega) (by omega)) d_La_law_310 ?_
  refine zi_as (y := xs (6 * i + 1)) (by rw [zi_n _ (by omega)]) ?_
  refine lv_aload_n hx hb d_La_law_311 rfl (lv_at hl 1 rfl) ?_
  refine lv_iload hx hb d_La_law_312 (lv_at hl 5 rfl) ?_
  refine lv_iconst (v := 2) hx hb d_La_law_314 (by decide) ?_
  refine lv_iadd hx hb d_La_law_315 ?_
  refine zi_as (y := nI (6 * i + 2)) (nI_add (6 * i) 2) ?_
  refine va_sld hx hb hX hbl hbA hS (vp_in_nI (by omega) (by omega)) d_La_law_316 ?_
  refine zi_as (y := xs (6 * i + 2)) (by rw [zi_n _ (by omega)]) ?_
  refine lv_aload_n hx hb d_La_law_317 rfl (lv_at hl 1 rfl) ?_
  refine lv_iload hx hb d_La_law_318 (lv_at hl 5 rfl) ?_
  refine lv_iconst (v := 3) hx hb d_La_law_320 (by decide) ?_
  refine lv_iadd hx hb d_La_law_321 ?_
  refine zi_as (y := nI (6 * i + 3)) (nI_add (6 * i) 3) ?_
  refine va_sld hx hb hX hbl hbA hS (vp_in_nI (by omega) (by omega)) d_La_law_322 ?_
  refine zi_as (y := xs (6 * i + 3)) (by rw [zi_n _ (by omega)]) ?_
  refine lv_aload_n hx hb d_La_law_323 rfl (lv_at hl 1 rfl) ?_
  refine lv_iload hx hb d_La_law_324 (lv_at hl 5 rfl) ?_
  refine lv_iconst (v := 4) hx hb d_La_law_326 (by decide) ?_
  refine lv_iadd hx hb d_La_law_327 ?_
  refine zi_as (y := nI (6 * i + 4)) (nI_add (6 * i) 4) ?_
  refine va_sld hx hb hX hbl hbA hS (vp_in_nI (by omega) (by omega)) d_La_law_328 ?_
  refine zi_as (y := xs (6 * i + 4)) (by rw [zi_n _ (by omega)]) ?_
  refine lv_aload_n hx hb d_La_law_329 rfl (lv_at hl 1 rfl) ?_
  refine lv_iload hx hb d_La_law_330 (lv_at hl 5 rfl) ?_
  refine lv_iconst (v := 5) hx hb d_La_law_332 (by decide) ?_
  refine lv_iadd hx hb d_La_law_333 ?_
  refine zi_as (y := nI (6 * i + 5)) (nI_add (6 * i) 5) ?_
  refine va_sld hx hb hX hbl hbA hS (vp_in_nI (by omega) (by omega)) d_La_law_334 ?_
  refine zi_as (y := xs (6 * i + 5)) (by rw [zi_n _ (by omega)]) ?_
  have hGo335 := hG
  refine zk_v (va_runV (As := [.int (xs (6 * i + 1)), .int (xs (6 * i + 2)), .int (xs (6 * i + 3)), .int (xs (6 * i + 4)), .int (xs (6 * i + 5))]) (rest := []) ⟨hx, hb, hml, hown, hts⟩ (t_Mo_origin_a l hO1 (xs (6 * i + 1)) (xs (6 * i + 2)) (xs (6 * i + 3)) (xs (6 * i + 4)) (xs (6 * i + 5))) (zcV 5 hts w_1362 w_1363 w_1364 w_30 w_1365 (by decide +kernel) ⟨Nat.le_of_ble_eq_true rfl, Nat.le_of_ble_eq_true rfl⟩) (zc_preV hbase hK hN hQ hG hS hmo1 rfl) rfl rfl hl.1 rfl (lv_room (Nat.le_of_ble_eq_true rfl)) d_La_law_335 ⟨(by dsimp only [room_1]; omega), (by dsimp only [room_1]; omega)⟩) hS (fun G335 H locs hp335 hG hS => ?_)
  obtain ⟨ro2, rs2, B2, k2, r2, hs2, he2, hO2, hf2, hW2, hm2⟩ := hp335
  have hE2 : G335 (E.2.2.2 0) = none := hQ.out hG
  obtain ⟨hk, hB⟩ := sOrg_un (xs (6 * i + 1)) (xs (6 * i + 2)) (xs (6 * i + 3)) (xs (6 * i + 4)) (xs (6 * i + 5)) _ _ _ _ _ _ hs1 hs2
  subst hB
  subst hk
  have hA2 := hA1.fr hf2 hE1 hE2 zKr_0 zKr_c
  obtain ⟨ho2, hr2⟩ := hf2 _ _ ho1 (by rw [hr1]; exact zKr_15)
  have hr2 := hr2.trans hr1
  obtain ⟨⟨u2, g2, p2, q2, hct2, hug2⟩, hI2⟩ := aft_org (cC := 34) (cS := s9 + 1400) hct hI hO2 (by decide) (hfin _ _ _ hs1).1 (hfin _ _ _ hs1).2 hs1 hW2 hm2
  obtain ⟨fs2, hmo2, -⟩ := hO2.cell
  have hR2 : zRl E G335 xo mo out (i + 1) (C + 34) (S + (s9 + 1400)) := ⟨ro2, B1, rs2, c1, c2, r299, f1, u2, g2, p2, q2, hA2, hO2, ho2, hr2, hI2, hct2, by omega⟩
  refine lv_aload_n hx hb d_La_law_338 rfl (lv_at hl 3 rfl) ?_
  refine zk_i (va_runV (As := []) (rest := []) ⟨hx, hb, hml, hown, hts⟩ (t_Mo_thrown_a l hO2) (zcV 0 hts w_1345 w_1346 w_1347 w_30 w_1348 (by decide +kernel) ⟨Nat.le_of_ble_eq_true rfl, Nat.le_of_ble_eq_true rfl⟩) (zc_preV hbase hK hN hQ hG hS hmo2 rfl) rfl rfl hl.1 rfl (lv_room (Nat.le_of_ble_eq_true rfl)) d_La_law_339 ⟨(by dsimp only [room_1]; omega), (by dsimp only [room_1]; omega)⟩) hS (fun r339 G339 H locs hp339 hG hS => ?_)
  have hG : zP E G335 H := hp339.2 ▸ hG
  refine zi_as (y := r299) hp339.1 ?_
  refine lv_iload hx hb d_La_law_342 (lv_at hl 0 rfl) ?_
  refine lv_icmp_eq (tgt := 349) hx hb d_La_law_344 (by decide) (fun c344 => ?_) (fun c344 => ?_)
  · refine lv_goto (tgt := 926) hx hb d_La_law_349 (by decide) ?_
    refine zW_more (cells2 := C + 34) (slots2 := S + (s9 + 1400)) (by dsimp only; omega) (by dsimp only; omega) ?_
    exact hback _ _ _ _ _ _ hR2 hG hS (lv_sub hl [1, 2, 3, 4, 5] rfl)
  · exact absurd rfl c344
set_option maxHeartbeats 8000000 in
set_option maxRecDepth 100000 in
/-- the law's case 3: put -/
theorem lawc_put {p : Program} {e : Env} {s : State} {m : MethodId} {args : Array Value} {below : List Frame} {meth : Method} {c : Code} {Q : State → Prop} (l : Launch) (hoff : zl_off l) {E : zc_E} {sc L : Nat} {xs : Nat → Int32} (hx : p.tables.exec = Jvm.exec) (hb : c.code = c_La_law) (hml : c.maxLocals = 7) (hown : s.vm.findClass "ZoneAnswersLaw" = some m.cls) (hts : ∀ w ∈ zw, w.before args s = true) (hX : va_X sc L xs s s.heap) (hbl : sc < s.heap.size) (hbA : ¬ (fun q : Nat => zc_b E ≤ q) sc) (hbase : zc_b E ≤ s.heap.size) (hK : zK E s) (hN : zN zn s) (hQ : zQ E s s.heap) {xo mo out i C S : Nat} {Gv : zg_G} {H : Heap} {locs : List Loc} (hL : L ≤ 3072) (hi6 : 6 * i + 6 ≤ L) (hR : zRl E Gv xo mo out i C S) (hG : zP E Gv H) (hS : zg_S (zc_b E) s.heap H locs) {ls : Array Slot} (hl : lv_has ls 7 [(0, .ref sc), (1, .ref xo), (2, .ref mo), (3, .ref out), (4, .int (nI (6 * i)))]) (hback : ∀ (G2 : zg_G) (C2 S2 : Nat) (H2 : Heap) (locs2 : List Loc) (ls2 : Array Slot), zRl E G2 xo mo out (i + 1) C2 S2 → zP E G2 H2 → zg_S (zc_b E) s.heap H2 locs2 → lv_has ls2 7 [(0, .ref sc), (1, .ref xo), (2, .ref mo), (3, .ref out), (4, .int (nI (6 * i)))] → W p l e room_1 s m args below meth c H2 locs2 C2 S2 Q (F0 m 926 ls2 [])) : W p l e room_1 s m args below meth c H locs C S Q (F0 m 352 ls []) := by
  obtain ⟨ro, A, rs, c1, c2, th, fo, u, g, p9, q9, hA, hO, hout, hro, hI, hct, hug⟩ := hR
  have hE0 : Gv (E.2.2.2 0) = none := hQ.out hG
  have hvz : vsz A.2.1 rs.length := by rw [← hO.2]; exact vsz_r rs
  have hi9 : u + g ≤ 511 := by omega
  have hn3 := hct.nr hi9
  have hn9 : rs.length < 1000 := by omega
  have hb6 : zbg A.2.1 := fun x t p hp => Nat.lt_of_le_of_lt (hI.2.2.2.1 x t p hp) (by decide)
  obtain ⟨s9, h10, hs9, hrm, hfin⟩ := pick_put hct hi9 (xs (6 * i + 1)) (xs (6 * i + 2))
  refine lv_aload_n hx hb d_La_law_352 rfl (lv_at hl 1 rfl) ?_
  refine lv_aload_n hx hb d_La_law_353 rfl (lv_at hl 0 rfl) ?_
  refine lv_iload hx hb d_La_law_354 (lv_at hl 4 rfl) ?_
  refine lv_iconst (v := 1) hx hb d_La_law_356 (by decide) ?_
  refine lv_iadd hx hb d_La_law_357 ?_
  refine zi_as (y := nI (6 * i + 1)) (nI_add (6 * i) 1) ?_
  refine va_sld hx hb hX hbl hbA hS (vp_in_nI (by omega) (by omega)) d_La_law_358 ?_
  refine zi_as (y := xs (6 * i + 1)) (by rw [zi_n _ (by omega)]) ?_
  refine lv_aload_n hx hb d_La_law_359 rfl (lv_at hl 0 rfl) ?_
  refine lv_iload hx hb d_La_law_360 (lv_at hl 4 rfl) ?_
  refine lv_iconst (v := 2) hx hb d_La_law_362 (by decide) ?_
  refine lv_iadd hx hb d_La_law_363 ?_
  refine zi_as (y := nI (6 * i + 2)) (nI_add (6 * i) 2) ?_
  refine va_sld hx hb hX hbl hbA hS (vp_in_nI (by omega) (by omega)) d_La_law_364 ?_
  refine zi_as (y := xs (6 * i + 2)) (by rw [zi_n _ (by omega)]) ?_
  refine lv_aload_n hx hb d_La_law_365 rfl (lv_at hl 3 rfl) ?_
  have hGo366 := hG
  refine zk_i (zl_runS (n := 4) (As := [.ref xo, .int (xs (6 * i + 1)), .int (xs (6 * i + 2)), .ref out]) (rest := []) ⟨hx, hb, hml, hown, hts⟩ (t_La_put_s l hoff hA hE0 hout hro (xs (6 * i + 1)) (xs (6 * i + 2)) hvz hn9 hb6 s9 h10 hs9) w_846 w_847 w_0 w_848 (by decide +kernel) ⟨Nat.le_of_ble_eq_true rfl, Nat.le_of_ble_eq_true rfl⟩ (zc_pre hbase hK hN hQ hG hS) rfl rfl hl.1 rfl (lv_room (Nat.le_of_ble_eq_true rfl)) d_La_law_366 ⟨(by dsimp only [room_1]; omega), (by dsimp only [room_1]; omega)⟩) hS (fun r366 G366 H locs hp366 hG hS => ?_)
  obtain ⟨ro1, B1, r1, f1, hs1, hA1, hf1, ho1, hr1, he1⟩ := hp366
  have hE1 : G366 (E.2.2.2 0) = none := hQ.out hG
  have hO1 := hO.fr hf1 zKl_0 zKl_20 zKl_21
  obtain ⟨fs1, hmo1, -⟩ := hO1.cell
  refine lv_istore (lv' := [(5, .int r366), (0, .ref sc), (1, .ref xo), (2, .ref mo), (3, .ref out), (4, .int (nI (6 * i)))]) hx hb d_La_law_369 hl (by decide) rfl (fun ls hl => ?_)
  refine lv_aload_n hx hb d_La_law_371 rfl (lv_at hl 3 rfl) ?_
  refine lv_aload_n hx hb d_La_law_372 rfl (lv_at hl 1 rfl) ?_
  refine lv_iload hx hb d_La_law_373 (lv_at hl 5 rfl) ?_
  refine lv_iconst (v := 1) hx hb d_La_law_375 (by decide) ?_
  refine lv_iadd hx hb d_La_law_376 ?_
  refine zi_as (y := nI (6 * i + 1)) (nI_add (6 * i) 1) ?_
  refine va_sld hx hb hX hbl hbA hS (vp_in_nI (by omega) (by omega)) d_La_law_377 ?_
  refine zi_as (y := xs (6 * i + 1)) (by rw [zi_n _ (by omega)]) ?_
  refine lv_aload_n hx hb d_La_law_378 rfl (lv_at hl 1 rfl) ?_
  refine lv_iload hx hb d_La_law_379 (lv_at hl 5 rfl) ?_
  refine lv_iconst (v := 2) hx hb d_La_law_381 (by decide) ?_
  refine lv_iadd hx hb d_La_law_382 ?_
  refine zi_as (y := nI (6 * i + 2)) (nI_add (6 * i) 2) ?_
  refine va_sld hx hb hX hbl hbA hS (vp_in_nI (by omega) (by omega)) d_La_law_383 ?_
  refine zi_as (y := xs (6 * i + 2)) (by rw [zi_n _ (by omega)]) ?_
  have hGo384 := hG
  refine zk_i (va_runV (As := [.int (xs (6 * i + 1)), .int (xs (6 * i + 2))]) (rest := []) ⟨hx, hb, hml, hown, hts⟩ (t_Mo_put_a l hO1 (xs (6 * i + 1)) (xs (6 * i + 2)) (by omega)) (zcV 2 hts w_1375 w_1376 w_1377 w_30 w_1378 (by decide +kernel) ⟨Nat.le_of_ble_eq_true rfl, Nat.le_of_ble_eq_true rfl⟩) (zc_preV hbase hK hN hQ hG hS hmo1 rfl) rfl rfl hl.1 rfl (lv_room (Nat.le_of_ble_eq_true rfl)) d_La_law_384 ⟨(by dsimp only [room_1]; omega), (by dsimp only [room_1]; omega)⟩) hS (fun r384 G384 H locs hp384 hG hS => ?_)
  obtain ⟨ro2, rs2, B2, k2, r2, hs2, he2, hO2, hf2, hW2, hm2⟩ := hp384
  have hE2 : G384 (E.2.2.2 0) = none := hQ.out hG
  obtain ⟨hk, hB, hr⟩ := sPut_un (xs (6 * i + 1)) (xs (6 * i + 2)) _ _ _ _ _ _ hs1 hs2
  subst hB
  subst hk
  have hA2 := hA1.fr hf2 hE1 hE2 zKr_0 zKr_c
  obtain ⟨ho2, hr2⟩ := hf2 _ _ ho1 (by rw [hr1]; exact zKr_15)
  have hr2 := hr2.trans hr1
  obtain ⟨⟨u2, g2, p2, q2, hct2, hug2⟩, hI2⟩ := aft_put (cC := 24) (cS := s9 + (A.1.length + 520)) hct hI hO2 (by decide) (hfin _ _ _ hs1).1 (hfin _ _ _ hs1).2 hs1 hW2 hm2
  obtain ⟨fs2, hmo2, -⟩ := hO2.cell
  have hR2 : zRl E G384 xo mo out (i + 1) (C + 24) (S + (s9 + (A.1.length + 520))) := ⟨ro2, B1, rs2, c1, c2, r366, f1, u2, g2, p2, q2, hA2, hO2, ho2, hr2, hI2, hct2, by omega⟩
  refine lv_istore (lv' := [(6, .int r384), (5, .int r366), (0, .ref sc), (1, .ref xo), (2, .ref mo), (3, .ref out), (4, .int (nI (6 * i)))]) hx hb d_La_law_387 hl (by decide) rfl (fun ls hl => ?_)
  refine lv_aload_n hx hb d_La_law_389 rfl (lv_at hl 4 rfl) ?_
  refine zk_i (va_runV (As := []) (rest := []) ⟨hx, hb, hml, hown, hts⟩ (t_Mo_thrown_a l hO2) (zcV 0 hts w_1345 w_1346 w_1347 w_30 w_1348 (by decide +kernel) ⟨Nat.le_of_ble_eq_true rfl, Nat.le_of_ble_eq_true rfl⟩) (zc_preV hbase hK hN hQ hG hS hmo2 rfl) rfl rfl hl.1 rfl (lv_room (Nat.le_of_ble_eq_true rfl)) d_La_law_390 ⟨(by dsimp only [room_1]; omega), (by dsimp only [room_1]; omega)⟩) hS (fun r390 G390 H locs hp390 hG hS => ?_)
  have hG : zP E G384 H := hp390.2 ▸ hG
  refine zi_as (y := r366) hp390.1 ?_
  refine lv_iload hx hb d_La_law_393 (lv_at hl 1 rfl) ?_
  refine lv_icmp_eq (tgt := 400) hx hb d_La_law_395 (by decide) (fun c395 => ?_) (fun c395 => ?_)
  · refine lv_iload hx hb d_La_law_400 (lv_at hl 1 rfl) ?_
    refine lv_if_ne (tgt := 417) hx hb d_La_law_402 (by decide) (fun c402 => ?_) (fun c402 => ?_)
    · refine lv_goto (tgt := 926) hx hb d_La_law_417 (by decide) ?_
      refine zW_more (cells2 := C + 24) (slots2 := S + (s9 + (A.1.length + 520))) (by dsimp only; omega) (by dsimp only; omega) ?_
      exact hback _ _ _ _ _ _ hR2 hG hS (lv_sub hl [2, 3, 4, 5, 6] rfl)
    · refine lv_aload_n hx hb d_La_law_405 rfl (lv_at hl 5 rfl) ?_
      refine lv_iconst (v := 0) hx hb d_La_law_406 (by decide) ?_
      refine zi_as (y := nI 0) (nI_0.symm) ?_
      refine zg_lald hx hb hK hG 2 ho2 rfl (vp_in_nI (by omega) (by omega)) d_La_law_407 ?_
      refine zl_as (y := r1.toInt64) (by rw [zi_n 0 (by decide)]; exact he1 c402) ?_
      refine lv_iload hx hb d_La_law_408 (lv_at hl 0 rfl) ?_
      refine lv_i2l hx hb d_La_law_410 rfl ?_
      refine W.lcmp hx hb d_La_law_411 ?_
      refine zi_as (y := 0) (by rw [hr c402, ← he2 c402]; exact zcmp0 _) ?_
      refine lv_if_eq (tgt := 417) hx hb d_La_law_412 (by decide) (fun c412 => ?_) (fun c412 => ?_)
      · have b412 : 0 = 0 := (nI_eq (a := 0) (b := 0) (by omega) (by omega)).mp c412
        refine lv_goto (tgt := 926) hx hb d_La_law_417 (by decide) ?_
        refine zW_more (cells2 := C + 24) (slots2 := S + (s9 + (A.1.length + 520))) (by dsimp only; omega) (by dsimp only; omega) ?_
        exact hback _ _ _ _ _ _ hR2 hG hS (lv_sub hl [2, 3, 4, 5, 6] rfl)
      · have b412 : ¬ 0 = 0 := fun q => c412 ((nI_eq (a := 0) (b := 0) (by omega) (by omega)).mpr q)
        exact absurd rfl c412
  · exact absurd rfl c395
set_option maxHeartbeats 8000000 in
set_option maxRecDepth 100000 in
/-- the law's case 4: take -/
theorem lawc_take {p : Program} {e : Env} {s : State} {m : MethodId} {args : Array Value} {below : List Frame} {meth : Method} {c : Code} {Q : State → Prop} (l : Launch) (hoff : zl_off l) {E : zc_E} {sc L : Nat} {xs : Nat → Int32} (hx : p.tables.exec = Jvm.exec) (hb : c.code = c_La_law) (hml : c.maxLocals = 7) (hown : s.vm.findClass "ZoneAnswersLaw" = some m.cls) (hts : ∀ w ∈ zw, w.before args s = true) (hX : va_X sc L xs s s.heap) (hbl : sc < s.heap.size) (hbA : ¬ (fun q : Nat => zc_b E ≤ q) sc) (hbase : zc_b E ≤ s.heap.size) (hK : zK E s) (hN : zN zn s) (hQ : zQ E s s.heap) {xo mo out i C S : Nat} {Gv : zg_G} {H : Heap} {locs : List Loc} (hL : L ≤ 3072) (hi6 : 6 * i + 6 ≤ L) (hR : zRl E Gv xo mo out i C S) (hG : zP E Gv H) (hS : zg_S (zc_b E) s.heap H locs) {ls : Array Slot} (hl : lv_has ls 7 [(0, .ref sc), (1, .ref xo), (2, .ref mo), (3, .ref out), (4, .int (nI (6 * i)))]) (hback : ∀ (G2 : zg_G) (C2 S2 : Nat) (H2 : Heap) (locs2 : List Loc) (ls2 : Array Slot), zRl E G2 xo mo out (i + 1) C2 S2 → zP E G2 H2 → zg_S (zc_b E) s.heap H2 locs2 → lv_has ls2 7 [(0, .ref sc), (1, .ref xo), (2, .ref mo), (3, .ref out), (4, .int (nI (6 * i)))] → W p l e room_1 s m args below meth c H2 locs2 C2 S2 Q (F0 m 926 ls2 [])) : W p l e room_1 s m args below meth c H locs C S Q (F0 m 420 ls []) := by
  obtain ⟨ro, A, rs, c1, c2, th, fo, u, g, p9, q9, hA, hO, hout, hro, hI, hct, hug⟩ := hR
  have hE0 : Gv (E.2.2.2 0) = none := hQ.out hG
  have hvz : vsz A.2.1 rs.length := by rw [← hO.2]; exact vsz_r rs
  have hi9 : u + g ≤ 511 := by omega
  have hn3 := hct.nr hi9
  have hn9 : rs.length < 1000 := by omega
  have hb6 : zbg A.2.1 := fun x t p hp => Nat.lt_of_le_of_lt (hI.2.2.2.1 x t p hp) (by decide)
  have hrm := hct.rf (cC := 6) (cS := 2 * A.1.length + 520) hi9 (by decide) (by omega)
  refine lv_aload_n hx hb d_La_law_420 rfl (lv_at hl 1 rfl) ?_
  refine lv_aload_n hx hb d_La_law_421 rfl (lv_at hl 0 rfl) ?_
  refine lv_iload hx hb d_La_law_422 (lv_at hl 4 rfl) ?_
  refine lv_iconst (v := 1) hx hb d_La_law_424 (by decide) ?_
  refine lv_iadd hx hb d_La_law_425 ?_
  refine zi_as (y := nI (6 * i + 1)) (nI_add (6 * i) 1) ?_
  refine va_sld hx hb hX hbl hbA hS (vp_in_nI (by omega) (by omega)) d_La_law_426 ?_
  refine zi_as (y := xs (6 * i + 1)) (by rw [zi_n _ (by omega)]) ?_
  refine lv_aload_n hx hb d_La_law_427 rfl (lv_at hl 3 rfl) ?_
  have hGo428 := hG
  refine zk_i (zl_runS (n := 3) (As := [.ref xo, .int (xs (6 * i + 1)), .ref out]) (rest := []) ⟨hx, hb, hml, hown, hts⟩ (t_La_take_s l hoff hA hE0 hout hro (xs (6 * i + 1)) hvz hn9 hb6) w_936 w_937 w_0 w_938 (by decide +kernel) ⟨Nat.le_of_ble_eq_true rfl, Nat.le_of_ble_eq_true rfl⟩ (zc_pre hbase hK hN hQ hG hS) rfl rfl hl.1 rfl (lv_room (Nat.le_of_ble_eq_true rfl)) d_La_law_428 ⟨(by dsimp only [room_1]; omega), (by dsimp only [room_1]; omega)⟩) hS (fun r428 G428 H locs hp428 hG hS => ?_)
  obtain ⟨ro1, B1, r1, f1, hs1, hA1, hf1, ho1, hr1, he1⟩ := hp428
  have hE1 : G428 (E.2.2.2 0) = none := hQ.out hG
  have hO1 := hO.fr hf1 zKl_0 zKl_20 zKl_21
  obtain ⟨fs1, hmo1, -⟩ := hO1.cell
  refine lv_istore (lv' := [(5, .int r428), (0, .ref sc), (1, .ref xo), (2, .ref mo), (3, .ref out), (4, .int (nI (6 * i)))]) hx hb d_La_law_431 hl (by decide) rfl (fun ls hl => ?_)
  refine lv_aload_n hx hb d_La_law_433 rfl (lv_at hl 3 rfl) ?_
  refine lv_aload_n hx hb d_La_law_434 rfl (lv_at hl 1 rfl) ?_
  refine lv_iload hx hb d_La_law_435 (lv_at hl 5 rfl) ?_
  refine lv_iconst (v := 1) hx hb d_La_law_437 (by decide) ?_
  refine lv_iadd hx hb d_La_law_438 ?_
  refine zi_as (y := nI (6 * i + 1)) (nI_add (6 * i) 1) ?_
  refine va_sld hx hb hX hbl hbA hS (vp_in_nI (by omega) (by omega)) d_La_law_439 ?_
  refine zi_as (y := xs (6 * i + 1)) (by rw [zi_n _ (by omega)]) ?_
  have hGo440 := hG
  refine zk_i (va_runV (As := [.int (xs (6 * i + 1))]) (rest := []) ⟨hx, hb, hml, hown, hts⟩ (t_Mo_take_a l hO1 (xs (6 * i + 1)) ) (zcV 1 hts w_1421 w_1422 w_1423 w_30 w_1424 (by decide +kernel) ⟨Nat.le_of_ble_eq_true rfl, Nat.le_of_ble_eq_true rfl⟩) (zc_preV hbase hK hN hQ hG hS hmo1 rfl) rfl rfl hl.1 rfl (lv_room (Nat.le_of_ble_eq_true rfl)) d_La_law_440 ⟨(by dsimp only [room_1]; omega), (by dsimp only [room_1]; omega)⟩) hS (fun r440 G440 H locs hp440 hG hS => ?_)
  obtain ⟨ro2, rs2, B2, k2, r2, hs2, he2, hO2, hf2, hW2, hm2⟩ := hp440
  have hE2 : G440 (E.2.2.2 0) = none := hQ.out hG
  obtain ⟨hk, hB, hr⟩ := sTake_un (xs (6 * i + 1)) _ _ _ _ _ _ hs1 hs2
  subst hB
  subst hk
  have hA2 := hA1.fr hf2 hE1 hE2 zKr_0 zKr_c
  obtain ⟨ho2, hr2⟩ := hf2 _ _ ho1 (by rw [hr1]; exact zKr_15)
  have hr2 := hr2.trans hr1
  obtain ⟨⟨u2, g2, p2, q2, hct2, hug2⟩, hI2⟩ := aft_take (cC := 6) (cS := 2 * A.1.length + 520) hct hI hO2 (by decide) (by omega) hs1 hW2 hm2
  obtain ⟨fs2, hmo2, -⟩ := hO2.cell
  have hR2 : zRl E G440 xo mo out (i + 1) (C + (6)) (S + (2 * A.1.length + 520)) := ⟨ro2, B1, rs2, c1, c2, r428, f1, u2, g2, p2, q2, hA2, hO2, ho2, hr2, hI2, hct2, by omega⟩
  refine lv_istore (lv' := [(6, .int r440), (5, .int r428), (0, .ref sc), (1, .ref xo), (2, .ref mo), (3, .ref out), (4, .int (nI (6 * i)))]) hx hb d_La_law_443 hl (by decide) rfl (fun ls hl => ?_)
  refine lv_aload_n hx hb d_La_law_445 rfl (lv_at hl 4 rfl) ?_
  refine zk_i (va_runV (As := []) (rest := []) ⟨hx, hb, hml, hown, hts⟩ (t_Mo_thrown_a l hO2) (zcV 0 hts w_1345 w_1346 w_1347 w_30 w_1348 (by decide +kernel) ⟨Nat.le_of_ble_eq_true rfl, Nat.le_of_ble_eq_true rfl⟩) (zc_preV hbase hK hN hQ hG hS hmo2 rfl) rfl rfl hl.1 rfl (lv_room (Nat.le_of_ble_eq_true rfl)) d_La_law_446 ⟨(by dsimp only [room_1]; omega), (by dsimp only [room_1]; omega)⟩) hS (fun r446 G446 H locs hp446 hG hS => ?_)
  have hG : zP E G440 H := hp446.2 ▸ hG
  refine zi_as (y := r428) hp446.1 ?_
  refine lv_iload hx hb d_La_law_449 (lv_at hl 1 rfl) ?_
  refine lv_icmp_eq (tgt := 456) hx hb d_La_law_451 (by decide) (fun c451 => ?_) (fun c451 => ?_)
  · refine lv_iload hx hb d_La_law_456 (lv_at hl 1 rfl) ?_
    refine lv_if_ne (tgt := 473) hx hb d_La_law_458 (by decide) (fun c458 => ?_) (fun c458 => ?_)
    · refine lv_goto (tgt := 926) hx hb d_La_law_473 (by decide) ?_
      refine zW_more (cells2 := C + (6)) (slots2 := S + (2 * A.1.length + 520)) (by dsimp only; omega) (by dsimp only; omega) ?_
      exact hback _ _ _ _ _ _ hR2 hG hS (lv_sub hl [2, 3, 4, 5, 6] rfl)
    · refine lv_aload_n hx hb d_La_law_461 rfl (lv_at hl 5 rfl) ?_
      refine lv_iconst (v := 0) hx hb d_La_law_462 (by decide) ?_
      refine zi_as (y := nI 0) (nI_0.symm) ?_
      refine zg_lald hx hb hK hG 2 ho2 rfl (vp_in_nI (by omega) (by omega)) d_La_law_463 ?_
      refine zl_as (y := r1.toInt64) (by rw [zi_n 0 (by decide)]; exact he1 c458) ?_
      refine lv_iload hx hb d_La_law_464 (lv_at hl 0 rfl) ?_
      refine lv_i2l hx hb d_La_law_466 rfl ?_
      refine W.lcmp hx hb d_La_law_467 ?_
      refine zi_as (y := 0) (by rw [hr c458, ← he2 c458]; exact zcmp0 _) ?_
      refine lv_if_eq (tgt := 473) hx hb d_La_law_468 (by decide) (fun c468 => ?_) (fun c468 => ?_)
      · have b468 : 0 = 0 := (nI_eq (a := 0) (b := 0) (by omega) (by omega)).mp c468
        refine lv_goto (tgt := 926) hx hb d_La_law_473 (by decide) ?_
        refine zW_more (cells2 := C + (6)) (slots2 := S + (2 * A.1.length + 520)) (by dsimp only; omega) (by dsimp only; omega) ?_
        exact hback _ _ _ _ _ _ hR2 hG hS (lv_sub hl [2, 3, 4, 5, 6] rfl)
      · have b468 : ¬ 0 = 0 := fun q => c468 ((nI_eq (a := 0) (b := 0) (by omega) (by omega)).mpr q)
        exact absurd rfl c468
  · exact absurd rfl c451
set_option maxHeartbeats 8000000 in
set_option maxRecDepth 100000 in
/-- the law's case 5: takeAll -/
theorem lawc_takeAll {p : Program} {e : Env} {s : State} {m : MethodId} {args : Array Value} {below : List Frame} {meth : Method} {c : Code} {Q : State → Prop} (l : Launch) (hoff : zl_off l) {E : zc_E} {sc L : Nat} {xs : Nat → Int32} (hx : p.tables.exec = Jvm.exec) (hb : c.code = c_La_law) (hml : c.maxLocals = 7) (hown : s.vm.findClass "ZoneAnswersLaw" = some m.cls) (hts : ∀ w ∈ zw, w.before args s = true) (hX : va_X sc L xs s s.heap) (hbl : sc < s.heap.size) (hbA : ¬ (fun q : Nat => zc_b E ≤ q) sc) (hbase : zc_b E ≤ s.heap.size) (hK : zK E s) (hN : zN zn s) (hQ : zQ E s s.heap) {xo mo out i C S : Nat} {Gv : zg_G} {H : Heap} {locs : List Loc} (hL : L ≤ 3072) (hi6 : 6 * i + 6 ≤ L) (hR : zRl E Gv xo mo out i C S) (hG : zP E Gv H) (hS : zg_S (zc_b E) s.heap H locs) {ls : Array Slot} (hl : lv_has ls 7 [(0, .ref sc), (1, .ref xo), (2, .ref mo), (3, .ref out), (4, .int (nI (6 * i)))]) (hback : ∀ (G2 : zg_G) (C2 S2 : Nat) (H2 : Heap) (locs2 : List Loc) (ls2 : Array Slot), zRl E G2 xo mo out (i + 1) C2 S2 → zP E G2 H2 → zg_S (zc_b E) s.heap H2 locs2 → lv_has ls2 7 [(0, .ref sc), (1, .ref xo), (2, .ref mo), (3, .ref out), (4, .int (nI (6 * i)))] → W p l e room_1 s m args below meth c H2 locs2 C2 S2 Q (F0 m 926 ls2 [])) : W p l e room_1 s m args below meth c H locs C S Q (F0 m 476 ls []) := by
  obtain ⟨ro, A, rs, c1, c2, th, fo, u, g, p9, q9, hA, hO, hout, hro, hI, hct, hug⟩ := hR
  have hE0 : Gv (E.2.2.2 0) = none := hQ.out hG
  have hvz : vsz A.2.1 rs.length := by rw [← hO.2]; exact vsz_r rs
  have hi9 : u + g ≤ 511 := by omega
  have hn3 := hct.nr hi9
  have hn9 : rs.length < 1000 := by omega
  have hb6 : zbg A.2.1 := fun x t p hp => Nat.lt_of_le_of_lt (hI.2.2.2.1 x t p hp) (by decide)
  have hrm := hct.rf (cC := 4) (cS := A.1.length + 265) hi9 (by decide) (by omega)
  refine lv_aload_n hx hb d_La_law_476 rfl (lv_at hl 1 rfl) ?_
  refine lv_aload_n hx hb d_La_law_477 rfl (lv_at hl 0 rfl) ?_
  refine lv_iload hx hb d_La_law_478 (lv_at hl 4 rfl) ?_
  refine lv_iconst (v := 1) hx hb d_La_law_480 (by decide) ?_
  refine lv_iadd hx hb d_La_law_481 ?_
  refine zi_as (y := nI (6 * i + 1)) (nI_add (6 * i) 1) ?_
  refine va_sld hx hb hX hbl hbA hS (vp_in_nI (by omega) (by omega)) d_La_law_482 ?_
  refine zi_as (y := xs (6 * i + 1)) (by rw [zi_n _ (by omega)]) ?_
  refine lv_aload_n hx hb d_La_law_483 rfl (lv_at hl 3 rfl) ?_
  have hGo484 := hG
  refine zk_i (zl_runS (n := 3) (As := [.ref xo, .int (xs (6 * i + 1)), .ref out]) (rest := []) ⟨hx, hb, hml, hown, hts⟩ (t_La_takeAll_s l hoff hA hE0 hout hro (xs (6 * i + 1)) hvz hn9) w_984 w_985 w_0 w_986 (by decide +kernel) ⟨Nat.le_of_ble_eq_true rfl, Nat.le_of_ble_eq_true rfl⟩ (zc_pre hbase hK hN hQ hG hS) rfl rfl hl.1 rfl (lv_room (Nat.le_of_ble_eq_true rfl)) d_La_law_484 ⟨(by dsimp only [room_1]; omega), (by dsimp only [room_1]; omega)⟩) hS (fun r484 G484 H locs hp484 hG hS => ?_)
  obtain ⟨ro1, B1, r1, f1, hs1, hA1, hf1, ho1, hr1, he1⟩ := hp484
  have hE1 : G484 (E.2.2.2 0) = none := hQ.out hG
  have hO1 := hO.fr hf1 zKl_0 zKl_20 zKl_21
  obtain ⟨fs1, hmo1, -⟩ := hO1.cell
  refine lv_istore (lv' := [(5, .int r484), (0, .ref sc), (1, .ref xo), (2, .ref mo), (3, .ref out), (4, .int (nI (6 * i)))]) hx hb d_La_law_487 hl (by decide) rfl (fun ls hl => ?_)
  refine lv_aload_n hx hb d_La_law_489 rfl (lv_at hl 3 rfl) ?_
  refine lv_aload_n hx hb d_La_law_490 rfl (lv_at hl 1 rfl) ?_
  refine lv_iload hx hb d_La_law_491 (lv_at hl 5 rfl) ?_
  refine lv_iconst (v := 1) hx hb d_La_law_493 (by decide) ?_
  refine lv_iadd hx hb d_La_law_494 ?_
  refine zi_as (y := nI (6 * i + 1)) (nI_add (6 * i) 1) ?_
  refine va_sld hx hb hX hbl hbA hS (vp_in_nI (by omega) (by omega)) d_La_law_495 ?_
  refine zi_as (y := xs (6 * i + 1)) (by rw [zi_n _ (by omega)]) ?_
  have hGo496 := hG
  refine zk_i (va_runV (As := [.int (xs (6 * i + 1))]) (rest := []) ⟨hx, hb, hml, hown, hts⟩ (t_Mo_takeAll_a l hO1 (xs (6 * i + 1)) ) (zcV 1 hts w_1429 w_1430 w_1431 w_30 w_1432 (by decide +kernel) ⟨Nat.le_of_ble_eq_true rfl, Nat.le_of_ble_eq_true rfl⟩) (zc_preV hbase hK hN hQ hG hS hmo1 rfl) rfl rfl hl.1 rfl (lv_room (Nat.le_of_ble_eq_true rfl)) d_La_law_496 ⟨(by dsimp only [room_1]; omega), (by dsimp only [room_1]; omega)⟩) hS (fun r496 G496 H locs hp496 hG hS => ?_)
  obtain ⟨ro2, rs2, B2, k2, r2, hs2, he2, hO2, hf2, hW2, hm2⟩ := hp496
  have hE2 : G496 (E.2.2.2 0) = none := hQ.out hG
  obtain ⟨hk, hB, hr⟩ := sAll_un (xs (6 * i + 1)) _ _ _ _ _ _ hs1 hs2
  subst hB
  subst hk
  have hA2 := hA1.fr hf2 hE1 hE2 zKr_0 zKr_c
  obtain ⟨ho2, hr2⟩ := hf2 _ _ ho1 (by rw [hr1]; exact zKr_15)
  have hr2 := hr2.trans hr1
  obtain ⟨⟨u2, g2, p2, q2, hct2, hug2⟩, hI2⟩ := aft_all (cC := 4) (cS := A.1.length + 265) hct hI hO2 (by decide) (by omega) hs1 hW2 hm2
  obtain ⟨fs2, hmo2, -⟩ := hO2.cell
  have hR2 : zRl E G496 xo mo out (i + 1) (C + (4)) (S + (A.1.length + 265)) := ⟨ro2, B1, rs2, c1, c2, r484, f1, u2, g2, p2, q2, hA2, hO2, ho2, hr2, hI2, hct2, by omega⟩
  refine lv_istore (lv' := [(6, .int r496), (5, .int r484), (0, .ref sc), (1, .ref xo), (2, .ref mo), (3, .ref out), (4, .int (nI (6 * i)))]) hx hb d_La_law_499 hl (by decide) rfl (fun ls hl => ?_)
  refine lv_aload_n hx hb d_La_law_501 rfl (lv_at hl 4 rfl) ?_
  refine zk_i (va_runV (As := []) (rest := []) ⟨hx, hb, hml, hown, hts⟩ (t_Mo_thrown_a l hO2) (zcV 0 hts w_1345 w_1346 w_1347 w_30 w_1348 (by decide +kernel) ⟨Nat.le_of_ble_eq_true rfl, Nat.le_of_ble_eq_true rfl⟩) (zc_preV hbase hK hN hQ hG hS hmo2 rfl) rfl rfl hl.1 rfl (lv_room (Nat.le_of_ble_eq_true rfl)) d_La_law_502 ⟨(by dsimp only [room_1]; omega), (by dsimp only [room_1]; omega)⟩) hS (fun r502 G502 H locs hp502 hG hS => ?_)
  have hG : zP E G496 H := hp502.2 ▸ hG
  refine zi_as (y := r484) hp502.1 ?_
  refine lv_iload hx hb d_La_law_505 (lv_at hl 1 rfl) ?_
  refine lv_icmp_eq (tgt := 512) hx hb d_La_law_507 (by decide) (fun c507 => ?_) (fun c507 => ?_)
  · refine lv_iload hx hb d_La_law_512 (lv_at hl 1 rfl) ?_
    refine lv_if_ne (tgt := 529) hx hb d_La_law_514 (by decide) (fun c514 => ?_) (fun c514 => ?_)
    · refine lv_goto (tgt := 926) hx hb d_La_law_529 (by decide) ?_
      refine zW_more (cells2 := C + (4)) (slots2 := S + (A.1.length + 265)) (by dsimp only; omega) (by dsimp only; omega) ?_
      exact hback _ _ _ _ _ _ hR2 hG hS (lv_sub hl [2, 3, 4, 5, 6] rfl)
    · refine lv_aload_n hx hb d_La_law_517 rfl (lv_at hl 5 rfl) ?_
      refine lv_iconst (v := 0) hx hb d_La_law_518 (by decide) ?_
      refine zi_as (y := nI 0) (nI_0.symm) ?_
      refine zg_lald hx hb hK hG 2 ho2 rfl (vp_in_nI (by omega) (by omega)) d_La_law_519 ?_
      refine zl_as (y := r1.toInt64) (by rw [zi_n 0 (by decide)]; exact he1 c514) ?_
      refine lv_iload hx hb d_La_law_520 (lv_at hl 0 rfl) ?_
      refine lv_i2l hx hb d_La_law_522 rfl ?_
      refine W.lcmp hx hb d_La_law_523 ?_
      refine zi_as (y := 0) (by rw [hr c514, ← he2 c514]; exact zcmp0 _) ?_
      refine lv_if_eq (tgt := 529) hx hb d_La_law_524 (by decide) (fun c524 => ?_) (fun c524 => ?_)
      · have b524 : 0 = 0 := (nI_eq (a := 0) (b := 0) (by omega) (by omega)).mp c524
        refine lv_goto (tgt := 926) hx hb d_La_law_529 (by decide) ?_
        refine zW_more (cells2 := C + (4)) (slots2 := S + (A.1.length + 265)) (by dsimp only; omega) (by dsimp only; omega) ?_
        exact hback _ _ _ _ _ _ hR2 hG hS (lv_sub hl [2, 3, 4, 5, 6] rfl)
      · have b524 : ¬ 0 = 0 := fun q => c524 ((nI_eq (a := 0) (b := 0) (by omega) (by omega)).mpr q)
        exact absurd rfl c524
  · exact absurd rfl c507
set_option maxHeartbeats 8000000 in
set_option maxRecDepth 100000 in
/-- the law's case 6: serial -/
theorem lawc_serial {p : Program} {e : Env} {s : State} {m : MethodId} {args : Array Value} {below : List Frame} {meth : Method} {c : Code} {Q : State → Prop} (l : Launch) (hoff : zl_off l) {E : zc_E} {sc L : Nat} {xs : Nat → Int32} (hx : p.tables.exec = Jvm.exec) (hb : c.code = c_La_law) (hml : c.maxLocals = 7) (hown : s.vm.findClass "ZoneAnswersLaw" = some m.cls) (hts : ∀ w ∈ zw, w.before args s = true) (hX : va_X sc L xs s s.heap) (hbl : sc < s.heap.size) (hbA : ¬ (fun q : Nat => zc_b E ≤ q) sc) (hbase : zc_b E ≤ s.heap.size) (hK : zK E s) (hN : zN zn s) (hQ : zQ E s s.heap) {xo mo out i C S : Nat} {Gv : zg_G} {H : Heap} {locs : List Loc} (hL : L ≤ 3072) (hi6 : 6 * i + 6 ≤ L) (hR : zRl E Gv xo mo out i C S) (hG : zP E Gv H) (hS : zg_S (zc_b E) s.heap H locs) {ls : Array Slot} (hl : lv_has ls 7 [(0, .ref sc), (1, .ref xo), (2, .ref mo), (3, .ref out), (4, .int (nI (6 * i)))]) (hback : ∀ (G2 : zg_G) (C2 S2 : Nat) (H2 : Heap) (locs2 : List Loc) (ls2 : Array Slot), zRl E G2 xo mo out (i + 1) C2 S2 → zP E G2 H2 → zg_S (zc_b E) s.heap H2 locs2 → lv_has ls2 7 [(0, .ref sc), (1, .ref xo), (2, .ref mo), (3, .ref out), (4, .int (nI (6 * i)))] → W p l e room_1 s m args below meth c H2 locs2 C2 S2 Q (F0 m 926 ls2 [])) : W p l e room_1 s m args below meth c H locs C S Q (F0 m 532 ls []) := by
  obtain ⟨ro, A, rs, c1, c2, th, fo, u, g, p9, q9, hA, hO, hout, hro, hI, hct, hug⟩ := hR
  have hE0 : Gv (E.2.2.2 0) = none := hQ.out hG
  have hvz : vsz A.2.1 rs.length := by rw [← hO.2]; exact vsz_r rs
  have hi9 : u + g ≤ 511 := by omega
  have hn3 := hct.nr hi9
  have hn9 : rs.length < 1000 := by omega
  have hb6 : zbg A.2.1 := fun x t p hp => Nat.lt_of_le_of_lt (hI.2.2.2.1 x t p hp) (by decide)
  have hso := rsoa hO.gd
  obtain ⟨ta9, zo9, an9, hxo⟩ := hA.cell
  have hrm := hct.rf (cC := 4) (cS := 640 + (rB (re rs 0)).length) hi9 (by decide) (by omega)
  refine lv_aload_n hx hb d_La_law_532 rfl (lv_at hl 1 rfl) ?_
  refine lv_aload_n hx hb d_La_law_533 rfl (lv_at hl 0 rfl) ?_
  refine lv_iload hx hb d_La_law_534 (lv_at hl 4 rfl) ?_
  refine lv_iconst (v := 1) hx hb d_La_law_536 (by decide) ?_
  refine lv_iadd hx hb d_La_law_537 ?_
  refine zi_as (y := nI (6 * i + 1)) (nI_add (6 * i) 1) ?_
  refine va_sld hx hb hX hbl hbA hS (vp_in_nI (by omega) (by omega)) d_La_law_538 ?_
  refine zi_as (y := xs (6 * i + 1)) (by rw [zi_n _ (by omega)]) ?_
  have hGo539 := hG
  refine zk_i (va_runV (As := [.int (xs (6 * i + 1))]) (rest := []) ⟨hx, hb, hml, hown, hts⟩ (t_ZA_serial_s l hA (xs (6 * i + 1)) hvz hn9 hI) (zcV 1 hts w_713 w_714 w_715 w_1 w_716 (by decide +kernel) ⟨Nat.le_of_ble_eq_true rfl, Nat.le_of_ble_eq_true rfl⟩) (zc_preV hbase hK hN hQ hG hS hxo rfl) rfl rfl hl.1 rfl (lv_room (Nat.le_of_ble_eq_true rfl)) d_La_law_539 ⟨(by dsimp only [room_1]; omega), (by dsimp only [room_1]; omega)⟩) hS (fun r539 G539 H locs hp539 hG hS => ?_)
  obtain ⟨ro1, B1, hs1, hA1, hf1⟩ := hp539
  obtain ⟨ho1, hr1⟩ := hf1 _ _ hout (by rw [hro]; exact zKc_15)
  have hr1 := hr1.trans hro
  have hE1 : G539 (E.2.2.2 0) = none := hQ.out hG
  have hO1 := hO.fr hf1 zKc_0 zKc_20 zKc_21
  obtain ⟨fs1, hmo1, -⟩ := hO1.cell
  refine lv_aload_n hx hb d_La_law_542 rfl (lv_at hl 2 rfl) ?_
  refine lv_aload_n hx hb d_La_law_543 rfl (lv_at hl 0 rfl) ?_
  refine lv_iload hx hb d_La_law_544 (lv_at hl 4 rfl) ?_
  refine lv_iconst (v := 1) hx hb d_La_law_546 (by decide) ?_
  refine lv_iadd hx hb d_La_law_547 ?_
  refine zi_as (y := nI (6 * i + 1)) (nI_add (6 * i) 1) ?_
  refine va_sld hx hb hX hbl hbA hS (vp_in_nI (by omega) (by omega)) d_La_law_548 ?_
  refine zi_as (y := xs (6 * i + 1)) (by rw [zi_n _ (by omega)]) ?_
  have hGo549 := hG
  refine zk_i (va_runV (As := [.int (xs (6 * i + 1))]) (rest := [.int r539]) ⟨hx, hb, hml, hown, hts⟩ (t_Mo_serial_a l hO1 (xs (6 * i + 1))) (zcV 1 hts w_1437 w_1438 w_1439 w_30 w_1440 (by decide +kernel) ⟨Nat.le_of_ble_eq_true rfl, Nat.le_of_ble_eq_true rfl⟩) (zc_preV hbase hK hN hQ hG hS hmo1 rfl) rfl rfl hl.1 rfl (lv_room (Nat.le_of_ble_eq_true rfl)) d_La_law_549 ⟨(by dsimp only [room_1]; omega), (by dsimp only [room_1]; omega)⟩) hS (fun r549 G549 H locs hp549 hG hS => ?_)
  obtain ⟨ro2, rs2, B2, k2, r2, hs2, he2, hO2, hf2, hW2, hm2⟩ := hp549
  have hE2 : G549 (E.2.2.2 0) = none := hQ.out hG
  obtain ⟨hk, hB, hr⟩ := sSer_un (xs (6 * i + 1)) _ _ _ _ _ _ hs1 hs2
  subst hB
  subst hk
  have hA2 := hA1.fr hf2 hE1 hE2 zKr_0 zKr_c
  obtain ⟨ho2, hr2⟩ := hf2 _ _ ho1 (by rw [hr1]; exact zKr_15)
  have hr2 := hr2.trans hr1
  obtain ⟨⟨u2, g2, p2, q2, hct2, hug2⟩, hI2⟩ := aft_ser (cC := 4) (cS := 640 + (rB (re rs 0)).length) hct hI hO2 (by decide) (by omega) hs1 hW2 hm2
  obtain ⟨fs2, hmo2, -⟩ := hO2.cell
  have hR2 : zRl E G549 xo mo out (i + 1) (C + (4)) (S + (640 + (rB (re rs 0)).length)) := ⟨ro2, B1, rs2, c1, c2, 0, fo, u2, g2, p2, q2, hA2, hO2, ho2, hr2, hI2, hct2, by omega⟩
  refine lv_icmp_eq (tgt := 926) hx hb d_La_law_552 (by decide) (fun c552 => ?_) (fun c552 => ?_)
  · refine zW_more (cells2 := C + (4)) (slots2 := S + (640 + (rB (re rs 0)).length)) (by dsimp only; omega) (by dsimp only; omega) ?_
    exact hback _ _ _ _ _ _ hR2 hG hS (lv_sub hl [0, 1, 2, 3, 4] rfl)
  · exact absurd ((he2 rfl).trans (hr rfl).symm).symm c552
set_option maxHeartbeats 8000000 in
set_option maxRecDepth 100000 in
/-- the law's case 7: ask -/
theorem lawc_ask {p : Program} {e : Env} {s : State} {m : MethodId} {args : Array Value} {below : List Frame} {meth : Method} {c : Code} {Q : State → Prop} (l : Launch) (hoff : zl_off l) {E : zc_E} {sc L : Nat} {xs : Nat → Int32} (hx : p.tables.exec = Jvm.exec) (hb : c.code = c_La_law) (hml : c.maxLocals = 7) (hown : s.vm.findClass "ZoneAnswersLaw" = some m.cls) (hts : ∀ w ∈ zw, w.before args s = true) (hX : va_X sc L xs s s.heap) (hbl : sc < s.heap.size) (hbA : ¬ (fun q : Nat => zc_b E ≤ q) sc) (hbase : zc_b E ≤ s.heap.size) (hK : zK E s) (hN : zN zn s) (hQ : zQ E s s.heap) {xo mo out i C S : Nat} {Gv : zg_G} {H : Heap} {locs : List Loc} (hL : L ≤ 3072) (hi6 : 6 * i + 6 ≤ L) (hR : zRl E Gv xo mo out i C S) (hG : zP E Gv H) (hS : zg_S (zc_b E) s.heap H locs) {ls : Array Slot} (hl : lv_has ls 7 [(0, .ref sc), (1, .ref xo), (2, .ref mo), (3, .ref out), (4, .int (nI (6 * i)))]) (hback : ∀ (G2 : zg_G) (C2 S2 : Nat) (H2 : Heap) (locs2 : List Loc) (ls2 : Array Slot), zRl E G2 xo mo out (i + 1) C2 S2 → zP E G2 H2 → zg_S (zc_b E) s.heap H2 locs2 → lv_has ls2 7 [(0, .ref sc), (1, .ref xo), (2, .ref mo), (3, .ref out), (4, .int (nI (6 * i)))] → W p l e room_1 s m args below meth c H2 locs2 C2 S2 Q (F0 m 926 ls2 [])) : W p l e room_1 s m args below meth c H locs C S Q (F0 m 557 ls []) := by
  obtain ⟨ro, A, rs, c1, c2, th, fo, u, g, p9, q9, hA, hO, hout, hro, hI, hct, hug⟩ := hR
  have hE0 : Gv (E.2.2.2 0) = none := hQ.out hG
  have hvz : vsz A.2.1 rs.length := by rw [← hO.2]; exact vsz_r rs
  have hi9 : u + g ≤ 511 := by omega
  have hn3 := hct.nr hi9
  have hn9 : rs.length < 1000 := by omega
  have hb6 : zbg A.2.1 := fun x t p hp => Nat.lt_of_le_of_lt (hI.2.2.2.1 x t p hp) (by decide)
  refine lv_aload_n hx hb d_La_law_557 rfl (lv_at hl 1 rfl) ?_
  refine lv_aload_n hx hb d_La_law_558 rfl (lv_at hl 0 rfl) ?_
  refine lv_iload hx hb d_La_law_559 (lv_at hl 4 rfl) ?_
  refine lv_iconst (v := 1) hx hb d_La_law_561 (by decide) ?_
  refine lv_iadd hx hb d_La_law_562 ?_
  refine zi_as (y := nI (6 * i + 1)) (nI_add (6 * i) 1) ?_
  refine va_sld hx hb hX hbl hbA hS (vp_in_nI (by omega) (by omega)) d_La_law_563 ?_
  refine zi_as (y := xs (6 * i + 1)) (by rw [zi_n _ (by omega)]) ?_
  refine lv_aload_n hx hb d_La_law_564 rfl (lv_at hl 0 rfl) ?_
  refine lv_iload hx hb d_La_law_565 (lv_at hl 4 rfl) ?_
  refine lv_iconst (v := 2) hx hb d_La_law_567 (by decide) ?_
  refine lv_iadd hx hb d_La_law_568 ?_
  refine zi_as (y := nI (6 * i + 2)) (nI_add (6 * i) 2) ?_
  refine va_sld hx hb hX hbl hbA hS (vp_in_nI (by omega) (by omega)) d_La_law_569 ?_
  refine zi_as (y := xs (6 * i + 2)) (by rw [zi_n _ (by omega)]) ?_
  refine lv_if_eq (tgt := 577) hx hb d_La_law_570 (by decide) (fun c570 => ?_) (fun c570 => ?_)
  · refine lv_iconst (v := 0) hx hb d_La_law_577 (by decide) ?_
    have hu9 : (0 : Int32) = 0 ∨ (0 : Int32) = 1 := by decide
    obtain ⟨c9, s9, c8, n8, hp1, hp2, hrm, hfin⟩ := pick_ask hO hI hct hi9 (xs (6 * i + 1)) 0
    refine lv_aload_n hx hb d_La_law_578 rfl (lv_at hl 3 rfl) ?_
    have hGo579 := hG
    refine zk_i (zl_runS (n := 4) (As := [.ref xo, .int (xs (6 * i + 1)), .int 0, .ref out]) (rest := []) ⟨hx, hb, hml, hown, hts⟩ (t_La_ask_s l hoff hA hE0 hout hro (xs (6 * i + 1)) 0 hvz hn9 hI hu9 c9 s9 hp1) w_1001 w_1002 w_0 w_1003 (by decide +kernel) ⟨Nat.le_of_ble_eq_true rfl, Nat.le_of_ble_eq_true rfl⟩ (zc_pre hbase hK hN hQ hG hS) rfl rfl hl.1 rfl (lv_room (Nat.le_of_ble_eq_true rfl)) d_La_law_579 ⟨(by dsimp only [room_1]; omega), (by dsimp only [room_1]; omega)⟩) hS (fun r579 G579 H locs hp579 hG hS => ?_)
    obtain ⟨ro1, B1, r1, f1, hs1, hA1, hf1, ho1, hr1, he1⟩ := hp579
    have hE1 : G579 (E.2.2.2 0) = none := hQ.out hG
    have hO1 := hO.fr hf1 zKl_0 zKl_20 zKl_21
    obtain ⟨fs1, hmo1, -⟩ := hO1.cell
    refine lv_istore (lv' := [(5, .int r579), (0, .ref sc), (1, .ref xo), (2, .ref mo), (3, .ref out), (4, .int (nI (6 * i)))]) hx hb d_La_law_582 hl (by decide) rfl (fun ls hl => ?_)
    refine lv_aload_n hx hb d_La_law_584 rfl (lv_at hl 3 rfl) ?_
    refine lv_aload_n hx hb d_La_law_585 rfl (lv_at hl 1 rfl) ?_
    refine lv_iload hx hb d_La_law_586 (lv_at hl 5 rfl) ?_
    refine lv_iconst (v := 1) hx hb d_La_law_588 (by decide) ?_
    refine lv_iadd hx hb d_La_law_589 ?_
    refine zi_as (y := nI (6 * i + 1)) (nI_add (6 * i) 1) ?_
    refine va_sld hx hb hX hbl hbA hS (vp_in_nI (by omega) (by omega)) d_La_law_590 ?_
    refine zi_as (y := xs (6 * i + 1)) (by rw [zi_n _ (by omega)]) ?_
    refine lv_aload_n hx hb d_La_law_591 rfl (lv_at hl 1 rfl) ?_
    refine lv_iload hx hb d_La_law_592 (lv_at hl 5 rfl) ?_
    refine lv_iconst (v := 2) hx hb d_La_law_594 (by decide) ?_
    refine lv_iadd hx hb d_La_law_595 ?_
    refine zi_as (y := nI (6 * i + 2)) (nI_add (6 * i) 2) ?_
    refine va_sld hx hb hX hbl hbA hS (vp_in_nI (by omega) (by omega)) d_La_law_596 ?_
    refine zi_as (y := xs (6 * i + 2)) (by rw [zi_n _ (by omega)]) ?_
    refine lv_if_eq (tgt := 604) hx hb d_La_law_597 (by decide) (fun c597 => ?_) (fun c597 => ?_)
    · refine lv_iconst (v := 0) hx hb d_La_law_604 (by decide) ?_
      have hGo605 := hG
      refine zk_i (va_runV (As := [.int (xs (6 * i + 1)), .int 0]) (rest := []) ⟨hx, hb, hml, hown, hts⟩ (t_Mo_ask_a l hO1 (xs (6 * i + 1)) 0 hu9 hI.1 c8 n8 hp2) (zcV 2 hts w_1448 w_1449 w_1450 w_30 w_1451 (by decide +kernel) ⟨Nat.le_of_ble_eq_true rfl, Nat.le_of_ble_eq_true rfl⟩) (zc_preV hbase hK hN hQ hG hS hmo1 rfl) rfl rfl hl.1 rfl (lv_room (Nat.le_of_ble_eq_true rfl)) d_La_law_605 ⟨(by dsimp only [room_1]; omega), (by dsimp only [room_1]; omega)⟩) hS (fun r605 G605 H locs hp605 hG hS => ?_)
      obtain ⟨ro2, rs2, B2, k2, r2, d1, d2, hs2, he2, hO2, hf2, hm2⟩ := hp605
      have hE2 : G605 (E.2.2.2 0) = none := hQ.out hG
      obtain ⟨hk, hB, hr⟩ := sAsk_un (xs (6 * i + 1)) 0 _ _ _ _ _ _ hs1 hs2
      subst hB
      subst hk
      have hA2 := hA1.fr hf2 hE1 hE2 zKr_0 zKr_c
      obtain ⟨ho2, hr2⟩ := hf2 _ _ ho1 (by rw [hr1]; exact zKr_15)
      have hr2 := hr2.trans hr1
      obtain ⟨hI2, u2, g2, p2, q2, hct2, hug2⟩ := hfin _ _ _ _ _ _ hs1 hm2
      have hI2 := hI2 _ _ _ hO2
      obtain ⟨fs2, hmo2, -⟩ := hO2.cell
      have hR2 : zRl E G605 xo mo out (i + 1) (C + ((c9 + 10) + (c8 + 10))) (S + ((A.1.length + s9 + 20) + (n8 + 265))) := ⟨ro2, B1, rs2, d1, d2, r579, f1, u2, g2, p2, q2, hA2, hO2, ho2, hr2, hI2, hct2, by omega⟩
      refine lv_istore (lv' := [(6, .int r605), (5, .int r579), (0, .ref sc), (1, .ref xo), (2, .ref mo), (3, .ref out), (4, .int (nI (6 * i)))]) hx hb d_La_law_608 hl (by decide) rfl (fun ls hl => ?_)
      refine lv_aload_n hx hb d_La_law_610 rfl (lv_at hl 4 rfl) ?_
      refine zk_i (va_runV (As := []) (rest := []) ⟨hx, hb, hml, hown, hts⟩ (t_Mo_thrown_a l hO2) (zcV 0 hts w_1345 w_1346 w_1347 w_30 w_1348 (by decide +kernel) ⟨Nat.le_of_ble_eq_true rfl, Nat.le_of_ble_eq_true rfl⟩) (zc_preV hbase hK hN hQ hG hS hmo2 rfl) rfl rfl hl.1 rfl (lv_room (Nat.le_of_ble_eq_true rfl)) d_La_law_611 ⟨(by dsimp only [room_1]; omega), (by dsimp only [room_1]; omega)⟩) hS (fun r611 G611 H locs hp611 hG hS => ?_)
      have hG : zP E G605 H := hp611.2 ▸ hG
      refine zi_as (y := r579) hp611.1 ?_
      refine lv_iload hx hb d_La_law_614 (lv_at hl 1 rfl) ?_
      refine lv_icmp_eq (tgt := 621) hx hb d_La_law_616 (by decide) (fun c616 => ?_) (fun c616 => ?_)
      · refine lv_iload hx hb d_La_law_621 (lv_at hl 1 rfl) ?_
        refine lv_if_ne (tgt := 638) hx hb d_La_law_623 (by decide) (fun c623 => ?_) (fun c623 => ?_)
        · refine lv_goto (tgt := 926) hx hb d_La_law_638 (by decide) ?_
          refine zW_more (cells2 := C + ((c9 + 10) + (c8 + 10))) (slots2 := S + ((A.1.length + s9 + 20) + (n8 + 265))) (by dsimp only; omega) (by dsimp only; omega) ?_
          exact hback _ _ _ _ _ _ hR2 hG hS (lv_sub hl [2, 3, 4, 5, 6] rfl)
        · refine lv_aload_n hx hb d_La_law_626 rfl (lv_at hl 5 rfl) ?_
          refine lv_iconst (v := 0) hx hb d_La_law_627 (by decide) ?_
          refine zi_as (y := nI 0) (nI_0.symm) ?_
          refine zg_lald hx hb hK hG 2 ho2 rfl (vp_in_nI (by omega) (by omega)) d_La_law_628 ?_
          refine zl_as (y := r1.toInt64) (by rw [zi_n 0 (by decide)]; exact he1 c623) ?_
          refine lv_iload hx hb d_La_law_629 (lv_at hl 0 rfl) ?_
          refine lv_i2l hx hb d_La_law_631 rfl ?_
          refine W.lcmp hx hb d_La_law_632 ?_
          refine zi_as (y := 0) (by rw [hr c623, ← he2 c623]; exact zcmp0 _) ?_
          refine lv_if_eq (tgt := 638) hx hb d_La_law_633 (by decide) (fun c633 => ?_) (fun c633 => ?_)
          · have b633 : 0 = 0 := (nI_eq (a := 0) (b := 0) (by omega) (by omega)).mp c633
            refine lv_goto (tgt := 926) hx hb d_La_law_638 (by decide) ?_
            refine zW_more (cells2 := C + ((c9 + 10) + (c8 + 10))) (slots2 := S + ((A.1.length + s9 + 20) + (n8 + 265))) (by dsimp only; omega) (by dsimp only; omega) ?_
            exact hback _ _ _ _ _ _ hR2 hG hS (lv_sub hl [2, 3, 4, 5, 6] rfl)
          · have b633 : ¬ 0 = 0 := fun q => c633 ((nI_eq (a := 0) (b := 0) (by omega) (by omega)).mpr q)
            exact absurd rfl c633
      · exact absurd rfl c616
    · exact absurd c570 c597
  · refine lv_iconst (v := 1) hx hb d_La_law_573 (by decide) ?_
    refine lv_goto (tgt := 578) hx hb d_La_law_574 (by decide) ?_
    have hu9 : (1 : Int32) = 0 ∨ (1 : Int32) = 1 := by decide
    obtain ⟨c9, s9, c8, n8, hp1, hp2, hrm, hfin⟩ := pick_ask hO hI hct hi9 (xs (6 * i + 1)) 1
    refine lv_aload_n hx hb d_La_law_578 rfl (lv_at hl 3 rfl) ?_
    have hGo579 := hG
    refine zk_i (zl_runS (n := 4) (As := [.ref xo, .int (xs (6 * i + 1)), .int 1, .ref out]) (rest := []) ⟨hx, hb, hml, hown, hts⟩ (t_La_ask_s l hoff hA hE0 hout hro (xs (6 * i + 1)) 1 hvz hn9 hI hu9 c9 s9 hp1) w_1001 w_1002 w_0 w_1003 (by decide +kernel) ⟨Nat.le_of_ble_eq_true rfl, Nat.le_of_ble_eq_true rfl⟩ (zc_pre hbase hK hN hQ hG hS) rfl rfl hl.1 rfl (lv_room (Nat.le_of_ble_eq_true rfl)) d_La_law_579 ⟨(by dsimp only [room_1]; omega), (by dsimp only [room_1]; omega)⟩) hS (fun r579 G579 H locs hp579 hG hS => ?_)
    obtain ⟨ro1, B1, r1, f1, hs1, hA1, hf1, ho1, hr1, he1⟩ := hp579
    have hE1 : G579 (E.2.2.2 0) = none := hQ.out hG
    have hO1 := hO.fr hf1 zKl_0 zKl_20 zKl_21
    obtain ⟨fs1, hmo1, -⟩ := hO1.cell
    refine lv_istore (lv' := [(5, .int r579), (0, .ref sc), (1, .ref xo), (2, .ref mo), (3, .ref out), (4, .int (nI (6 * i)))]) hx hb d_La_law_582 hl (by decide) rfl (fun ls hl => ?_)
    refine lv_aload_n hx hb d_La_law_584 rfl (lv_at hl 3 rfl) ?_
    refine lv_aload_n hx hb d_La_law_585 rfl (lv_at hl 1 rfl) ?_
    refine lv_iload hx hb d_La_law_586 (lv_at hl 5 rfl) ?_
    refine lv_iconst (v := 1) hx hb d_La_law_588 (by decide) ?_
    refine lv_iadd hx hb d_La_law_589 ?_
    refine zi_as (y := nI (6 * i + 1)) (nI_add (6 * i) 1) ?_
    refine va_sld hx hb hX hbl hbA hS (vp_in_nI (by omega) (by omega)) d_La_law_590 ?_
    refine zi_as (y := xs (6 * i + 1)) (by rw [zi_n _ (by omega)]) ?_
    refine lv_aload_n hx hb d_La_law_591 rfl (lv_at hl 1 rfl) ?_
    refine lv_iload hx hb d_La_law_592 (lv_at hl 5 rfl) ?_
    refine lv_iconst (v := 2) hx hb d_La_law_594 (by decide) ?_
    refine lv_iadd hx hb d_La_law_595 ?_
    refine zi_as (y := nI (6 * i + 2)) (nI_add (6 * i) 2) ?_
    refine va_sld hx hb hX hbl hbA hS (vp_in_nI (by omega) (by omega)) d_La_law_596 ?_
    refine zi_as (y := xs (6 * i + 2)) (by rw [zi_n _ (by omega)]) ?_
    refine lv_if_eq (tgt := 604) hx hb d_La_law_597 (by decide) (fun c597 => ?_) (fun c597 => ?_)
    · exact absurd c597 c570
    · refine lv_iconst (v := 1) hx hb d_La_law_600 (by decide) ?_
      refine lv_goto (tgt := 605) hx hb d_La_law_601 (by decide) ?_
      have hGo605 := hG
      refine zk_i (va_runV (As := [.int (xs (6 * i + 1)), .int 1]) (rest := []) ⟨hx, hb, hml, hown, hts⟩ (t_Mo_ask_a l hO1 (xs (6 * i + 1)) 1 hu9 hI.1 c8 n8 hp2) (zcV 2 hts w_1448 w_1449 w_1450 w_30 w_1451 (by decide +kernel) ⟨Nat.le_of_ble_eq_true rfl, Nat.le_of_ble_eq_true rfl⟩) (zc_preV hbase hK hN hQ hG hS hmo1 rfl) rfl rfl hl.1 rfl (lv_room (Nat.le_of_ble_eq_true rfl)) d_La_law_605 ⟨(by dsimp only [room_1]; omega), (by dsimp only [room_1]; omega)⟩) hS (fun r605 G605 H locs hp605 hG hS => ?_)
      obtain ⟨ro2, rs2, B2, k2, r2, d1, d2, hs2, he2, hO2, hf2, hm2⟩ := hp605
      have hE2 : G605 (E.2.2.2 0) = none := hQ.out hG
      obtain ⟨hk, hB, hr⟩ := sAsk_un (xs (6 * i + 1)) 1 _ _ _ _ _ _ hs1 hs2
      subst hB
      subst hk
      have hA2 := hA1.fr hf2 hE1 hE2 zKr_0 zKr_c
      obtain ⟨ho2, hr2⟩ := hf2 _ _ ho1 (by rw [hr1]; exact zKr_15)
      have hr2 := hr2.trans hr1
      obtain ⟨hI2, u2, g2, p2, q2, hct2, hug2⟩ := hfin _ _ _ _ _ _ hs1 hm2
      have hI2 := hI2 _ _ _ hO2
      obtain ⟨fs2, hmo2, -⟩ := hO2.cell
      have hR2 : zRl E G605 xo mo out (i + 1) (C + ((c9 + 10) + (c8 + 10))) (S + ((A.1.length + s9 + 20) + (n8 + 265))) := ⟨ro2, B1, rs2, d1, d2, r579, f1, u2, g2, p2, q2, hA2, hO2, ho2, hr2, hI2, hct2, by omega⟩
      refine lv_istore (lv' := [(6, .int r605), (5, .int r579), (0, .ref sc), (1, .ref xo), (2, .ref mo), (3, .ref out), (4, .int (nI (6 * i)))]) hx hb d_La_law_608 hl (by decide) rfl (fun ls hl => ?_)
      refine lv_aload_n hx hb d_La_law_610 rfl (lv_at hl 4 rfl) ?_
      refine zk_i (va_runV (As := []) (rest := []) ⟨hx, hb, hml, hown, hts⟩ (t_Mo_thrown_a l hO2) (zcV 0 hts w_1345 w_1346 w_1347 w_30 w_1348 (by decide +kernel) ⟨Nat.le_of_ble_eq_true rfl, Nat.le_of_ble_eq_true rfl⟩) (zc_preV hbase hK hN hQ hG hS hmo2 rfl) rfl rfl hl.1 rfl (lv_room (Nat.le_of_ble_eq_true rfl)) d_La_law_611 ⟨(by dsimp only [room_1]; omega), (by dsimp only [room_1]; omega)⟩) hS (fun r611 G611 H locs hp611 hG hS => ?_)
      have hG : zP E G605 H := hp611.2 ▸ hG
      refine zi_as (y := r579) hp611.1 ?_
      refine lv_iload hx hb d_La_law_614 (lv_at hl 1 rfl) ?_
      refine lv_icmp_eq (tgt := 621) hx hb d_La_law_616 (by decide) (fun c616 => ?_) (fun c616 => ?_)
      · refine lv_iload hx hb d_La_law_621 (lv_at hl 1 rfl) ?_
        refine lv_if_ne (tgt := 638) hx hb d_La_law_623 (by decide) (fun c623 => ?_) (fun c623 => ?_)
        · refine lv_goto (tgt := 926) hx hb d_La_law_638 (by decide) ?_
          refine zW_more (cells2 := C + ((c9 + 10) + (c8 + 10))) (slots2 := S + ((A.1.length + s9 + 20) + (n8 + 265))) (by dsimp only; omega) (by dsimp only; omega) ?_
          exact hback _ _ _ _ _ _ hR2 hG hS (lv_sub hl [2, 3, 4, 5, 6] rfl)
        · refine lv_aload_n hx hb d_La_law_626 rfl (lv_at hl 5 rfl) ?_
          refine lv_iconst (v := 0) hx hb d_La_law_627 (by decide) ?_
          refine zi_as (y := nI 0) (nI_0.symm) ?_
          refine zg_lald hx hb hK hG 2 ho2 rfl (vp_in_nI (by omega) (by omega)) d_La_law_628 ?_
          refine zl_as (y := r1.toInt64) (by rw [zi_n 0 (by decide)]; exact he1 c623) ?_
          refine lv_iload hx hb d_La_law_629 (lv_at hl 0 rfl) ?_
          refine lv_i2l hx hb d_La_law_631 rfl ?_
          refine W.lcmp hx hb d_La_law_632 ?_
          refine zi_as (y := 0) (by rw [hr c623, ← he2 c623]; exact zcmp0 _) ?_
          refine lv_if_eq (tgt := 638) hx hb d_La_law_633 (by decide) (fun c633 => ?_) (fun c633 => ?_)
          · have b633 : 0 = 0 := (nI_eq (a := 0) (b := 0) (by omega) (by omega)).mp c633
            refine lv_goto (tgt := 926) hx hb d_La_law_638 (by decide) ?_
            refine zW_more (cells2 := C + ((c9 + 10) + (c8 + 10))) (slots2 := S + ((A.1.length + s9 + 20) + (n8 + 265))) (by dsimp only; omega) (by dsimp only; omega) ?_
            exact hback _ _ _ _ _ _ hR2 hG hS (lv_sub hl [2, 3, 4, 5, 6] rfl)
          · have b633 : ¬ 0 = 0 := fun q => c633 ((nI_eq (a := 0) (b := 0) (by omega) (by omega)).mpr q)
            exact absurd rfl c633
      · exact absurd rfl c616
set_option maxHeartbeats 8000000 in
set_option maxRecDepth 100000 in
/-- the law's case 8: records -/
theorem lawc_records {p : Program} {e : Env} {s : State} {m : MethodId} {args : Array Value} {below : List Frame} {meth : Method} {c : Code} {Q : State → Prop} (l : Launch) (hoff : zl_off l) {E : zc_E} {sc L : Nat} {xs : Nat → Int32} (hx : p.tables.exec = Jvm.exec) (hb : c.code = c_La_law) (hml : c.maxLocals = 7) (hown : s.vm.findClass "ZoneAnswersLaw" = some m.cls) (hts : ∀ w ∈ zw, w.before args s = true) (hX : va_X sc L xs s s.heap) (hbl : sc < s.heap.size) (hbA : ¬ (fun q : Nat => zc_b E ≤ q) sc) (hbase : zc_b E ≤ s.heap.size) (hK : zK E s) (hN : zN zn s) (hQ : zQ E s s.heap) {xo mo out i C S : Nat} {Gv : zg_G} {H : Heap} {locs : List Loc} (hL : L ≤ 3072) (hi6 : 6 * i + 6 ≤ L) (hR : zRl E Gv xo mo out i C S) (hG : zP E Gv H) (hS : zg_S (zc_b E) s.heap H locs) {ls : Array Slot} (hl : lv_has ls 7 [(0, .ref sc), (1, .ref xo), (2, .ref mo), (3, .ref out), (4, .int (nI (6 * i)))]) (hback : ∀ (G2 : zg_G) (C2 S2 : Nat) (H2 : Heap) (locs2 : List Loc) (ls2 : Array Slot), zRl E G2 xo mo out (i + 1) C2 S2 → zP E G2 H2 → zg_S (zc_b E) s.heap H2 locs2 → lv_has ls2 7 [(0, .ref sc), (1, .ref xo), (2, .ref mo), (3, .ref out), (4, .int (nI (6 * i)))] → W p l e room_1 s m args below meth c H2 locs2 C2 S2 Q (F0 m 926 ls2 [])) : W p l e room_1 s m args below meth c H locs C S Q (F0 m 641 ls []) := by
  obtain ⟨ro, A, rs, c1, c2, th, fo, u, g, p9, q9, hA, hO, hout, hro, hI, hct, hug⟩ := hR
  have hE0 : Gv (E.2.2.2 0) = none := hQ.out hG
  have hvz : vsz A.2.1 rs.length := by rw [← hO.2]; exact vsz_r rs
  have hi9 : u + g ≤ 511 := by omega
  have hn3 := hct.nr hi9
  have hn9 : rs.length < 1000 := by omega
  have hb6 : zbg A.2.1 := fun x t p hp => Nat.lt_of_le_of_lt (hI.2.2.2.1 x t p hp) (by decide)
  have hrm := hct.rf (cC := 1) (cS := 6) hi9 (by decide) (by omega)
  refine lv_aload_n hx hb d_La_law_641 rfl (lv_at hl 1 rfl) ?_
  refine lv_aload_n hx hb d_La_law_642 rfl (lv_at hl 0 rfl) ?_
  refine lv_iload hx hb d_La_law_643 (lv_at hl 4 rfl) ?_
  refine lv_iconst (v := 1) hx hb d_La_law_645 (by decide) ?_
  refine lv_iadd hx hb d_La_law_646 ?_
  refine zi_as (y := nI (6 * i + 1)) (nI_add (6 * i) 1) ?_
  refine va_sld hx hb hX hbl hbA hS (vp_in_nI (by omega) (by omega)) d_La_law_647 ?_
  refine zi_as (y := xs (6 * i + 1)) (by rw [zi_n _ (by omega)]) ?_
  refine lv_aload_n hx hb d_La_law_648 rfl (lv_at hl 3 rfl) ?_
  have hGo649 := hG
  refine zk_i (zl_runS (n := 3) (As := [.ref xo, .int (xs (6 * i + 1)), .ref out]) (rest := []) ⟨hx, hb, hml, hown, hts⟩ (t_La_records_s l hoff hA hE0 hout hro (xs (6 * i + 1)) ) w_1197 w_1198 w_0 w_1199 (by decide +kernel) ⟨Nat.le_of_ble_eq_true rfl, Nat.le_of_ble_eq_true rfl⟩ (zc_pre hbase hK hN hQ hG hS) rfl rfl hl.1 rfl (lv_room (Nat.le_of_ble_eq_true rfl)) d_La_law_649 ⟨(by dsimp only [room_1]; omega), (by dsimp only [room_1]; omega)⟩) hS (fun r649 G649 H locs hp649 hG hS => ?_)
  obtain ⟨ro1, B1, r1, f1, hs1, hA1, hf1, ho1, hr1, he1⟩ := hp649
  have hE1 : G649 (E.2.2.2 0) = none := hQ.out hG
  have hO1 := hO.fr hf1 zKl_0 zKl_20 zKl_21
  obtain ⟨fs1, hmo1, -⟩ := hO1.cell
  refine lv_istore (lv' := [(5, .int r649), (0, .ref sc), (1, .ref xo), (2, .ref mo), (3, .ref out), (4, .int (nI (6 * i)))]) hx hb d_La_law_652 hl (by decide) rfl (fun ls hl => ?_)
  refine lv_aload_n hx hb d_La_law_654 rfl (lv_at hl 3 rfl) ?_
  refine lv_aload_n hx hb d_La_law_655 rfl (lv_at hl 1 rfl) ?_
  refine lv_iload hx hb d_La_law_656 (lv_at hl 5 rfl) ?_
  refine lv_iconst (v := 1) hx hb d_La_law_658 (by decide) ?_
  refine lv_iadd hx hb d_La_law_659 ?_
  refine zi_as (y := nI (6 * i + 1)) (nI_add (6 * i) 1) ?_
  refine va_sld hx hb hX hbl hbA hS (vp_in_nI (by omega) (by omega)) d_La_law_660 ?_
  refine zi_as (y := xs (6 * i + 1)) (by rw [zi_n _ (by omega)]) ?_
  have hGo661 := hG
  refine zk_i (va_runV (As := [.int (xs (6 * i + 1))]) (rest := []) ⟨hx, hb, hml, hown, hts⟩ (t_Mo_records_a l hO1 (xs (6 * i + 1)) ) (zcV 1 hts w_1576 w_1577 w_1578 w_30 w_1579 (by decide +kernel) ⟨Nat.le_of_ble_eq_true rfl, Nat.le_of_ble_eq_true rfl⟩) (zc_preV hbase hK hN hQ hG hS hmo1 rfl) rfl rfl hl.1 rfl (lv_room (Nat.le_of_ble_eq_true rfl)) d_La_law_661 ⟨(by dsimp only [room_1]; omega), (by dsimp only [room_1]; omega)⟩) hS (fun r661 G661 H locs hp661 hG hS => ?_)
  obtain ⟨ro2, rs2, B2, k2, r2, hs2, he2, hO2, hf2, hW2, hm2⟩ := hp661
  have hE2 : G661 (E.2.2.2 0) = none := hQ.out hG
  obtain ⟨hk, hB, hr⟩ := sRcs_un (xs (6 * i + 1)) _ _ _ _ _ _ hs1 hs2
  subst hB
  subst hk
  have hA2 := hA1.fr hf2 hE1 hE2 zKr_0 zKr_c
  obtain ⟨ho2, hr2⟩ := hf2 _ _ ho1 (by rw [hr1]; exact zKr_15)
  have hr2 := hr2.trans hr1
  obtain ⟨⟨u2, g2, p2, q2, hct2, hug2⟩, hI2⟩ := aft_id (cC := 1) (cS := 6) hct hI (by decide) (by omega) (sRcs_id hs1) hm2
  obtain ⟨fs2, hmo2, -⟩ := hO2.cell
  have hR2 : zRl E G661 xo mo out (i + 1) (C + (1)) (S + (6)) := ⟨ro2, B1, rs2, c1, c2, r649, f1, u2, g2, p2, q2, hA2, hO2, ho2, hr2, hI2, hct2, by omega⟩
  refine lv_istore (lv' := [(6, .int r661), (5, .int r649), (0, .ref sc), (1, .ref xo), (2, .ref mo), (3, .ref out), (4, .int (nI (6 * i)))]) hx hb d_La_law_664 hl (by decide) rfl (fun ls hl => ?_)
  refine lv_aload_n hx hb d_La_law_666 rfl (lv_at hl 4 rfl) ?_
  refine zk_i (va_runV (As := []) (rest := []) ⟨hx, hb, hml, hown, hts⟩ (t_Mo_thrown_a l hO2) (zcV 0 hts w_1345 w_1346 w_1347 w_30 w_1348 (by decide +kernel) ⟨Nat.le_of_ble_eq_true rfl, Nat.le_of_ble_eq_true rfl⟩) (zc_preV hbase hK hN hQ hG hS hmo2 rfl) rfl rfl hl.1 rfl (lv_room (Nat.le_of_ble_eq_true rfl)) d_La_law_667 ⟨(by dsimp only [room_1]; omega), (by dsimp only [room_1]; omega)⟩) hS (fun r667 G667 H locs hp667 hG hS => ?_)
  have hG : zP E G661 H := hp667.2 ▸ hG
  refine zi_as (y := r649) hp667.1 ?_
  refine lv_iload hx hb d_La_law_670 (lv_at hl 1 rfl) ?_
  refine lv_icmp_eq (tgt := 677) hx hb d_La_law_672 (by decide) (fun c672 => ?_) (fun c672 => ?_)
  · refine lv_iload hx hb d_La_law_677 (lv_at hl 1 rfl) ?_
    refine lv_if_ne (tgt := 694) hx hb d_La_law_679 (by decide) (fun c679 => ?_) (fun c679 => ?_)
    · refine lv_goto (tgt := 926) hx hb d_La_law_694 (by decide) ?_
      refine zW_more (cells2 := C + (1)) (slots2 := S + (6)) (by dsimp only; omega) (by dsimp only; omega) ?_
      exact hback _ _ _ _ _ _ hR2 hG hS (lv_sub hl [2, 3, 4, 5, 6] rfl)
    · refine lv_aload_n hx hb d_La_law_682 rfl (lv_at hl 5 rfl) ?_
      refine lv_iconst (v := 0) hx hb d_La_law_683 (by decide) ?_
      refine zi_as (y := nI 0) (nI_0.symm) ?_
      refine zg_lald hx hb hK hG 2 ho2 rfl (vp_in_nI (by omega) (by omega)) d_La_law_684 ?_
      refine zl_as (y := r1.toInt64) (by rw [zi_n 0 (by decide)]; exact he1 c679) ?_
      refine lv_iload hx hb d_La_law_685 (lv_at hl 0 rfl) ?_
      refine lv_i2l hx hb d_La_law_687 rfl ?_
      refine W.lcmp hx hb d_La_law_688 ?_
      refine zi_as (y := 0) (by rw [hr c679, ← he2 c679]; exact zcmp0 _) ?_
      refine lv_if_eq (tgt := 694) hx hb d_La_law_689 (by decide) (fun c689 => ?_) (fun c689 => ?_)
      · have b689 : 0 = 0 := (nI_eq (a := 0) (b := 0) (by omega) (by omega)).mp c689
        refine lv_goto (tgt := 926) hx hb d_La_law_694 (by decide) ?_
        refine zW_more (cells2 := C + (1)) (slots2 := S + (6)) (by dsimp only; omega) (by dsimp only; omega) ?_
        exact hback _ _ _ _ _ _ hR2 hG hS (lv_sub hl [2, 3, 4, 5, 6] rfl)
      · have b689 : ¬ 0 = 0 := fun q => c689 ((nI_eq (a := 0) (b := 0) (by omega) (by omega)).mpr q)
        exact absurd rfl c689
  · exact absurd rfl c672
set_option maxHeartbeats 8000000 in
set_option maxRecDepth 100000 in
/-- the law's case 9: told -/
theorem lawc_told {p : Program} {e : Env} {s : State} {m : MethodId} {args : Array Value} {below : List Frame} {meth : Method} {c : Code} {Q : State → Prop} (l : Launch) (hoff : zl_off l) {E : zc_E} {sc L : Nat} {xs : Nat → Int32} (hx : p.tables.exec = Jvm.exec) (hb : c.code = c_La_law) (hml : c.maxLocals = 7) (hown : s.vm.findClass "ZoneAnswersLaw" = some m.cls) (hts : ∀ w ∈ zw, w.before args s = true) (hX : va_X sc L xs s s.heap) (hbl : sc < s.heap.size) (hbA : ¬ (fun q : Nat => zc_b E ≤ q) sc) (hbase : zc_b E ≤ s.heap.size) (hK : zK E s) (hN : zN zn s) (hQ : zQ E s s.heap) {xo mo out i C S : Nat} {Gv : zg_G} {H : Heap} {locs : List Loc} (hL : L ≤ 3072) (hi6 : 6 * i + 6 ≤ L) (hR : zRl E Gv xo mo out i C S) (hG : zP E Gv H) (hS : zg_S (zc_b E) s.heap H locs) {ls : Array Slot} (hl : lv_has ls 7 [(0, .ref sc), (1, .ref xo), (2, .ref mo), (3, .ref out), (4, .int (nI (6 * i)))]) (hback : ∀ (G2 : zg_G) (C2 S2 : Nat) (H2 : Heap) (locs2 : List Loc) (ls2 : Array Slot), zRl E G2 xo mo out (i + 1) C2 S2 → zP E G2 H2 → zg_S (zc_b E) s.heap H2 locs2 → lv_has ls2 7 [(0, .ref sc), (1, .ref xo), (2, .ref mo), (3, .ref out), (4, .int (nI (6 * i)))] → W p l e room_1 s m args below meth c H2 locs2 C2 S2 Q (F0 m 926 ls2 [])) : W p l e room_1 s m args below meth c H locs C S Q (F0 m 697 ls []) := by
  obtain ⟨ro, A, rs, c1, c2, th, fo, u, g, p9, q9, hA, hO, hout, hro, hI, hct, hug⟩ := hR
  have hE0 : Gv (E.2.2.2 0) = none := hQ.out hG
  have hvz : vsz A.2.1 rs.length := by rw [← hO.2]; exact vsz_r rs
  have hi9 : u + g ≤ 511 := by omega
  have hn3 := hct.nr hi9
  have hn9 : rs.length < 1000 := by omega
  have hb6 : zbg A.2.1 := fun x t p hp => Nat.lt_of_le_of_lt (hI.2.2.2.1 x t p hp) (by decide)
  have hrm := hct.rf (cC := 1) (cS := 6) hi9 (by decide) (by omega)
  refine lv_aload_n hx hb d_La_law_697 rfl (lv_at hl 1 rfl) ?_
  refine lv_aload_n hx hb d_La_law_698 rfl (lv_at hl 0 rfl) ?_
  refine lv_iload hx hb d_La_law_699 (lv_at hl 4 rfl) ?_
  refine lv_iconst (v := 1) hx hb d_La_law_701 (by decide) ?_
  refine lv_iadd hx hb d_La_law_702 ?_
  refine zi_as (y := nI (6 * i + 1)) (nI_add (6 * i) 1) ?_
  refine va_sld hx hb hX hbl hbA hS (vp_in_nI (by omega) (by omega)) d_La_law_703 ?_
  refine zi_as (y := xs (6 * i + 1)) (by rw [zi_n _ (by omega)]) ?_
  refine lv_aload_n hx hb d_La_law_704 rfl (lv_at hl 0 rfl) ?_
  refine lv_iload hx hb d_La_law_705 (lv_at hl 4 rfl) ?_
  refine lv_iconst (v := 2) hx hb d_La_law_707 (by decide) ?_
  refine lv_iadd hx hb d_La_law_708 ?_
  refine zi_as (y := nI (6 * i + 2)) (nI_add (6 * i) 2) ?_
  refine va_sld hx hb hX hbl hbA hS (vp_in_nI (by omega) (by omega)) d_La_law_709 ?_
  refine zi_as (y := xs (6 * i + 2)) (by rw [zi_n _ (by omega)]) ?_
  refine lv_aload_n hx hb d_La_law_710 rfl (lv_at hl 0 rfl) ?_
  refine lv_iload hx hb d_La_law_711 (lv_at hl 4 rfl) ?_
  refine lv_iconst (v := 3) hx hb d_La_law_713 (by decide) ?_
  refine lv_iadd hx hb d_La_law_714 ?_
  refine zi_as (y := nI (6 * i + 3)) (nI_add (6 * i) 3) ?_
  refine va_sld hx hb hX hbl hbA hS (vp_in_nI (by omega) (by omega)) d_La_law_715 ?_
  refine zi_as (y := xs (6 * i + 3)) (by rw [zi_n _ (by omega)]) ?_
  refine lv_aload_n hx hb d_La_law_716 rfl (lv_at hl 3 rfl) ?_
  have hGo717 := hG
  refine zk_i (zl_runS (n := 5) (As := [.ref xo, .int (xs (6 * i + 1)), .int (xs (6 * i + 2)), .int (xs (6 * i + 3)), .ref out]) (rest := []) ⟨hx, hb, hml, hown, hts⟩ (t_La_told_s l hoff hA hE0 hout hro (xs (6 * i + 1)) (xs (6 * i + 2)) (xs (6 * i + 3)) hI) w_1209 w_1210 w_0 w_1211 (by decide +kernel) ⟨Nat.le_of_ble_eq_true rfl, Nat.le_of_ble_eq_true rfl⟩ (zc_pre hbase hK hN hQ hG hS) rfl rfl hl.1 rfl (lv_room (Nat.le_of_ble_eq_true rfl)) d_La_law_717 ⟨(by dsimp only [room_1]; omega), (by dsimp only [room_1]; omega)⟩) hS (fun r717 G717 H locs hp717 hG hS => ?_)
  obtain ⟨ro1, B1, r1, f1, hs1, hA1, hf1, ho1, hr1, he1⟩ := hp717
  have hE1 : G717 (E.2.2.2 0) = none := hQ.out hG
  have hO1 := hO.fr hf1 zKl_0 zKl_20 zKl_21
  obtain ⟨fs1, hmo1, -⟩ := hO1.cell
  refine lv_istore (lv' := [(5, .int r717), (0, .ref sc), (1, .ref xo), (2, .ref mo), (3, .ref out), (4, .int (nI (6 * i)))]) hx hb d_La_law_720 hl (by decide) rfl (fun ls hl => ?_)
  refine lv_aload_n hx hb d_La_law_722 rfl (lv_at hl 3 rfl) ?_
  refine lv_aload_n hx hb d_La_law_723 rfl (lv_at hl 1 rfl) ?_
  refine lv_iload hx hb d_La_law_724 (lv_at hl 5 rfl) ?_
  refine lv_iconst (v := 1) hx hb d_La_law_726 (by decide) ?_
  refine lv_iadd hx hb d_La_law_727 ?_
  refine zi_as (y := nI (6 * i + 1)) (nI_add (6 * i) 1) ?_
  refine va_sld hx hb hX hbl hbA hS (vp_in_nI (by omega) (by omega)) d_La_law_728 ?_
  refine zi_as (y := xs (6 * i + 1)) (by rw [zi_n _ (by omega)]) ?_
  refine lv_aload_n hx hb d_La_law_729 rfl (lv_at hl 1 rfl) ?_
  refine lv_iload hx hb d_La_law_730 (lv_at hl 5 rfl) ?_
  refine lv_iconst (v := 2) hx hb d_La_law_732 (by decide) ?_
  refine lv_iadd hx hb d_La_law_733 ?_
  refine zi_as (y := nI (6 * i + 2)) (nI_add (6 * i) 2) ?_
  refine va_sld hx hb hX hbl hbA hS (vp_in_nI (by omega) (by omega)) d_La_law_734 ?_
  refine zi_as (y := xs (6 * i + 2)) (by rw [zi_n _ (by omega)]) ?_
  refine lv_aload_n hx hb d_La_law_735 rfl (lv_at hl 1 rfl) ?_
  refine lv_iload hx hb d_La_law_736 (lv_at hl 5 rfl) ?_
  refine lv_iconst (v := 3) hx hb d_La_law_738 (by decide) ?_
  refine lv_iadd hx hb d_La_law_739 ?_
  refine zi_as (y := nI (6 * i + 3)) (nI_add (6 * i) 3) ?_
  refine va_sld hx hb hX hbl hbA hS (vp_in_nI (by omega) (by omega)) d_La_law_740 ?_
  refine zi_as (y := xs (6 * i + 3)) (by rw [zi_n _ (by omega)]) ?_
  have hGo741 := hG
  refine zk_i (va_runV (As := [.int (xs (6 * i + 1)), .int (xs (6 * i + 2)), .int (xs (6 * i + 3))]) (rest := []) ⟨hx, hb, hml, hown, hts⟩ (t_Mo_told_a l hO1 (xs (6 * i + 1)) (xs (6 * i + 2)) (xs (6 * i + 3)) ) (zcV 3 hts w_1580 w_1581 w_1582 w_30 w_1583 (by decide +kernel) ⟨Nat.le_of_ble_eq_true rfl, Nat.le_of_ble_eq_true rfl⟩) (zc_preV hbase hK hN hQ hG hS hmo1 rfl) rfl rfl hl.1 rfl (lv_room (Nat.le_of_ble_eq_true rfl)) d_La_law_741 ⟨(by dsimp only [room_1]; omega), (by dsimp only [room_1]; omega)⟩) hS (fun r741 G741 H locs hp741 hG hS => ?_)
  obtain ⟨ro2, rs2, B2, k2, r2, hs2, he2, hO2, hf2, hW2, hm2⟩ := hp741
  have hE2 : G741 (E.2.2.2 0) = none := hQ.out hG
  obtain ⟨hk, hB, hr⟩ := sTld_un hI.2.2.2.2.1 (xs (6 * i + 1)) (xs (6 * i + 2)) (xs (6 * i + 3)) _ _ _ _ _ _ hs1 hs2
  subst hB
  subst hk
  have hA2 := hA1.fr hf2 hE1 hE2 zKr_0 zKr_c
  obtain ⟨ho2, hr2⟩ := hf2 _ _ ho1 (by rw [hr1]; exact zKr_15)
  have hr2 := hr2.trans hr1
  obtain ⟨⟨u2, g2, p2, q2, hct2, hug2⟩, hI2⟩ := aft_id (cC := 1) (cS := 6) hct hI (by decide) (by omega) (sTld_id hs1) hm2
  obtain ⟨fs2, hmo2, -⟩ := hO2.cell
  have hR2 : zRl E G741 xo mo out (i + 1) (C + (1)) (S + (6)) := ⟨ro2, B1, rs2, c1, c2, r717, f1, u2, g2, p2, q2, hA2, hO2, ho2, hr2, hI2, hct2, by omega⟩
  refine lv_istore (lv' := [(6, .int r741), (5, .int r717), (0, .ref sc), (1, .ref xo), (2, .ref mo), (3, .ref out), (4, .int (nI (6 * i)))]) hx hb d_La_law_744 hl (by decide) rfl (fun ls hl => ?_)
  refine lv_aload_n hx hb d_La_law_746 rfl (lv_at hl 4 rfl) ?_
  refine zk_i (va_runV (As := []) (rest := []) ⟨hx, hb, hml, hown, hts⟩ (t_Mo_thrown_a l hO2) (zcV 0 hts w_1345 w_1346 w_1347 w_30 w_1348 (by decide +kernel) ⟨Nat.le_of_ble_eq_true rfl, Nat.le_of_ble_eq_true rfl⟩) (zc_preV hbase hK hN hQ hG hS hmo2 rfl) rfl rfl hl.1 rfl (lv_room (Nat.le_of_ble_eq_true rfl)) d_La_law_747 ⟨(by dsimp only [room_1]; omega), (by dsimp only [room_1]; omega)⟩) hS (fun r747 G747 H locs hp747 hG hS => ?_)
  have hG : zP E G741 H := hp747.2 ▸ hG
  refine zi_as (y := r717) hp747.1 ?_
  refine lv_iload hx hb d_La_law_750 (lv_at hl 1 rfl) ?_
  refine lv_icmp_eq (tgt := 757) hx hb d_La_law_752 (by decide) (fun c752 => ?_) (fun c752 => ?_)
  · refine lv_iload hx hb d_La_law_757 (lv_at hl 1 rfl) ?_
    refine lv_if_ne (tgt := 774) hx hb d_La_law_759 (by decide) (fun c759 => ?_) (fun c759 => ?_)
    · refine lv_goto (tgt := 926) hx hb d_La_law_774 (by decide) ?_
      refine zW_more (cells2 := C + (1)) (slots2 := S + (6)) (by dsimp only; omega) (by dsimp only; omega) ?_
      exact hback _ _ _ _ _ _ hR2 hG hS (lv_sub hl [2, 3, 4, 5, 6] rfl)
    · refine lv_aload_n hx hb d_La_law_762 rfl (lv_at hl 5 rfl) ?_
      refine lv_iconst (v := 0) hx hb d_La_law_763 (by decide) ?_
      refine zi_as (y := nI 0) (nI_0.symm) ?_
      refine zg_lald hx hb hK hG 2 ho2 rfl (vp_in_nI (by omega) (by omega)) d_La_law_764 ?_
      refine zl_as (y := r1.toInt64) (by rw [zi_n 0 (by decide)]; exact he1 c759) ?_
      refine lv_iload hx hb d_La_law_765 (lv_at hl 0 rfl) ?_
      refine lv_i2l hx hb d_La_law_767 rfl ?_
      refine W.lcmp hx hb d_La_law_768 ?_
      refine zi_as (y := 0) (by rw [hr c759, ← he2 c759]; exact zcmp0 _) ?_
      refine lv_if_eq (tgt := 774) hx hb d_La_law_769 (by decide) (fun c769 => ?_) (fun c769 => ?_)
      · have b769 : 0 = 0 := (nI_eq (a := 0) (b := 0) (by omega) (by omega)).mp c769
        refine lv_goto (tgt := 926) hx hb d_La_law_774 (by decide) ?_
        refine zW_more (cells2 := C + (1)) (slots2 := S + (6)) (by dsimp only; omega) (by dsimp only; omega) ?_
        exact hback _ _ _ _ _ _ hR2 hG hS (lv_sub hl [2, 3, 4, 5, 6] rfl)
      · have b769 : ¬ 0 = 0 := fun q => c769 ((nI_eq (a := 0) (b := 0) (by omega) (by omega)).mpr q)
        exact absurd rfl c769
  · exact absurd rfl c752
set_option maxHeartbeats 8000000 in
set_option maxRecDepth 100000 in
/-- the law's case 10: byteOf -/
theorem lawc_byteOf {p : Program} {e : Env} {s : State} {m : MethodId} {args : Array Value} {below : List Frame} {meth : Method} {c : Code} {Q : State → Prop} (l : Launch) (hoff : zl_off l) {E : zc_E} {sc L : Nat} {xs : Nat → Int32} (hx : p.tables.exec = Jvm.exec) (hb : c.code = c_La_law) (hml : c.maxLocals = 7) (hown : s.vm.findClass "ZoneAnswersLaw" = some m.cls) (hts : ∀ w ∈ zw, w.before args s = true) (hX : va_X sc L xs s s.heap) (hbl : sc < s.heap.size) (hbA : ¬ (fun q : Nat => zc_b E ≤ q) sc) (hbase : zc_b E ≤ s.heap.size) (hK : zK E s) (hN : zN zn s) (hQ : zQ E s s.heap) {xo mo out i C S : Nat} {Gv : zg_G} {H : Heap} {locs : List Loc} (hL : L ≤ 3072) (hi6 : 6 * i + 6 ≤ L) (hR : zRl E Gv xo mo out i C S) (hG : zP E Gv H) (hS : zg_S (zc_b E) s.heap H locs) {ls : Array Slot} (hl : lv_has ls 7 [(0, .ref sc), (1, .ref xo), (2, .ref mo), (3, .ref out), (4, .int (nI (6 * i)))]) (hback : ∀ (G2 : zg_G) (C2 S2 : Nat) (H2 : Heap) (locs2 : List Loc) (ls2 : Array Slot), zRl E G2 xo mo out (i + 1) C2 S2 → zP E G2 H2 → zg_S (zc_b E) s.heap H2 locs2 → lv_has ls2 7 [(0, .ref sc), (1, .ref xo), (2, .ref mo), (3, .ref out), (4, .int (nI (6 * i)))] → W p l e room_1 s m args below meth c H2 locs2 C2 S2 Q (F0 m 926 ls2 [])) : W p l e room_1 s m args below meth c H locs C S Q (F0 m 777 ls []) := by
  obtain ⟨ro, A, rs, c1, c2, th, fo, u, g, p9, q9, hA, hO, hout, hro, hI, hct, hug⟩ := hR
  have hE0 : Gv (E.2.2.2 0) = none := hQ.out hG
  have hvz : vsz A.2.1 rs.length := by rw [← hO.2]; exact vsz_r rs
  have hi9 : u + g ≤ 511 := by omega
  have hn3 := hct.nr hi9
  have hn9 : rs.length < 1000 := by omega
  have hb6 : zbg A.2.1 := fun x t p hp => Nat.lt_of_le_of_lt (hI.2.2.2.1 x t p hp) (by decide)
  have hbd9 : ∀ e, wrw (xs (6 * i + 1)) (xs (6 * i + 2)) A.2.2.2 e → (bAll e).length < 2 ^ 30 := fun e he => by have h1 := (hA.nm he).2; have h2 := wDt_rw hI.2.2.2.2.2 he; unfold bAll; rw [List.length_append, np_enc_len]; omega
  have hrm := hct.rf (cC := 1) (cS := 6) hi9 (by decide) (by omega)
  refine lv_aload_n hx hb d_La_law_777 rfl (lv_at hl 1 rfl) ?_
  refine lv_aload_n hx hb d_La_law_778 rfl (lv_at hl 0 rfl) ?_
  refine lv_iload hx hb d_La_law_779 (lv_at hl 4 rfl) ?_
  refine lv_iconst (v := 1) hx hb d_La_law_781 (by decide) ?_
  refine lv_iadd hx hb d_La_law_782 ?_
  refine zi_as (y := nI (6 * i + 1)) (nI_add (6 * i) 1) ?_
  refine va_sld hx hb hX hbl hbA hS (vp_in_nI (by omega) (by omega)) d_La_law_783 ?_
  refine zi_as (y := xs (6 * i + 1)) (by rw [zi_n _ (by omega)]) ?_
  refine lv_aload_n hx hb d_La_law_784 rfl (lv_at hl 0 rfl) ?_
  refine lv_iload hx hb d_La_law_785 (lv_at hl 4 rfl) ?_
  refine lv_iconst (v := 2) hx hb d_La_law_787 (by decide) ?_
  refine lv_iadd hx hb d_La_law_788 ?_
  refine zi_as (y := nI (6 * i + 2)) (nI_add (6 * i) 2) ?_
  refine va_sld hx hb hX hbl hbA hS (vp_in_nI (by omega) (by omega)) d_La_law_789 ?_
  refine zi_as (y := xs (6 * i + 2)) (by rw [zi_n _ (by omega)]) ?_
  refine lv_aload_n hx hb d_La_law_790 rfl (lv_at hl 0 rfl) ?_
  refine lv_iload hx hb d_La_law_791 (lv_at hl 4 rfl) ?_
  refine lv_iconst (v := 3) hx hb d_La_law_793 (by decide) ?_
  refine lv_iadd hx hb d_La_law_794 ?_
  refine zi_as (y := nI (6 * i + 3)) (nI_add (6 * i) 3) ?_
  refine va_sld hx hb hX hbl hbA hS (vp_in_nI (by omega) (by omega)) d_La_law_795 ?_
  refine zi_as (y := xs (6 * i + 3)) (by rw [zi_n _ (by omega)]) ?_
  refine lv_aload_n hx hb d_La_law_796 rfl (lv_at hl 3 rfl) ?_
  have hGo797 := hG
  refine zk_i (zl_runS (n := 5) (As := [.ref xo, .int (xs (6 * i + 1)), .int (xs (6 * i + 2)), .int (xs (6 * i + 3)), .ref out]) (rest := []) ⟨hx, hb, hml, hown, hts⟩ (t_La_byteOf_s l hoff hA hE0 hout hro (xs (6 * i + 1)) (xs (6 * i + 2)) (xs (6 * i + 3)) hI) w_1222 w_1223 w_0 w_1224 (by decide +kernel) ⟨Nat.le_of_ble_eq_true rfl, Nat.le_of_ble_eq_true rfl⟩ (zc_pre hbase hK hN hQ hG hS) rfl rfl hl.1 rfl (lv_room (Nat.le_of_ble_eq_true rfl)) d_La_law_797 ⟨(by dsimp only [room_1]; omega), (by dsimp only [room_1]; omega)⟩) hS (fun r797 G797 H locs hp797 hG hS => ?_)
  obtain ⟨ro1, B1, r1, f1, hs1, hA1, hf1, ho1, hr1, he1⟩ := hp797
  have hE1 : G797 (E.2.2.2 0) = none := hQ.out hG
  have hO1 := hO.fr hf1 zKl_0 zKl_20 zKl_21
  obtain ⟨fs1, hmo1, -⟩ := hO1.cell
  refine lv_istore (lv' := [(5, .int r797), (0, .ref sc), (1, .ref xo), (2, .ref mo), (3, .ref out), (4, .int (nI (6 * i)))]) hx hb d_La_law_800 hl (by decide) rfl (fun ls hl => ?_)
  refine lv_aload_n hx hb d_La_law_802 rfl (lv_at hl 3 rfl) ?_
  refine lv_aload_n hx hb d_La_law_803 rfl (lv_at hl 1 rfl) ?_
  refine lv_iload hx hb d_La_law_804 (lv_at hl 5 rfl) ?_
  refine lv_iconst (v := 1) hx hb d_La_law_806 (by decide) ?_
  refine lv_iadd hx hb d_La_law_807 ?_
  refine zi_as (y := nI (6 * i + 1)) (nI_add (6 * i) 1) ?_
  refine va_sld hx hb hX hbl hbA hS (vp_in_nI (by omega) (by omega)) d_La_law_808 ?_
  refine zi_as (y := xs (6 * i + 1)) (by rw [zi_n _ (by omega)]) ?_
  refine lv_aload_n hx hb d_La_law_809 rfl (lv_at hl 1 rfl) ?_
  refine lv_iload hx hb d_La_law_810 (lv_at hl 5 rfl) ?_
  refine lv_iconst (v := 2) hx hb d_La_law_812 (by decide) ?_
  refine lv_iadd hx hb d_La_law_813 ?_
  refine zi_as (y := nI (6 * i + 2)) (nI_add (6 * i) 2) ?_
  refine va_sld hx hb hX hbl hbA hS (vp_in_nI (by omega) (by omega)) d_La_law_814 ?_
  refine zi_as (y := xs (6 * i + 2)) (by rw [zi_n _ (by omega)]) ?_
  refine lv_aload_n hx hb d_La_law_815 rfl (lv_at hl 1 rfl) ?_
  refine lv_iload hx hb d_La_law_816 (lv_at hl 5 rfl) ?_
  refine lv_iconst (v := 3) hx hb d_La_law_818 (by decide) ?_
  refine lv_iadd hx hb d_La_law_819 ?_
  refine zi_as (y := nI (6 * i + 3)) (nI_add (6 * i) 3) ?_
  refine va_sld hx hb hX hbl hbA hS (vp_in_nI (by omega) (by omega)) d_La_law_820 ?_
  refine zi_as (y := xs (6 * i + 3)) (by rw [zi_n _ (by omega)]) ?_
  have hGo821 := hG
  refine zk_i (va_runV (As := [.int (xs (6 * i + 1)), .int (xs (6 * i + 2)), .int (xs (6 * i + 3))]) (rest := []) ⟨hx, hb, hml, hown, hts⟩ (t_Mo_byteOf_a l hO1 (xs (6 * i + 1)) (xs (6 * i + 2)) (xs (6 * i + 3)) hI) (zcV 3 hts w_1588 w_1589 w_1590 w_30 w_1591 (by decide +kernel) ⟨Nat.le_of_ble_eq_true rfl, Nat.le_of_ble_eq_true rfl⟩) (zc_preV hbase hK hN hQ hG hS hmo1 rfl) rfl rfl hl.1 rfl (lv_room (Nat.le_of_ble_eq_true rfl)) d_La_law_821 ⟨(by dsimp only [room_1]; omega), (by dsimp only [room_1]; omega)⟩) hS (fun r821 G821 H locs hp821 hG hS => ?_)
  obtain ⟨ro2, rs2, B2, k2, r2, hs2, he2, hO2, hf2, hW2, hm2⟩ := hp821
  have hE2 : G821 (E.2.2.2 0) = none := hQ.out hG
  obtain ⟨hk, hB, hr⟩ := sByt_un hI.2.2.2.2.1 (xs (6 * i + 1)) (xs (6 * i + 2)) (xs (6 * i + 3)) hbd9 _ _ _ _ _ _ hs1 hs2
  subst hB
  subst hk
  have hA2 := hA1.fr hf2 hE1 hE2 zKr_0 zKr_c
  obtain ⟨ho2, hr2⟩ := hf2 _ _ ho1 (by rw [hr1]; exact zKr_15)
  have hr2 := hr2.trans hr1
  obtain ⟨⟨u2, g2, p2, q2, hct2, hug2⟩, hI2⟩ := aft_id (cC := 1) (cS := 6) hct hI (by decide) (by omega) (sByt_id hs1) hm2
  obtain ⟨fs2, hmo2, -⟩ := hO2.cell
  have hR2 : zRl E G821 xo mo out (i + 1) (C + (1)) (S + (6)) := ⟨ro2, B1, rs2, c1, c2, r797, f1, u2, g2, p2, q2, hA2, hO2, ho2, hr2, hI2, hct2, by omega⟩
  refine lv_istore (lv' := [(6, .int r821), (5, .int r797), (0, .ref sc), (1, .ref xo), (2, .ref mo), (3, .ref out), (4, .int (nI (6 * i)))]) hx hb d_La_law_824 hl (by decide) rfl (fun ls hl => ?_)
  refine lv_aload_n hx hb d_La_law_826 rfl (lv_at hl 4 rfl) ?_
  refine zk_i (va_runV (As := []) (rest := []) ⟨hx, hb, hml, hown, hts⟩ (t_Mo_thrown_a l hO2) (zcV 0 hts w_1345 w_1346 w_1347 w_30 w_1348 (by decide +kernel) ⟨Nat.le_of_ble_eq_true rfl, Nat.le_of_ble_eq_true rfl⟩) (zc_preV hbase hK hN hQ hG hS hmo2 rfl) rfl rfl hl.1 rfl (lv_room (Nat.le_of_ble_eq_true rfl)) d_La_law_827 ⟨(by dsimp only [room_1]; omega), (by dsimp only [room_1]; omega)⟩) hS (fun r827 G827 H locs hp827 hG hS => ?_)
  have hG : zP E G821 H := hp827.2 ▸ hG
  refine zi_as (y := r797) hp827.1 ?_
  refine lv_iload hx hb d_La_law_830 (lv_at hl 1 rfl) ?_
  refine lv_icmp_eq (tgt := 837) hx hb d_La_law_832 (by decide) (fun c832 => ?_) (fun c832 => ?_)
  · refine lv_iload hx hb d_La_law_837 (lv_at hl 1 rfl) ?_
    refine lv_if_ne (tgt := 854) hx hb d_La_law_839 (by decide) (fun c839 => ?_) (fun c839 => ?_)
    · refine lv_goto (tgt := 926) hx hb d_La_law_854 (by decide) ?_
      refine zW_more (cells2 := C + (1)) (slots2 := S + (6)) (by dsimp only; omega) (by dsimp only; omega) ?_
      exact hback _ _ _ _ _ _ hR2 hG hS (lv_sub hl [2, 3, 4, 5, 6] rfl)
    · refine lv_aload_n hx hb d_La_law_842 rfl (lv_at hl 5 rfl) ?_
      refine lv_iconst (v := 0) hx hb d_La_law_843 (by decide) ?_
      refine zi_as (y := nI 0) (nI_0.symm) ?_
      refine zg_lald hx hb hK hG 2 ho2 rfl (vp_in_nI (by omega) (by omega)) d_La_law_844 ?_
      refine zl_as (y := r1.toInt64) (by rw [zi_n 0 (by decide)]; exact he1 c839) ?_
      refine lv_iload hx hb d_La_law_845 (lv_at hl 0 rfl) ?_
      refine lv_i2l hx hb d_La_law_847 rfl ?_
      refine W.lcmp hx hb d_La_law_848 ?_
      refine zi_as (y := 0) (by rw [hr c839, ← he2 c839]; exact zcmp0 _) ?_
      refine lv_if_eq (tgt := 854) hx hb d_La_law_849 (by decide) (fun c849 => ?_) (fun c849 => ?_)
      · have b849 : 0 = 0 := (nI_eq (a := 0) (b := 0) (by omega) (by omega)).mp c849
        refine lv_goto (tgt := 926) hx hb d_La_law_854 (by decide) ?_
        refine zW_more (cells2 := C + (1)) (slots2 := S + (6)) (by dsimp only; omega) (by dsimp only; omega) ?_
        exact hback _ _ _ _ _ _ hR2 hG hS (lv_sub hl [2, 3, 4, 5, 6] rfl)
      · have b849 : ¬ 0 = 0 := fun q => c849 ((nI_eq (a := 0) (b := 0) (by omega) (by omega)).mpr q)
        exact absurd rfl c849
  · exact absurd rfl c832
set_option maxHeartbeats 8000000 in
set_option maxRecDepth 100000 in
/-- the law's case 11: state -/
theorem lawc_state {p : Program} {e : Env} {s : State} {m : MethodId} {args : Array Value} {below : List Frame} {meth : Method} {c : Code} {Q : State → Prop} (l : Launch) (hoff : zl_off l) {E : zc_E} {sc L : Nat} {xs : Nat → Int32} (hx : p.tables.exec = Jvm.exec) (hb : c.code = c_La_law) (hml : c.maxLocals = 7) (hown : s.vm.findClass "ZoneAnswersLaw" = some m.cls) (hts : ∀ w ∈ zw, w.before args s = true) (hX : va_X sc L xs s s.heap) (hbl : sc < s.heap.size) (hbA : ¬ (fun q : Nat => zc_b E ≤ q) sc) (hbase : zc_b E ≤ s.heap.size) (hK : zK E s) (hN : zN zn s) (hQ : zQ E s s.heap) {xo mo out i C S : Nat} {Gv : zg_G} {H : Heap} {locs : List Loc} (hL : L ≤ 3072) (hi6 : 6 * i + 6 ≤ L) (hR : zRl E Gv xo mo out i C S) (hG : zP E Gv H) (hS : zg_S (zc_b E) s.heap H locs) {ls : Array Slot} (hl : lv_has ls 7 [(0, .ref sc), (1, .ref xo), (2, .ref mo), (3, .ref out), (4, .int (nI (6 * i)))]) (hback : ∀ (G2 : zg_G) (C2 S2 : Nat) (H2 : Heap) (locs2 : List Loc) (ls2 : Array Slot), zRl E G2 xo mo out (i + 1) C2 S2 → zP E G2 H2 → zg_S (zc_b E) s.heap H2 locs2 → lv_has ls2 7 [(0, .ref sc), (1, .ref xo), (2, .ref mo), (3, .ref out), (4, .int (nI (6 * i)))] → W p l e room_1 s m args below meth c H2 locs2 C2 S2 Q (F0 m 926 ls2 [])) : W p l e room_1 s m args below meth c H locs C S Q (F0 m 857 ls []) := by
  obtain ⟨ro, A, rs, c1, c2, th, fo, u, g, p9, q9, hA, hO, hout, hro, hI, hct, hug⟩ := hR
  have hE0 : Gv (E.2.2.2 0) = none := hQ.out hG
  have hvz : vsz A.2.1 rs.length := by rw [← hO.2]; exact vsz_r rs
  have hi9 : u + g ≤ 511 := by omega
  have hn3 := hct.nr hi9
  have hn9 : rs.length < 1000 := by omega
  have hb6 : zbg A.2.1 := fun x t p hp => Nat.lt_of_le_of_lt (hI.2.2.2.1 x t p hp) (by decide)
  have hrm := hct.rf (cC := 4) (cS := A.1.length + 265) hi9 (by decide) (by omega)
  refine lv_aload_n hx hb d_La_law_857 rfl (lv_at hl 1 rfl) ?_
  refine lv_aload_n hx hb d_La_law_858 rfl (lv_at hl 3 rfl) ?_
  have hGo859 := hG
  refine zk_i (zl_runS (n := 2) (As := [.ref xo, .ref out]) (rest := []) ⟨hx, hb, hml, hown, hts⟩ (t_La_state_s l hoff hA hE0 hout hro  hvz hn9) w_1235 w_1236 w_0 w_1237 (by decide +kernel) ⟨Nat.le_of_ble_eq_true rfl, Nat.le_of_ble_eq_true rfl⟩ (zc_pre hbase hK hN hQ hG hS) rfl rfl hl.1 rfl (lv_room (Nat.le_of_ble_eq_true rfl)) d_La_law_859 ⟨(by dsimp only [room_1]; omega), (by dsimp only [room_1]; omega)⟩) hS (fun r859 G859 H locs hp859 hG hS => ?_)
  obtain ⟨ro1, B1, r1, f1, hs1, hA1, hf1, ho1, hr1, he1⟩ := hp859
  have hE1 : G859 (E.2.2.2 0) = none := hQ.out hG
  have hO1 := hO.fr hf1 zKl_0 zKl_20 zKl_21
  obtain ⟨fs1, hmo1, -⟩ := hO1.cell
  refine lv_istore (lv' := [(5, .int r859), (0, .ref sc), (1, .ref xo), (2, .ref mo), (3, .ref out), (4, .int (nI (6 * i)))]) hx hb d_La_law_862 hl (by decide) rfl (fun ls hl => ?_)
  refine lv_aload_n hx hb d_La_law_864 rfl (lv_at hl 3 rfl) ?_
  have hGo865 := hG
  refine zk_i (va_runV (As := []) (rest := []) ⟨hx, hb, hml, hown, hts⟩ (t_Mo_state_a l hO1  ) (zcV 0 hts w_1592 w_1593 w_1594 w_30 w_1595 (by decide +kernel) ⟨Nat.le_of_ble_eq_true rfl, Nat.le_of_ble_eq_true rfl⟩) (zc_preV hbase hK hN hQ hG hS hmo1 rfl) rfl rfl hl.1 rfl (lv_room (Nat.le_of_ble_eq_true rfl)) d_La_law_865 ⟨(by dsimp only [room_1]; omega), (by dsimp only [room_1]; omega)⟩) hS (fun r865 G865 H locs hp865 hG hS => ?_)
  obtain ⟨ro2, rs2, B2, k2, r2, hs2, he2, hO2, hf2, hW2, hm2⟩ := hp865
  have hE2 : G865 (E.2.2.2 0) = none := hQ.out hG
  obtain ⟨hk, hB, hr⟩ := sStt_un _ _ _ _ _ _ hs1 hs2
  subst hB
  subst hk
  have hA2 := hA1.fr hf2 hE1 hE2 zKr_0 zKr_c
  obtain ⟨ho2, hr2⟩ := hf2 _ _ ho1 (by rw [hr1]; exact zKr_15)
  have hr2 := hr2.trans hr1
  obtain ⟨⟨u2, g2, p2, q2, hct2, hug2⟩, hI2⟩ := aft_stt (cC := 4) (cS := A.1.length + 265) hct hI (by decide) (by omega) hs1 hW2 hm2
  obtain ⟨fs2, hmo2, -⟩ := hO2.cell
  have hR2 : zRl E G865 xo mo out (i + 1) (C + (4)) (S + (A.1.length + 265)) := ⟨ro2, B1, rs2, c1, c2, r859, f1, u2, g2, p2, q2, hA2, hO2, ho2, hr2, hI2, hct2, by omega⟩
  refine lv_istore (lv' := [(6, .int r865), (5, .int r859), (0, .ref sc), (1, .ref xo), (2, .ref mo), (3, .ref out), (4, .int (nI (6 * i)))]) hx hb d_La_law_868 hl (by decide) rfl (fun ls hl => ?_)
  refine lv_aload_n hx hb d_La_law_870 rfl (lv_at hl 4 rfl) ?_
  refine zk_i (va_runV (As := []) (rest := []) ⟨hx, hb, hml, hown, hts⟩ (t_Mo_thrown_a l hO2) (zcV 0 hts w_1345 w_1346 w_1347 w_30 w_1348 (by decide +kernel) ⟨Nat.le_of_ble_eq_true rfl, Nat.le_of_ble_eq_true rfl⟩) (zc_preV hbase hK hN hQ hG hS hmo2 rfl) rfl rfl hl.1 rfl (lv_room (Nat.le_of_ble_eq_true rfl)) d_La_law_871 ⟨(by dsimp only [room_1]; omega), (by dsimp only [room_1]; omega)⟩) hS (fun r871 G871 H locs hp871 hG hS => ?_)
  have hG : zP E G865 H := hp871.2 ▸ hG
  refine zi_as (y := r859) hp871.1 ?_
  refine lv_iload hx hb d_La_law_874 (lv_at hl 1 rfl) ?_
  refine lv_icmp_eq (tgt := 881) hx hb d_La_law_876 (by decide) (fun c876 => ?_) (fun c876 => ?_)
  · refine lv_iload hx hb d_La_law_881 (lv_at hl 1 rfl) ?_
    refine lv_if_ne (tgt := 898) hx hb d_La_law_883 (by decide) (fun c883 => ?_) (fun c883 => ?_)
    · refine lv_goto (tgt := 926) hx hb d_La_law_898 (by decide) ?_
      refine zW_more (cells2 := C + (4)) (slots2 := S + (A.1.length + 265)) (by dsimp only; omega) (by dsimp only; omega) ?_
      exact hback _ _ _ _ _ _ hR2 hG hS (lv_sub hl [2, 3, 4, 5, 6] rfl)
    · refine lv_aload_n hx hb d_La_law_886 rfl (lv_at hl 5 rfl) ?_
      refine lv_iconst (v := 0) hx hb d_La_law_887 (by decide) ?_
      refine zi_as (y := nI 0) (nI_0.symm) ?_
      refine zg_lald hx hb hK hG 2 ho2 rfl (vp_in_nI (by omega) (by omega)) d_La_law_888 ?_
      refine zl_as (y := r1.toInt64) (by rw [zi_n 0 (by decide)]; exact he1 c883) ?_
      refine lv_iload hx hb d_La_law_889 (lv_at hl 0 rfl) ?_
      refine lv_i2l hx hb d_La_law_891 rfl ?_
      refine W.lcmp hx hb d_La_law_892 ?_
      refine zi_as (y := 0) (by rw [hr c883, ← he2 c883]; exact zcmp0 _) ?_
      refine lv_if_eq (tgt := 898) hx hb d_La_law_893 (by decide) (fun c893 => ?_) (fun c893 => ?_)
      · have b893 : 0 = 0 := (nI_eq (a := 0) (b := 0) (by omega) (by omega)).mp c893
        refine lv_goto (tgt := 926) hx hb d_La_law_898 (by decide) ?_
        refine zW_more (cells2 := C + (4)) (slots2 := S + (A.1.length + 265)) (by dsimp only; omega) (by dsimp only; omega) ?_
        exact hback _ _ _ _ _ _ hR2 hG hS (lv_sub hl [2, 3, 4, 5, 6] rfl)
      · have b893 : ¬ 0 = 0 := fun q => c893 ((nI_eq (a := 0) (b := 0) (by omega) (by omega)).mpr q)
        exact absurd rfl c893
  · exact absurd rfl c876
set_option maxHeartbeats 8000000 in
set_option maxRecDepth 100000 in
/-- the law's case 12: count -/
theorem lawc_count {p : Program} {e : Env} {s : State} {m : MethodId} {args : Array Value} {below : List Frame} {meth : Method} {c : Code} {Q : State → Prop} (l : Launch) (hoff : zl_off l) {E : zc_E} {sc L : Nat} {xs : Nat → Int32} (hx : p.tables.exec = Jvm.exec) (hb : c.code = c_La_law) (hml : c.maxLocals = 7) (hown : s.vm.findClass "ZoneAnswersLaw" = some m.cls) (hts : ∀ w ∈ zw, w.before args s = true) (hX : va_X sc L xs s s.heap) (hbl : sc < s.heap.size) (hbA : ¬ (fun q : Nat => zc_b E ≤ q) sc) (hbase : zc_b E ≤ s.heap.size) (hK : zK E s) (hN : zN zn s) (hQ : zQ E s s.heap) {xo mo out i C S : Nat} {Gv : zg_G} {H : Heap} {locs : List Loc} (hL : L ≤ 3072) (hi6 : 6 * i + 6 ≤ L) (hR : zRl E Gv xo mo out i C S) (hG : zP E Gv H) (hS : zg_S (zc_b E) s.heap H locs) {ls : Array Slot} (hl : lv_has ls 7 [(0, .ref sc), (1, .ref xo), (2, .ref mo), (3, .ref out), (4, .int (nI (6 * i)))]) (hback : ∀ (G2 : zg_G) (C2 S2 : Nat) (H2 : Heap) (locs2 : List Loc) (ls2 : Array Slot), zRl E G2 xo mo out (i + 1) C2 S2 → zP E G2 H2 → zg_S (zc_b E) s.heap H2 locs2 → lv_has ls2 7 [(0, .ref sc), (1, .ref xo), (2, .ref mo), (3, .ref out), (4, .int (nI (6 * i)))] → W p l e room_1 s m args below meth c H2 locs2 C2 S2 Q (F0 m 926 ls2 [])) : W p l e room_1 s m args below meth c H locs C S Q (F0 m 901 ls []) := by
  obtain ⟨ro, A, rs, c1, c2, th, fo, u, g, p9, q9, hA, hO, hout, hro, hI, hct, hug⟩ := hR
  have hE0 : Gv (E.2.2.2 0) = none := hQ.out hG
  have hvz : vsz A.2.1 rs.length := by rw [← hO.2]; exact vsz_r rs
  have hi9 : u + g ≤ 511 := by omega
  have hn3 := hct.nr hi9
  have hn9 : rs.length < 1000 := by omega
  have hb6 : zbg A.2.1 := fun x t p hp => Nat.lt_of_le_of_lt (hI.2.2.2.1 x t p hp) (by decide)
  obtain ⟨ta9, zo9, an9, hxo⟩ := hA.cell
  have hrm := hct.rf (cC := 0) (cS := 0) hi9 (by decide) (by omega)
  refine lv_aload_n hx hb d_La_law_901 rfl (lv_at hl 1 rfl) ?_
  refine lv_aload_n hx hb d_La_law_902 rfl (lv_at hl 0 rfl) ?_
  refine lv_iload hx hb d_La_law_903 (lv_at hl 4 rfl) ?_
  refine lv_iconst (v := 1) hx hb d_La_law_905 (by decide) ?_
  refine lv_iadd hx hb d_La_law_906 ?_
  refine zi_as (y := nI (6 * i + 1)) (nI_add (6 * i) 1) ?_
  refine va_sld hx hb hX hbl hbA hS (vp_in_nI (by omega) (by omega)) d_La_law_907 ?_
  refine zi_as (y := xs (6 * i + 1)) (by rw [zi_n _ (by omega)]) ?_
  have hGo908 := hG
  refine zk_i (va_runV (As := [.int (xs (6 * i + 1))]) (rest := []) ⟨hx, hb, hml, hown, hts⟩ (t_ZA_count_s l hA (xs (6 * i + 1)) hvz hn9 ) (zcV 1 hts w_725 w_726 w_727 w_1 w_728 (by decide +kernel) ⟨Nat.le_of_ble_eq_true rfl, Nat.le_of_ble_eq_true rfl⟩) (zc_preV hbase hK hN hQ hG hS hxo rfl) rfl rfl hl.1 rfl (lv_room (Nat.le_of_ble_eq_true rfl)) d_La_law_908 ⟨(by dsimp only [room_1]; omega), (by dsimp only [room_1]; omega)⟩) hS (fun r908 G908 H locs hp908 hG hS => ?_)
  obtain ⟨ro1, B1, hs1, hA1, hf1⟩ := hp908
  obtain ⟨ho1, hr1⟩ := hf1 _ _ hout (by rw [hro]; exact zKc_15)
  have hr1 := hr1.trans hro
  have hE1 : G908 (E.2.2.2 0) = none := hQ.out hG
  have hO1 := hO.fr hf1 zKc_0 zKc_20 zKc_21
  obtain ⟨fs1, hmo1, -⟩ := hO1.cell
  refine lv_aload_n hx hb d_La_law_911 rfl (lv_at hl 2 rfl) ?_
  refine lv_aload_n hx hb d_La_law_912 rfl (lv_at hl 0 rfl) ?_
  refine lv_iload hx hb d_La_law_913 (lv_at hl 4 rfl) ?_
  refine lv_iconst (v := 1) hx hb d_La_law_915 (by decide) ?_
  refine lv_iadd hx hb d_La_law_916 ?_
  refine zi_as (y := nI (6 * i + 1)) (nI_add (6 * i) 1) ?_
  refine va_sld hx hb hX hbl hbA hS (vp_in_nI (by omega) (by omega)) d_La_law_917 ?_
  refine zi_as (y := xs (6 * i + 1)) (by rw [zi_n _ (by omega)]) ?_
  have hGo918 := hG
  refine zk_i (va_runV (As := [.int (xs (6 * i + 1))]) (rest := [.int r908]) ⟨hx, hb, hml, hown, hts⟩ (t_Mo_count_a l hO1 (xs (6 * i + 1))) (zcV 1 hts w_1596 w_1597 w_1598 w_30 w_1599 (by decide +kernel) ⟨Nat.le_of_ble_eq_true rfl, Nat.le_of_ble_eq_true rfl⟩) (zc_preV hbase hK hN hQ hG hS hmo1 rfl) rfl rfl hl.1 rfl (lv_room (Nat.le_of_ble_eq_true rfl)) d_La_law_918 ⟨(by dsimp only [room_1]; omega), (by dsimp only [room_1]; omega)⟩) hS (fun r918 G918 H locs hp918 hG hS => ?_)
  obtain ⟨ro2, rs2, B2, k2, r2, hs2, he2, hO2, hf2, hW2, hm2⟩ := hp918
  have hE2 : G918 (E.2.2.2 0) = none := hQ.out hG
  obtain ⟨hk, hB, hr⟩ := sCnt_un (xs (6 * i + 1)) _ _ _ _ _ _ hs1 hs2
  subst hB
  subst hk
  have hA2 := hA1.fr hf2 hE1 hE2 zKr_0 zKr_c
  obtain ⟨ho2, hr2⟩ := hf2 _ _ ho1 (by rw [hr1]; exact zKr_15)
  have hr2 := hr2.trans hr1
  obtain ⟨⟨u2, g2, p2, q2, hct2, hug2⟩, hI2⟩ := aft_id (cC := 0) (cS := 0) hct hI (by decide) (by omega) (sCnt_id hs1) hm2
  obtain ⟨fs2, hmo2, -⟩ := hO2.cell
  have hR2 : zRl E G918 xo mo out (i + 1) (C + (0)) (S + (0)) := ⟨ro2, B1, rs2, c1, c2, 0, fo, u2, g2, p2, q2, hA2, hO2, ho2, hr2, hI2, hct2, by omega⟩
  refine lv_icmp_eq (tgt := 926) hx hb d_La_law_921 (by decide) (fun c921 => ?_) (fun c921 => ?_)
  · refine zW_more (cells2 := C + (0)) (slots2 := S + (0)) (by dsimp only; omega) (by dsimp only; omega) ?_
    exact hback _ _ _ _ _ _ hR2 hG hS (lv_sub hl [0, 1, 2, 3, 4] rfl)
  · exact absurd ((he2 rfl).trans (hr rfl).symm).symm c921
