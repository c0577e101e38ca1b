theorem w_53 : (.lays "ZoneAnswers$Tape" "ZoneAnswers$Tape" "bytes" "[B" : Cond) ∈ zw := zw_at 53 (by decide +kernel) (by decide +kernel)
theorem w_55 : (.lays "ZoneAnswers$Tape" "ZoneAnswers$Tape" "length" "I" : Cond) ∈ zw := zw_at 55 (by decide +kernel) (by decide +kernel)
theorem w_84 : (.lays "java/util/ArrayList" "java/util/ArrayList" "elementData" "[Ljava/lang/Object;" : Cond) ∈ zw := zw_at 84 (by decide +kernel) (by decide +kernel)
theorem w_86 : (.lays "java/util/ArrayList" "java/util/ArrayList" "size" "I" : Cond) ∈ zw := zw_at 86 (by decide +kernel) (by decide +kernel)
theorem w_88 : (.lays "java/util/ArrayList" "java/util/AbstractList" "modCount" "I" : Cond) ∈ zw := zw_at 88 (by decide +kernel) (by decide +kernel)
theorem w_96 : (.laysFinal "ZoneAnswers$Zone" "ZoneAnswers$Zone" "owners" "Ljava/util/ArrayList;" : Cond) ∈ zw := zw_at 96 (by decide +kernel) (by decide +kernel)
theorem w_98 : (.lays "ZoneAnswers$Zone" "ZoneAnswers$Zone" "top" "LZoneAnswers$Name;" : Cond) ∈ zw := zw_at 98 (by decide +kernel) (by decide +kernel)
theorem w_100 : (.lays "ZoneAnswers$Zone" "ZoneAnswers$Zone" "start" "LZoneAnswers$Rrset;" : Cond) ∈ zw := zw_at 100 (by decide +kernel) (by decide +kernel)
theorem w_102 : (.lays "ZoneAnswers$Zone" "ZoneAnswers$Zone" "startData" "[B" : Cond) ∈ zw := zw_at 102 (by decide +kernel) (by decide +kernel)
theorem w_104 : (.lays "ZoneAnswers$Zone" "ZoneAnswers$Zone" "records" "I" : Cond) ∈ zw := zw_at 104 (by decide +kernel) (by decide +kernel)
theorem w_120 : (.laysFinal "ZoneAnswers$Name" "ZoneAnswers$Name" "bytes" "[B" : Cond) ∈ zw := zw_at 120 (by decide +kernel) (by decide +kernel)
theorem w_122 : (.laysFinal "ZoneAnswers$Name" "ZoneAnswers$Name" "labels" "I" : Cond) ∈ zw := zw_at 122 (by decide +kernel) (by decide +kernel)
theorem w_146 : (.laysFinal "ZoneAnswers$Datum" "ZoneAnswers$Datum" "bytes" "[B" : Cond) ∈ zw := zw_at 146 (by decide +kernel) (by decide +kernel)
theorem w_148 : (.laysFinal "ZoneAnswers$Datum" "ZoneAnswers$Datum" "target" "LZoneAnswers$Name;" : Cond) ∈ zw := zw_at 148 (by decide +kernel) (by decide +kernel)
theorem w_213 : (.laysFinal "ZoneAnswers$Owner" "ZoneAnswers$Owner" "name" "LZoneAnswers$Name;" : Cond) ∈ zw := zw_at 213 (by decide +kernel) (by decide +kernel)
theorem w_215 : (.laysFinal "ZoneAnswers$Owner" "ZoneAnswers$Owner" "sets" "Ljava/util/ArrayList;" : Cond) ∈ zw := zw_at 215 (by decide +kernel) (by decide +kernel)
theorem w_217 : (.lays "ZoneAnswers$Owner" "ZoneAnswers$Owner" "cut" "LZoneAnswers$Owner;" : Cond) ∈ zw := zw_at 217 (by decide +kernel) (by decide +kernel)
theorem w_629 : (.laysFinal "ZoneAnswers$Rrset" "ZoneAnswers$Rrset" "type" "I" : Cond) ∈ zw := zw_at 629 (by decide +kernel) (by decide +kernel)
theorem w_631 : (.lays "ZoneAnswers$Rrset" "ZoneAnswers$Rrset" "time" "I" : Cond) ∈ zw := zw_at 631 (by decide +kernel) (by decide +kernel)
theorem w_633 : (.laysFinal "ZoneAnswers$Rrset" "ZoneAnswers$Rrset" "data" "Ljava/util/ArrayList;" : Cond) ∈ zw := zw_at 633 (by decide +kernel) (by decide +kernel)
theorem w_681 : (.laysFinal "ZoneAnswers$Section" "ZoneAnswers$Section" "rows" "Ljava/util/ArrayList;" : Cond) ∈ zw := zw_at 681 (by decide +kernel) (by decide +kernel)
theorem w_690 : (.laysFinal "ZoneAnswers$Answer" "ZoneAnswers$Answer" "zone" "LZoneAnswers$Zone;" : Cond) ∈ zw := zw_at 690 (by decide +kernel) (by decide +kernel)
theorem w_692 : (.laysFinal "ZoneAnswers$Answer" "ZoneAnswers$Answer" "answers" "LZoneAnswers$Section;" : Cond) ∈ zw := zw_at 692 (by decide +kernel) (by decide +kernel)
theorem w_694 : (.laysFinal "ZoneAnswers$Answer" "ZoneAnswers$Answer" "authority" "LZoneAnswers$Section;" : Cond) ∈ zw := zw_at 694 (by decide +kernel) (by decide +kernel)
theorem w_696 : (.laysFinal "ZoneAnswers$Answer" "ZoneAnswers$Answer" "more" "LZoneAnswers$Section;" : Cond) ∈ zw := zw_at 696 (by decide +kernel) (by decide +kernel)
theorem w_698 : (.lays "ZoneAnswers$Answer" "ZoneAnswers$Answer" "type" "I" : Cond) ∈ zw := zw_at 698 (by decide +kernel) (by decide +kernel)
theorem w_700 : (.lays "ZoneAnswers$Answer" "ZoneAnswers$Answer" "secure" "Z" : Cond) ∈ zw := zw_at 700 (by decide +kernel) (by decide +kernel)
theorem w_706 : (.laysFinal "ZoneAnswers" "ZoneAnswers" "tape" "LZoneAnswers$Tape;" : Cond) ∈ zw := zw_at 706 (by decide +kernel) (by decide +kernel)
theorem w_708 : (.laysFinal "ZoneAnswers" "ZoneAnswers" "zone" "LZoneAnswers$Zone;" : Cond) ∈ zw := zw_at 708 (by decide +kernel) (by decide +kernel)
theorem w_710 : (.laysFinal "ZoneAnswers" "ZoneAnswers" "answer" "LZoneAnswers$Answer;" : Cond) ∈ zw := zw_at 710 (by decide +kernel) (by decide +kernel)
theorem w_1058 : (.laysFinal "ZoneAnswers$Told" "ZoneAnswers$Told" "name" "LZoneAnswers$Name;" : Cond) ∈ zw := zw_at 1058 (by decide +kernel) (by decide +kernel)
theorem w_1060 : (.laysFinal "ZoneAnswers$Told" "ZoneAnswers$Told" "type" "I" : Cond) ∈ zw := zw_at 1060 (by decide +kernel) (by decide +kernel)
theorem w_1062 : (.laysFinal "ZoneAnswers$Told" "ZoneAnswers$Told" "time" "I" : Cond) ∈ zw := zw_at 1062 (by decide +kernel) (by decide +kernel)
theorem w_1064 : (.laysFinal "ZoneAnswers$Told" "ZoneAnswers$Told" "datum" "LZoneAnswers$Datum;" : Cond) ∈ zw := zw_at 1064 (by decide +kernel) (by decide +kernel)
theorem w_1270 : (.lays "ZoneAnswersModel$Rec" "ZoneAnswersModel$Rec" "name" "[B" : Cond) ∈ zw := zw_at 1270 (by decide +kernel) (by decide +kernel)
theorem w_1272 : (.lays "ZoneAnswersModel$Rec" "ZoneAnswersModel$Rec" "data" "[B" : Cond) ∈ zw := zw_at 1272 (by decide +kernel) (by decide +kernel)
theorem w_1274 : (.lays "ZoneAnswersModel$Rec" "ZoneAnswersModel$Rec" "target" "[B" : Cond) ∈ zw := zw_at 1274 (by decide +kernel) (by decide +kernel)
theorem w_1276 : (.lays "ZoneAnswersModel$Rec" "ZoneAnswersModel$Rec" "type" "I" : Cond) ∈ zw := zw_at 1276 (by decide +kernel) (by decide +kernel)
theorem w_1278 : (.lays "ZoneAnswersModel$Rec" "ZoneAnswersModel$Rec" "time" "I" : Cond) ∈ zw := zw_at 1278 (by decide +kernel) (by decide +kernel)
theorem w_1302 : (.lays "ZoneAnswersModel" "ZoneAnswersModel" "thrown" "I" : Cond) ∈ zw := zw_at 1302 (by decide +kernel) (by decide +kernel)
theorem w_1304 : (.laysFinal "ZoneAnswersModel" "ZoneAnswersModel" "tape" "[B" : Cond) ∈ zw := zw_at 1304 (by decide +kernel) (by decide +kernel)
theorem w_1306 : (.lays "ZoneAnswersModel" "ZoneAnswersModel" "tapes" "I" : Cond) ∈ zw := zw_at 1306 (by decide +kernel) (by decide +kernel)
theorem w_1308 : (.lays "ZoneAnswersModel" "ZoneAnswersModel" "origin" "[B" : Cond) ∈ zw := zw_at 1308 (by decide +kernel) (by decide +kernel)
theorem w_1310 : (.laysFinal "ZoneAnswersModel" "ZoneAnswersModel" "recs" "[LZoneAnswersModel$Rec;" : Cond) ∈ zw := zw_at 1310 (by decide +kernel) (by decide +kernel)
theorem w_1312 : (.lays "ZoneAnswersModel" "ZoneAnswersModel" "n" "I" : Cond) ∈ zw := zw_at 1312 (by decide +kernel) (by decide +kernel)
theorem w_1314 : (.lays "ZoneAnswersModel" "ZoneAnswersModel" "section" "[I" : Cond) ∈ zw := zw_at 1314 (by decide +kernel) (by decide +kernel)
theorem w_1316 : (.lays "ZoneAnswersModel" "ZoneAnswersModel" "type" "[I" : Cond) ∈ zw := zw_at 1316 (by decide +kernel) (by decide +kernel)
theorem w_1318 : (.lays "ZoneAnswersModel" "ZoneAnswersModel" "time" "[I" : Cond) ∈ zw := zw_at 1318 (by decide +kernel) (by decide +kernel)
theorem w_1320 : (.lays "ZoneAnswersModel" "ZoneAnswersModel" "dataAt" "[I" : Cond) ∈ zw := zw_at 1320 (by decide +kernel) (by decide +kernel)
theorem w_1322 : (.lays "ZoneAnswersModel" "ZoneAnswersModel" "dataSize" "[I" : Cond) ∈ zw := zw_at 1322 (by decide +kernel) (by decide +kernel)
theorem w_1324 : (.lays "ZoneAnswersModel" "ZoneAnswersModel" "name" "[[B" : Cond) ∈ zw := zw_at 1324 (by decide +kernel) (by decide +kernel)
theorem w_1326 : (.lays "ZoneAnswersModel" "ZoneAnswersModel" "rows" "[[B" : Cond) ∈ zw := zw_at 1326 (by decide +kernel) (by decide +kernel)
theorem w_1328 : (.lays "ZoneAnswersModel" "ZoneAnswersModel" "answers" "I" : Cond) ∈ zw := zw_at 1328 (by decide +kernel) (by decide +kernel)
theorem w_1330 : (.lays "ZoneAnswersModel" "ZoneAnswersModel" "code" "I" : Cond) ∈ zw := zw_at 1330 (by decide +kernel) (by decide +kernel)
theorem w_1332 : (.lays "ZoneAnswersModel" "ZoneAnswersModel" "pool" "[B" : Cond) ∈ zw := zw_at 1332 (by decide +kernel) (by decide +kernel)
theorem w_1334 : (.lays "ZoneAnswersModel" "ZoneAnswersModel" "pooled" "I" : Cond) ∈ zw := zw_at 1334 (by decide +kernel) (by decide +kernel)
theorem w_1336 : (.lays "ZoneAnswersModel" "ZoneAnswersModel" "secure" "Z" : Cond) ∈ zw := zw_at 1336 (by decide +kernel) (by decide +kernel)
theorem w_1338 : (.laysFinal "ZoneAnswersModel" "ZoneAnswersModel" "from" "[B" : Cond) ∈ zw := zw_at 1338 (by decide +kernel) (by decide +kernel)
theorem w_1340 : (.lays "ZoneAnswersModel" "ZoneAnswersModel" "toldName" "[B" : Cond) ∈ zw := zw_at 1340 (by decide +kernel) (by decide +kernel)
theorem w_1342 : (.lays "ZoneAnswersModel" "ZoneAnswersModel" "toldData" "[B" : Cond) ∈ zw := zw_at 1342 (by decide +kernel) (by decide +kernel)
theorem zi_AL : ∀ w ∈ u_ws "java/util/ArrayList" T_AL 3, w ∈ zw := by
  intro w h
  have h1 : w ∈ ([.lays "java/util/ArrayList" "java/util/ArrayList" "elementData" "[Ljava/lang/Object;", .lays "java/util/ArrayList" "java/util/ArrayList" "size" "I", .lays "java/util/ArrayList" "java/util/AbstractList" "modCount" "I"] : List Cond) := h
  simp only [List.mem_cons, List.not_mem_nil, or_false] at h1
  rcases h1 with rfl | rfl | rfl
  · exact w_84
  · exact w_86
  · exact w_88
theorem zi_An : ∀ w ∈ u_ws "ZoneAnswers$Answer" T_An 6, w ∈ zw := by
  intro w h
  have h1 : w ∈ ([.laysFinal "ZoneAnswers$Answer" "ZoneAnswers$Answer" "zone" "LZoneAnswers$Zone;", .laysFinal "ZoneAnswers$Answer" "ZoneAnswers$Answer" "answers" "LZoneAnswers$Section;", .laysFinal "ZoneAnswers$Answer" "ZoneAnswers$Answer" "authority" "LZoneAnswers$Section;", .laysFinal "ZoneAnswers$Answer" "ZoneAnswers$Answer" "more" "LZoneAnswers$Section;", .lays "ZoneAnswers$Answer" "ZoneAnswers$Answer" "type" "I", .lays "ZoneAnswers$Answer" "ZoneAnswers$Answer" "secure" "Z"] : List Cond) := h
  simp only [List.mem_cons, List.not_mem_nil, or_false] at h1
  rcases h1 with rfl | rfl | rfl | rfl | rfl | rfl
  · exact w_690
  · exact w_692
  · exact w_694
  · exact w_696
  · exact w_698
  · exact w_700
theorem zi_Da : ∀ w ∈ u_ws "ZoneAnswers$Datum" T_Da 2, w ∈ zw := by
  intro w h
  have h1 : w ∈ ([.laysFinal "ZoneAnswers$Datum" "ZoneAnswers$Datum" "bytes" "[B", .laysFinal "ZoneAnswers$Datum" "ZoneAnswers$Datum" "target" "LZoneAnswers$Name;"] : List Cond) := h
  simp only [List.mem_cons, List.not_mem_nil, or_false] at h1
  rcases h1 with rfl | rfl
  · exact w_146
  · exact w_148
theorem zi_Na : ∀ w ∈ u_ws "ZoneAnswers$Name" T_Na 2, w ∈ zw := by
  intro w h
  have h1 : w ∈ ([.laysFinal "ZoneAnswers$Name" "ZoneAnswers$Name" "bytes" "[B", .laysFinal "ZoneAnswers$Name" "ZoneAnswers$Name" "labels" "I"] : List Cond) := h
  simp only [List.mem_cons, List.not_mem_nil, or_false] at h1
  rcases h1 with rfl | rfl
  · exact w_120
  · exact w_122
theorem zi_Ow : ∀ w ∈ u_ws "ZoneAnswers$Owner" T_Ow 3, w ∈ zw := by
  intro w h
  have h1 : w ∈ ([.laysFinal "ZoneAnswers$Owner" "ZoneAnswers$Owner" "name" "LZoneAnswers$Name;", .laysFinal "ZoneAnswers$Owner" "ZoneAnswers$Owner" "sets" "Ljava/util/ArrayList;", .lays "ZoneAnswers$Owner" "ZoneAnswers$Owner" "cut" "LZoneAnswers$Owner;"] : List Cond) := h
  simp only [List.mem_cons, List.not_mem_nil, or_false] at h1
  rcases h1 with rfl | rfl | rfl
  · exact w_213
  · exact w_215
  · exact w_217
theorem zi_Rr : ∀ w ∈ u_ws "ZoneAnswers$Rrset" T_Rr 3, w ∈ zw := by
  intro w h
  have h1 : w ∈ ([.laysFinal "ZoneAnswers$Rrset" "ZoneAnswers$Rrset" "type" "I", .lays "ZoneAnswers$Rrset" "ZoneAnswers$Rrset" "time" "I", .laysFinal "ZoneAnswers$Rrset" "ZoneAnswers$Rrset" "data" "Ljava/util/ArrayList;"] : List Cond) := h
  simp only [List.mem_cons, List.not_mem_nil, or_false] at h1
  rcases h1 with rfl | rfl | rfl
  · exact w_629
  · exact w_631
  · exact w_633
theorem zi_Se : ∀ w ∈ u_ws "ZoneAnswers$Section" T_Se 1, w ∈ zw := by
  intro w h
  have h1 : w ∈ ([.laysFinal "ZoneAnswers$Section" "ZoneAnswers$Section" "rows" "Ljava/util/ArrayList;"] : List Cond) := h
  simp only [List.mem_cons, List.not_mem_nil, or_false] at h1
  rcases h1 with rfl
  · exact w_681
theorem zi_Ta : ∀ w ∈ u_ws "ZoneAnswers$Tape" T_Ta 2, w ∈ zw := by
  intro w h
  have h1 : w ∈ ([.lays "ZoneAnswers$Tape" "ZoneAnswers$Tape" "bytes" "[B", .lays "ZoneAnswers$Tape" "ZoneAnswers$Tape" "length" "I"] : List Cond) := h
  simp only [List.mem_cons, List.not_mem_nil, or_false] at h1
  rcases h1 with rfl | rfl
  · exact w_53
  · exact w_55
theorem zi_To : ∀ w ∈ u_ws "ZoneAnswers$Told" T_To 4, w ∈ zw := by
  intro w h
  have h1 : w ∈ ([.laysFinal "ZoneAnswers$Told" "ZoneAnswers$Told" "name" "LZoneAnswers$Name;", .laysFinal "ZoneAnswers$Told" "ZoneAnswers$Told" "type" "I", .laysFinal "ZoneAnswers$Told" "ZoneAnswers$Told" "time" "I", .laysFinal "ZoneAnswers$Told" "ZoneAnswers$Told" "datum" "LZoneAnswers$Datum;"] : List Cond) := h
  simp only [List.mem_cons, List.not_mem_nil, or_false] at h1
  rcases h1 with rfl | rfl | rfl | rfl
  · exact w_1058
  · exact w_1060
  · exact w_1062
  · exact w_1064
theorem zi_Zo : ∀ w ∈ u_ws "ZoneAnswers$Zone" T_Zo 5, w ∈ zw := by
  intro w h
  have h1 : w ∈ ([.laysFinal "ZoneAnswers$Zone" "ZoneAnswers$Zone" "owners" "Ljava/util/ArrayList;", .lays "ZoneAnswers$Zone" "ZoneAnswers$Zone" "top" "LZoneAnswers$Name;", .lays "ZoneAnswers$Zone" "ZoneAnswers$Zone" "start" "LZoneAnswers$Rrset;", .lays "ZoneAnswers$Zone" "ZoneAnswers$Zone" "startData" "[B", .lays "ZoneAnswers$Zone" "ZoneAnswers$Zone" "records" "I"] : List Cond) := h
  simp only [List.mem_cons, List.not_mem_nil, or_false] at h1
  rcases h1 with rfl | rfl | rfl | rfl | rfl
  · exact w_96
  · exact w_98
  · exact w_100
  · exact w_102
  · exact w_104
theorem zi_ZA : ∀ w ∈ u_ws "ZoneAnswers" T_ZA 3, w ∈ zw := by
  intro w h
  have h1 : w ∈ ([.laysFinal "ZoneAnswers" "ZoneAnswers" "tape" "LZoneAnswers$Tape;", .laysFinal "ZoneAnswers" "ZoneAnswers" "zone" "LZoneAnswers$Zone;", .laysFinal "ZoneAnswers" "ZoneAnswers" "answer" "LZoneAnswers$Answer;"] : List Cond) := h
  simp only [List.mem_cons, List.not_mem_nil, or_false] at h1
  rcases h1 with rfl | rfl | rfl
  · exact w_706
  · exact w_708
  · exact w_710
theorem zi_Mo : ∀ w ∈ u_ws "ZoneAnswersModel" T_Mo 21, w ∈ zw := by
  intro w h
  have h1 : w ∈ ([.lays "ZoneAnswersModel" "ZoneAnswersModel" "thrown" "I", .laysFinal "ZoneAnswersModel" "ZoneAnswersModel" "tape" "[B", .lays "ZoneAnswersModel" "ZoneAnswersModel" "tapes" "I", .lays "ZoneAnswersModel" "ZoneAnswersModel" "origin" "[B", .laysFinal "ZoneAnswersModel" "ZoneAnswersModel" "recs" "[LZoneAnswersModel$Rec;", .lays "ZoneAnswersModel" "ZoneAnswersModel" "n" "I", .lays "ZoneAnswersModel" "ZoneAnswersModel" "section" "[I", .lays "ZoneAnswersModel" "ZoneAnswersModel" "type" "[I", .lays "ZoneAnswersModel" "ZoneAnswersModel" "time" "[I", .lays "ZoneAnswersModel" "ZoneAnswersModel" "dataAt" "[I", .lays "ZoneAnswersModel" "ZoneAnswersModel" "dataSize" "[I", .lays "ZoneAnswersModel" "ZoneAnswersModel" "name" "[[B", .lays "ZoneAnswersModel" "ZoneAnswersModel" "rows" "[[B", .lays "ZoneAnswersModel" "ZoneAnswersModel" "answers" "I", .lays "ZoneAnswersModel" "ZoneAnswersModel" "code" "I", .lays "ZoneAnswersModel" "ZoneAnswersModel" "pool" "[B", .lays "ZoneAnswersModel" "ZoneAnswersModel" "pooled" "I", .lays "ZoneAnswersModel" "ZoneAnswersModel" "secure" "Z", .laysFinal "ZoneAnswersModel" "ZoneAnswersModel" "from" "[B", .lays "ZoneAnswersModel" "ZoneAnswersModel" "toldName" "[B", .lays "ZoneAnswersModel" "ZoneAnswersModel" "toldData" "[B"] : List Cond) := h
  simp only [List.mem_cons, List.not_mem_nil, or_false] at h1
  rcases h1 with rfl | rfl | rfl | rfl | rfl | rfl | rfl | rfl | rfl | rfl | rfl | rfl | rfl | rfl | rfl | rfl | rfl | rfl | rfl | rfl | rfl
  · exact w_1302
  · exact w_1304
  · exact w_1306
  · exact w_1308
  · exact w_1310
  · exact w_1312
  · exact w_1314
  · exact w_1316
  · exact w_1318
  · exact w_1320
  · exact w_1322
  · exact w_1324
  · exact w_1326
  · exact w_1328
  · exact w_1330
  · exact w_1332
  · exact w_1334
  · exact w_1336
  · exact w_1338
  · exact w_1340
  · exact w_1342
theorem zi_Re : ∀ w ∈ u_ws "ZoneAnswersModel$Rec" T_Re 5, w ∈ zw := by
  intro w h
  have h1 : w ∈ ([.lays "ZoneAnswersModel$Rec" "ZoneAnswersModel$Rec" "name" "[B", .lays "ZoneAnswersModel$Rec" "ZoneAnswersModel$Rec" "data" "[B", .lays "ZoneAnswersModel$Rec" "ZoneAnswersModel$Rec" "target" "[B", .lays "ZoneAnswersModel$Rec" "ZoneAnswersModel$Rec" "type" "I", .lays "ZoneAnswersModel$Rec" "ZoneAnswersModel$Rec" "time" "I"] : List Cond) := h
  simp only [List.mem_cons, List.not_mem_nil, or_false] at h1
  rcases h1 with rfl | rfl | rfl | rfl | rfl
  · exact w_1270
  · exact w_1272
  · exact w_1274
  · exact w_1276
  · exact w_1278
