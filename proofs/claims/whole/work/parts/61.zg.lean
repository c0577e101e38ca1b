theorem zQ.neq {E : zc_E} {G : zg_G} {s : State} {H H1 : Heap} {b : Nat} {x : va_E} (hQ : zQ E s H) (hG : zP E G H1) (h : G b = some x) : b ≠ E.2.2.2 0 := fun z => by rw [z, hQ.out hG] at h; cases h
theorem zL.new {E : zc_E} {G : zg_G} {a : Nat} {k : Int32} (h : G a = some (.inr (0, [.ref (E.2.2.2 0), .int 0, .int k]))) : zL E G a (E.2.2.2 0) [] := ⟨⟨k, by rw [show nI ([] : List Nat).length = 0 from nI_0]; exact h⟩, Or.inl ⟨rfl, rfl⟩⟩
theorem zL.un {E : zc_E} {G : zg_G} {a dd y : Nat} {xs : List Nat} (h : zL E G a dd (y :: xs)) : ∃ (k : Int32) (cap : Nat) (f : Nat → Option Nat), G a = some (.inr (0, [.ref dd, .int (nI (xs.length + 1)), .int k])) ∧ G dd = some (.inl (E.2.1 3, cap, .inr (.inr (.inr (.inr f))))) ∧ 0 < cap ∧ xs.length + 1 ≤ cap ∧ cap ≤ 4001 ∧ ∀ j, f j = (y :: xs)[j]? := by
  obtain ⟨⟨k, h1⟩, ⟨-, h2⟩ | ⟨cap, f, h2, h3, h4, h5, h6⟩⟩ := h
  · cases h2
  · exact ⟨k, cap, f, h1, h2, h3, h4, h5, h6⟩
theorem zL.grown {E : zc_E} {G1 G2 : zg_G} {a dd y : Nat} {s : State} {H H2 : Heap} (hQ : zQ E s H) (hG2 : zP E G2 H2) (h : zL E G2 a dd [y]) (hd : dd = E.2.2.2 0 ∨ G1 dd = none) : G1 dd = none ∧ ∃ (k : Int32) (cap : Nat) (f : Nat → Option Nat), G2 a = some (.inr (0, [.ref dd, .int (nI 1), .int k])) ∧ G2 dd = some (.inl (E.2.1 3, cap, .inr (.inr (.inr (.inr f))))) ∧ 0 < cap ∧ 1 ≤ cap ∧ cap ≤ 4001 ∧ ∀ j, f j = [y][j]? := by
  obtain ⟨k, cap, f, h1, h2, h3, h4, h5, h6⟩ := h.un
  refine ⟨hd.resolve_left (zQ.neq hQ hG2 h2), k, cap, f, h1, h2, h3, h4, h5, h6⟩
theorem w_8 : (.initialized "ZoneAnswers$Datum" : Cond) ∈ zw := zw_at 8 (by decide +kernel) (by decide +kernel)
theorem w_12 : (.initialized "ZoneAnswers$Owner" : Cond) ∈ zw := zw_at 12 (by decide +kernel) (by decide +kernel)
theorem w_27 : (.initialized "ZoneAnswers$Rrset" : Cond) ∈ zw := zw_at 27 (by decide +kernel) (by decide +kernel)
theorem w_129 : (.methodLink "ZoneAnswers$Zone" 18 ⟨"java/util/ArrayList", "clear", "()V"⟩ : Cond) ∈ zw := zw_at 129 (by decide +kernel) (by decide +kernel)
theorem w_130 : (.instanceMethod ⟨"java/util/ArrayList", "clear", "()V"⟩ : Cond) ∈ zw := zw_at 130 (by decide +kernel) (by decide +kernel)
theorem w_131 : (.selects "java/util/ArrayList" ⟨"java/util/ArrayList", "clear", "()V"⟩ ⟨"java/util/ArrayList", "clear", "()V"⟩ : Cond) ∈ zw := zw_at 131 (by decide +kernel) (by decide +kernel)
theorem w_132 : (.code ⟨"java/util/ArrayList", "clear", "()V"⟩ prog_35_method_40_code 4 none : Cond) ∈ zw := zw_at 132 (by decide +kernel) (by decide +kernel)
theorem w_133 : (.classLink "ZoneAnswers$Zone" 33 "ZoneAnswers$Datum" : Cond) ∈ zw := zw_at 133 (by decide +kernel) (by decide +kernel)
theorem w_134 : (.instantiable "ZoneAnswers$Datum" 2 : Cond) ∈ zw := zw_at 134 (by decide +kernel) (by decide +kernel)
theorem w_135 : (.methodLink "ZoneAnswers$Zone" 35 ⟨"ZoneAnswers$Datum", "<init>", "([BLZoneAnswers$Name;)V"⟩ : Cond) ∈ zw := zw_at 135 (by decide +kernel) (by decide +kernel)
theorem w_136 : (.instanceMethod ⟨"ZoneAnswers$Datum", "<init>", "([BLZoneAnswers$Name;)V"⟩ : Cond) ∈ zw := zw_at 136 (by decide +kernel) (by decide +kernel)
theorem w_137 : (.code ⟨"ZoneAnswers$Datum", "<init>", "([BLZoneAnswers$Name;)V"⟩ prog_3_method_1_code 3 none : Cond) ∈ zw := zw_at 137 (by decide +kernel) (by decide +kernel)
theorem w_151 : (.methodLink "ZoneAnswers$Zone" 38 ⟨"ZoneAnswers$Zone", "insert", "(LZoneAnswers$Name;ILZoneAnswers$Datum;)LZoneAnswers$Rrset;"⟩ : Cond) ∈ zw := zw_at 151 (by decide +kernel) (by decide +kernel)
theorem w_152 : (.instanceMethod ⟨"ZoneAnswers$Zone", "insert", "(LZoneAnswers$Name;ILZoneAnswers$Datum;)LZoneAnswers$Rrset;"⟩ : Cond) ∈ zw := zw_at 152 (by decide +kernel) (by decide +kernel)
theorem w_153 : (.selects "ZoneAnswers$Zone" ⟨"ZoneAnswers$Zone", "insert", "(LZoneAnswers$Name;ILZoneAnswers$Datum;)LZoneAnswers$Rrset;"⟩ ⟨"ZoneAnswers$Zone", "insert", "(LZoneAnswers$Name;ILZoneAnswers$Datum;)LZoneAnswers$Rrset;"⟩ : Cond) ∈ zw := zw_at 153 (by decide +kernel) (by decide +kernel)
theorem w_154 : (.code ⟨"ZoneAnswers$Zone", "insert", "(LZoneAnswers$Name;ILZoneAnswers$Datum;)LZoneAnswers$Rrset;"⟩ prog_10_method_11_code 6 (some (.object "ZoneAnswers$Rrset")) : Cond) ∈ zw := zw_at 154 (by decide +kernel) (by decide +kernel)
theorem w_197 : (.instantiable "ZoneAnswers$Owner" 3 : Cond) ∈ zw := zw_at 197 (by decide +kernel) (by decide +kernel)
theorem w_198 : (.methodLink "ZoneAnswers$Zone" 105 ⟨"ZoneAnswers$Owner", "<init>", "(LZoneAnswers$Name;)V"⟩ : Cond) ∈ zw := zw_at 198 (by decide +kernel) (by decide +kernel)
theorem w_199 : (.instanceMethod ⟨"ZoneAnswers$Owner", "<init>", "(LZoneAnswers$Name;)V"⟩ : Cond) ∈ zw := zw_at 199 (by decide +kernel) (by decide +kernel)
theorem w_200 : (.code ⟨"ZoneAnswers$Owner", "<init>", "(LZoneAnswers$Name;)V"⟩ prog_5_method_1_code 2 none : Cond) ∈ zw := zw_at 200 (by decide +kernel) (by decide +kernel)
theorem w_220 : (.methodLink "ZoneAnswers$Zone" 108 ⟨"java/util/ArrayList", "add", "(ILjava/lang/Object;)V"⟩ : Cond) ∈ zw := zw_at 220 (by decide +kernel) (by decide +kernel)
theorem w_221 : (.instanceMethod ⟨"java/util/ArrayList", "add", "(ILjava/lang/Object;)V"⟩ : Cond) ∈ zw := zw_at 221 (by decide +kernel) (by decide +kernel)
theorem w_222 : (.selects "java/util/ArrayList" ⟨"java/util/ArrayList", "add", "(ILjava/lang/Object;)V"⟩ ⟨"java/util/ArrayList", "add", "(ILjava/lang/Object;)V"⟩ : Cond) ∈ zw := zw_at 222 (by decide +kernel) (by decide +kernel)
theorem w_223 : (.code ⟨"java/util/ArrayList", "add", "(ILjava/lang/Object;)V"⟩ prog_35_method_26_code 5 none : Cond) ∈ zw := zw_at 223 (by decide +kernel) (by decide +kernel)
theorem w_602 : (.methodLink "ZoneAnswers$Zone" 111 ⟨"ZoneAnswers$Owner", "findOrMake", "(I)LZoneAnswers$Rrset;"⟩ : Cond) ∈ zw := zw_at 602 (by decide +kernel) (by decide +kernel)
theorem w_603 : (.instanceMethod ⟨"ZoneAnswers$Owner", "findOrMake", "(I)LZoneAnswers$Rrset;"⟩ : Cond) ∈ zw := zw_at 603 (by decide +kernel) (by decide +kernel)
theorem w_604 : (.selects "ZoneAnswers$Owner" ⟨"ZoneAnswers$Owner", "findOrMake", "(I)LZoneAnswers$Rrset;"⟩ ⟨"ZoneAnswers$Owner", "findOrMake", "(I)LZoneAnswers$Rrset;"⟩ : Cond) ∈ zw := zw_at 604 (by decide +kernel) (by decide +kernel)
theorem w_605 : (.code ⟨"ZoneAnswers$Owner", "findOrMake", "(I)LZoneAnswers$Rrset;"⟩ prog_5_method_5_code 3 (some (.object "ZoneAnswers$Rrset")) : Cond) ∈ zw := zw_at 605 (by decide +kernel) (by decide +kernel)
theorem w_609 : (.instantiable "ZoneAnswers$Rrset" 3 : Cond) ∈ zw := zw_at 609 (by decide +kernel) (by decide +kernel)
theorem w_610 : (.methodLink "ZoneAnswers$Owner" 40 ⟨"ZoneAnswers$Rrset", "<init>", "(I)V"⟩ : Cond) ∈ zw := zw_at 610 (by decide +kernel) (by decide +kernel)
theorem w_611 : (.instanceMethod ⟨"ZoneAnswers$Rrset", "<init>", "(I)V"⟩ : Cond) ∈ zw := zw_at 611 (by decide +kernel) (by decide +kernel)
theorem w_612 : (.code ⟨"ZoneAnswers$Rrset", "<init>", "(I)V"⟩ prog_6_method_1_code 2 none : Cond) ∈ zw := zw_at 612 (by decide +kernel) (by decide +kernel)
theorem w_622 : (.fieldLink "ZoneAnswers$Zone" 46 "ZoneAnswers$Rrset" "time" "I" : Cond) ∈ zw := zw_at 622 (by decide +kernel) (by decide +kernel)
theorem w_628 : (.fieldLink "ZoneAnswers$Zone" 68 "ZoneAnswers$Rrset" "data" "Ljava/util/ArrayList;" : Cond) ∈ zw := zw_at 628 (by decide +kernel) (by decide +kernel)
theorem w_636 : (.methodLink "ZoneAnswers$Owner" 43 ⟨"java/util/ArrayList", "add", "(ILjava/lang/Object;)V"⟩ : Cond) ∈ zw := zw_at 636 (by decide +kernel) (by decide +kernel)
theorem w_637 : (.methodLink "ZoneAnswers$Zone" 71 ⟨"java/util/ArrayList", "add", "(Ljava/lang/Object;)Z"⟩ : Cond) ∈ zw := zw_at 637 (by decide +kernel) (by decide +kernel)
theorem w_638 : (.instanceMethod ⟨"java/util/ArrayList", "add", "(Ljava/lang/Object;)Z"⟩ : Cond) ∈ zw := zw_at 638 (by decide +kernel) (by decide +kernel)
theorem w_639 : (.selects "java/util/ArrayList" ⟨"java/util/ArrayList", "add", "(Ljava/lang/Object;)Z"⟩ ⟨"java/util/ArrayList", "add", "(Ljava/lang/Object;)Z"⟩ : Cond) ∈ zw := zw_at 639 (by decide +kernel) (by decide +kernel)
theorem w_640 : (.code ⟨"java/util/ArrayList", "add", "(Ljava/lang/Object;)Z"⟩ prog_35_method_25_code 2 (some .boolean) : Cond) ∈ zw := zw_at 640 (by decide +kernel) (by decide +kernel)
theorem w_645 : (.methodLink "ZoneAnswers$Zone" 115 ⟨"ZoneAnswers$Zone", "markCuts", "()V"⟩ : Cond) ∈ zw := zw_at 645 (by decide +kernel) (by decide +kernel)
theorem w_647 : (.instanceMethod ⟨"ZoneAnswers$Zone", "markCuts", "()V"⟩ : Cond) ∈ zw := zw_at 647 (by decide +kernel) (by decide +kernel)
theorem w_648 : (.code ⟨"ZoneAnswers$Zone", "markCuts", "()V"⟩ prog_10_method_15_code 4 none : Cond) ∈ zw := zw_at 648 (by decide +kernel) (by decide +kernel)
theorem w_657 : (.methodLink "ZoneAnswers$Zone" 51 ⟨"ZoneAnswers$Zone", "changeSerial", "(I)V"⟩ : Cond) ∈ zw := zw_at 657 (by decide +kernel) (by decide +kernel)
theorem w_658 : (.instanceMethod ⟨"ZoneAnswers$Zone", "changeSerial", "(I)V"⟩ : Cond) ∈ zw := zw_at 658 (by decide +kernel) (by decide +kernel)
theorem w_659 : (.selects "ZoneAnswers$Zone" ⟨"ZoneAnswers$Zone", "changeSerial", "(I)V"⟩ ⟨"ZoneAnswers$Zone", "changeSerial", "(I)V"⟩ : Cond) ∈ zw := zw_at 659 (by decide +kernel) (by decide +kernel)
theorem w_660 : (.code ⟨"ZoneAnswers$Zone", "changeSerial", "(I)V"⟩ prog_10_method_7_code 2 none : Cond) ∈ zw := zw_at 660 (by decide +kernel) (by decide +kernel)
theorem w_661 : (.methodLink "ZoneAnswers$Zone" 59 ⟨"[B", "clone", "()Ljava/lang/Object;"⟩ : Cond) ∈ zw := zw_at 661 (by decide +kernel) (by decide +kernel)
theorem w_662 : (.classLink "ZoneAnswers$Zone" 60 "[B" : Cond) ∈ zw := zw_at 662 (by decide +kernel) (by decide +kernel)
theorem wp_9 : (.selects "ZoneAnswers$Zone" ⟨"ZoneAnswers$Zone", "markCuts", "()V"⟩ ⟨"ZoneAnswers$Zone", "markCuts", "()V"⟩ : Cond) ∈ zw := zw_pv 9 (y := ⟨"ZoneAnswers$Zone", "markCuts", "()V"⟩) rfl (by decide +kernel)
abbrev c_Zo_markCuts : ByteArray := prog_10_method_15_code
abbrev y_Zo_markCuts : MethodName := ⟨"ZoneAnswers$Zone", "markCuts", "()V"⟩
theorem d_Zo_markCuts_0 : decode c_Zo_markCuts 0 = .ok (.aconst_null, 1) := by decide +kernel
theorem d_Zo_markCuts_1 : decode c_Zo_markCuts 1 = .ok (.astore_n 1, 1) := by decide +kernel
theorem d_Zo_markCuts_2 : decode c_Zo_markCuts 2 = .ok (.iconst 1, 1) := by decide +kernel
theorem d_Zo_markCuts_3 : decode c_Zo_markCuts 3 = .ok (.istore_n 2, 1) := by decide +kernel
theorem d_Zo_markCuts_4 : decode c_Zo_markCuts 4 = .ok (.iload_n 2, 1) := by decide +kernel
theorem d_Zo_markCuts_5 : decode c_Zo_markCuts 5 = .ok (.aload_n 0, 1) := by decide +kernel
theorem d_Zo_markCuts_6 : decode c_Zo_markCuts 6 = .ok (.getfield 12, 3) := by decide +kernel
theorem d_Zo_markCuts_9 : decode c_Zo_markCuts 9 = .ok (.invokevirtual 75, 3) := by decide +kernel
theorem d_Zo_markCuts_12 : decode c_Zo_markCuts 12 = .ok (.if_icmp .ge 58, 3) := by decide +kernel
theorem d_Zo_markCuts_15 : decode c_Zo_markCuts 15 = .ok (.aload_n 0, 1) := by decide +kernel
theorem d_Zo_markCuts_16 : decode c_Zo_markCuts 16 = .ok (.getfield 12, 3) := by decide +kernel
theorem d_Zo_markCuts_19 : decode c_Zo_markCuts 19 = .ok (.iload_n 2, 1) := by decide +kernel
theorem d_Zo_markCuts_20 : decode c_Zo_markCuts 20 = .ok (.invokevirtual 79, 3) := by decide +kernel
theorem d_Zo_markCuts_23 : decode c_Zo_markCuts 23 = .ok (.checkcast 83, 3) := by decide +kernel
theorem d_Zo_markCuts_26 : decode c_Zo_markCuts 26 = .ok (.astore_n 3, 1) := by decide +kernel
theorem d_Zo_markCuts_27 : decode c_Zo_markCuts 27 = .ok (.aload_n 1, 1) := by decide +kernel
theorem d_Zo_markCuts_28 : decode c_Zo_markCuts 28 = .ok (.ifnull 17, 3) := by decide +kernel
theorem d_Zo_markCuts_31 : decode c_Zo_markCuts 31 = .ok (.aload_n 3, 1) := by decide +kernel
theorem d_Zo_markCuts_32 : decode c_Zo_markCuts 32 = .ok (.getfield 85, 3) := by decide +kernel
theorem d_Zo_markCuts_35 : decode c_Zo_markCuts 35 = .ok (.aload_n 1, 1) := by decide +kernel
theorem d_Zo_markCuts_36 : decode c_Zo_markCuts 36 = .ok (.getfield 85, 3) := by decide +kernel
theorem d_Zo_markCuts_39 : decode c_Zo_markCuts 39 = .ok (.invokevirtual 140, 3) := by decide +kernel
theorem d_Zo_markCuts_42 : decode c_Zo_markCuts 42 = .ok (.ifCond .ne 17, 3) := by decide +kernel
theorem d_Zo_markCuts_45 : decode c_Zo_markCuts 45 = .ok (.aload_n 3, 1) := by decide +kernel
theorem d_Zo_markCuts_46 : decode c_Zo_markCuts 46 = .ok (.iconst 2, 1) := by decide +kernel
theorem d_Zo_markCuts_47 : decode c_Zo_markCuts 47 = .ok (.invokevirtual 143, 3) := by decide +kernel
theorem d_Zo_markCuts_50 : decode c_Zo_markCuts 50 = .ok (.ifnull 7, 3) := by decide +kernel
theorem d_Zo_markCuts_53 : decode c_Zo_markCuts 53 = .ok (.aload_n 3, 1) := by decide +kernel
theorem d_Zo_markCuts_54 : decode c_Zo_markCuts 54 = .ok (.goto 4, 3) := by decide +kernel
theorem d_Zo_markCuts_57 : decode c_Zo_markCuts 57 = .ok (.aconst_null, 1) := by decide +kernel
theorem d_Zo_markCuts_58 : decode c_Zo_markCuts 58 = .ok (.astore_n 1, 1) := by decide +kernel
theorem d_Zo_markCuts_59 : decode c_Zo_markCuts 59 = .ok (.aload_n 3, 1) := by decide +kernel
theorem d_Zo_markCuts_60 : decode c_Zo_markCuts 60 = .ok (.aload_n 1, 1) := by decide +kernel
theorem d_Zo_markCuts_61 : decode c_Zo_markCuts 61 = .ok (.putfield 146, 3) := by decide +kernel
theorem d_Zo_markCuts_64 : decode c_Zo_markCuts 64 = .ok (.iinc 2 1, 3) := by decide +kernel
theorem d_Zo_markCuts_67 : decode c_Zo_markCuts 67 = .ok (.goto (-63), 3) := by decide +kernel
theorem d_Zo_markCuts_70 : decode c_Zo_markCuts 70 = .ok (.return_, 1) := by decide +kernel
abbrev c_Ow_findOrMake : ByteArray := prog_5_method_5_code
abbrev y_Ow_findOrMake : MethodName := ⟨"ZoneAnswers$Owner", "findOrMake", "(I)LZoneAnswers$Rrset;"⟩
theorem d_Ow_findOrMake_0 : decode c_Ow_findOrMake 0 = .ok (.iconst 0, 1) := by decide +kernel
theorem d_Ow_findOrMake_1 : decode c_Ow_findOrMake 1 = .ok (.istore_n 2, 1) := by decide +kernel
theorem d_Ow_findOrMake_2 : decode c_Ow_findOrMake 2 = .ok (.iload_n 2, 1) := by decide +kernel
theorem d_Ow_findOrMake_3 : decode c_Ow_findOrMake 3 = .ok (.aload_n 0, 1) := by decide +kernel
theorem d_Ow_findOrMake_4 : decode c_Ow_findOrMake 4 = .ok (.getfield 18, 3) := by decide +kernel
theorem d_Ow_findOrMake_7 : decode c_Ow_findOrMake 7 = .ok (.invokevirtual 26, 3) := by decide +kernel
theorem d_Ow_findOrMake_10 : decode c_Ow_findOrMake 10 = .ok (.if_icmp .ge 27, 3) := by decide +kernel
theorem d_Ow_findOrMake_13 : decode c_Ow_findOrMake 13 = .ok (.aload_n 0, 1) := by decide +kernel
theorem d_Ow_findOrMake_14 : decode c_Ow_findOrMake 14 = .ok (.getfield 18, 3) := by decide +kernel
theorem d_Ow_findOrMake_17 : decode c_Ow_findOrMake 17 = .ok (.iload_n 2, 1) := by decide +kernel
theorem d_Ow_findOrMake_18 : decode c_Ow_findOrMake 18 = .ok (.invokevirtual 30, 3) := by decide +kernel
theorem d_Ow_findOrMake_21 : decode c_Ow_findOrMake 21 = .ok (.checkcast 34, 3) := by decide +kernel
theorem d_Ow_findOrMake_24 : decode c_Ow_findOrMake 24 = .ok (.getfield 36, 3) := by decide +kernel
theorem d_Ow_findOrMake_27 : decode c_Ow_findOrMake 27 = .ok (.iload_n 1, 1) := by decide +kernel
theorem d_Ow_findOrMake_28 : decode c_Ow_findOrMake 28 = .ok (.if_icmp .ge 9, 3) := by decide +kernel
theorem d_Ow_findOrMake_31 : decode c_Ow_findOrMake 31 = .ok (.iinc 2 1, 3) := by decide +kernel
theorem d_Ow_findOrMake_34 : decode c_Ow_findOrMake 34 = .ok (.goto (-32), 3) := by decide +kernel
theorem d_Ow_findOrMake_37 : decode c_Ow_findOrMake 37 = .ok (.iload_n 2, 1) := by decide +kernel
theorem d_Ow_findOrMake_38 : decode c_Ow_findOrMake 38 = .ok (.aload_n 0, 1) := by decide +kernel
theorem d_Ow_findOrMake_39 : decode c_Ow_findOrMake 39 = .ok (.getfield 18, 3) := by decide +kernel
theorem d_Ow_findOrMake_42 : decode c_Ow_findOrMake 42 = .ok (.invokevirtual 26, 3) := by decide +kernel
theorem d_Ow_findOrMake_45 : decode c_Ow_findOrMake 45 = .ok (.if_icmp .eq 21, 3) := by decide +kernel
theorem d_Ow_findOrMake_48 : decode c_Ow_findOrMake 48 = .ok (.aload_n 0, 1) := by decide +kernel
theorem d_Ow_findOrMake_49 : decode c_Ow_findOrMake 49 = .ok (.getfield 18, 3) := by decide +kernel
theorem d_Ow_findOrMake_52 : decode c_Ow_findOrMake 52 = .ok (.iload_n 2, 1) := by decide +kernel
theorem d_Ow_findOrMake_53 : decode c_Ow_findOrMake 53 = .ok (.invokevirtual 30, 3) := by decide +kernel
theorem d_Ow_findOrMake_56 : decode c_Ow_findOrMake 56 = .ok (.checkcast 34, 3) := by decide +kernel
theorem d_Ow_findOrMake_59 : decode c_Ow_findOrMake 59 = .ok (.getfield 36, 3) := by decide +kernel
theorem d_Ow_findOrMake_62 : decode c_Ow_findOrMake 62 = .ok (.iload_n 1, 1) := by decide +kernel
theorem d_Ow_findOrMake_63 : decode c_Ow_findOrMake 63 = .ok (.if_icmp .eq 19, 3) := by decide +kernel
theorem d_Ow_findOrMake_66 : decode c_Ow_findOrMake 66 = .ok (.aload_n 0, 1) := by decide +kernel
theorem d_Ow_findOrMake_67 : decode c_Ow_findOrMake 67 = .ok (.getfield 18, 3) := by decide +kernel
theorem d_Ow_findOrMake_70 : decode c_Ow_findOrMake 70 = .ok (.iload_n 2, 1) := by decide +kernel
theorem d_Ow_findOrMake_71 : decode c_Ow_findOrMake 71 = .ok (.new 34, 3) := by decide +kernel
theorem d_Ow_findOrMake_74 : decode c_Ow_findOrMake 74 = .ok (.dup, 1) := by decide +kernel
theorem d_Ow_findOrMake_75 : decode c_Ow_findOrMake 75 = .ok (.iload_n 1, 1) := by decide +kernel
theorem d_Ow_findOrMake_76 : decode c_Ow_findOrMake 76 = .ok (.invokespecial 40, 3) := by decide +kernel
theorem d_Ow_findOrMake_79 : decode c_Ow_findOrMake 79 = .ok (.invokevirtual 43, 3) := by decide +kernel
theorem d_Ow_findOrMake_82 : decode c_Ow_findOrMake 82 = .ok (.aload_n 0, 1) := by decide +kernel
theorem d_Ow_findOrMake_83 : decode c_Ow_findOrMake 83 = .ok (.getfield 18, 3) := by decide +kernel
theorem d_Ow_findOrMake_86 : decode c_Ow_findOrMake 86 = .ok (.iload_n 2, 1) := by decide +kernel
theorem d_Ow_findOrMake_87 : decode c_Ow_findOrMake 87 = .ok (.invokevirtual 30, 3) := by decide +kernel
theorem d_Ow_findOrMake_90 : decode c_Ow_findOrMake 90 = .ok (.checkcast 34, 3) := by decide +kernel
theorem d_Ow_findOrMake_93 : decode c_Ow_findOrMake 93 = .ok (.areturn, 1) := by decide +kernel
abbrev c_Zo_insert : ByteArray := prog_10_method_11_code
abbrev y_Zo_insert : MethodName := ⟨"ZoneAnswers$Zone", "insert", "(LZoneAnswers$Name;ILZoneAnswers$Datum;)LZoneAnswers$Rrset;"⟩
theorem d_Zo_insert_0 : decode c_Zo_insert 0 = .ok (.aload_n 0, 1) := by decide +kernel
theorem d_Zo_insert_1 : decode c_Zo_insert 1 = .ok (.aload_n 1, 1) := by decide +kernel
theorem d_Zo_insert_2 : decode c_Zo_insert 2 = .ok (.invokevirtual 98, 3) := by decide +kernel
theorem d_Zo_insert_5 : decode c_Zo_insert 5 = .ok (.istore 4, 2) := by decide +kernel
theorem d_Zo_insert_7 : decode c_Zo_insert 7 = .ok (.aload_n 0, 1) := by decide +kernel
theorem d_Zo_insert_8 : decode c_Zo_insert 8 = .ok (.iload 4, 2) := by decide +kernel
theorem d_Zo_insert_10 : decode c_Zo_insert 10 = .ok (.aload_n 1, 1) := by decide +kernel
theorem d_Zo_insert_11 : decode c_Zo_insert 11 = .ok (.invokevirtual 101, 3) := by decide +kernel
theorem d_Zo_insert_14 : decode c_Zo_insert 14 = .ok (.ifCond .ne 20, 3) := by decide +kernel
theorem d_Zo_insert_17 : decode c_Zo_insert 17 = .ok (.aload_n 0, 1) := by decide +kernel
theorem d_Zo_insert_18 : decode c_Zo_insert 18 = .ok (.getfield 12, 3) := by decide +kernel
theorem d_Zo_insert_21 : decode c_Zo_insert 21 = .ok (.iload 4, 2) := by decide +kernel
theorem d_Zo_insert_23 : decode c_Zo_insert 23 = .ok (.new 83, 3) := by decide +kernel
theorem d_Zo_insert_26 : decode c_Zo_insert 26 = .ok (.dup, 1) := by decide +kernel
theorem d_Zo_insert_27 : decode c_Zo_insert 27 = .ok (.aload_n 1, 1) := by decide +kernel
theorem d_Zo_insert_28 : decode c_Zo_insert 28 = .ok (.invokespecial 105, 3) := by decide +kernel
theorem d_Zo_insert_31 : decode c_Zo_insert 31 = .ok (.invokevirtual 108, 3) := by decide +kernel
theorem d_Zo_insert_34 : decode c_Zo_insert 34 = .ok (.aload_n 0, 1) := by decide +kernel
theorem d_Zo_insert_35 : decode c_Zo_insert 35 = .ok (.getfield 12, 3) := by decide +kernel
theorem d_Zo_insert_38 : decode c_Zo_insert 38 = .ok (.iload 4, 2) := by decide +kernel
theorem d_Zo_insert_40 : decode c_Zo_insert 40 = .ok (.invokevirtual 79, 3) := by decide +kernel
theorem d_Zo_insert_43 : decode c_Zo_insert 43 = .ok (.checkcast 83, 3) := by decide +kernel
theorem d_Zo_insert_46 : decode c_Zo_insert 46 = .ok (.iload_n 2, 1) := by decide +kernel
theorem d_Zo_insert_47 : decode c_Zo_insert 47 = .ok (.invokevirtual 111, 3) := by decide +kernel
theorem d_Zo_insert_50 : decode c_Zo_insert 50 = .ok (.astore 5, 2) := by decide +kernel
theorem d_Zo_insert_52 : decode c_Zo_insert 52 = .ok (.aload 5, 2) := by decide +kernel
theorem d_Zo_insert_54 : decode c_Zo_insert 54 = .ok (.getfield 68, 3) := by decide +kernel
theorem d_Zo_insert_57 : decode c_Zo_insert 57 = .ok (.aload_n 3, 1) := by decide +kernel
theorem d_Zo_insert_58 : decode c_Zo_insert 58 = .ok (.invokevirtual 71, 3) := by decide +kernel
theorem d_Zo_insert_61 : decode c_Zo_insert 61 = .ok (.pop, 1) := by decide +kernel
theorem d_Zo_insert_62 : decode c_Zo_insert 62 = .ok (.aload_n 0, 1) := by decide +kernel
theorem d_Zo_insert_63 : decode c_Zo_insert 63 = .ok (.dup, 1) := by decide +kernel
theorem d_Zo_insert_64 : decode c_Zo_insert 64 = .ok (.getfield 21, 3) := by decide +kernel
theorem d_Zo_insert_67 : decode c_Zo_insert 67 = .ok (.iconst 1, 1) := by decide +kernel
theorem d_Zo_insert_68 : decode c_Zo_insert 68 = .ok (.iadd, 1) := by decide +kernel
theorem d_Zo_insert_69 : decode c_Zo_insert 69 = .ok (.putfield 21, 3) := by decide +kernel
theorem d_Zo_insert_72 : decode c_Zo_insert 72 = .ok (.aload_n 0, 1) := by decide +kernel
theorem d_Zo_insert_73 : decode c_Zo_insert 73 = .ok (.invokevirtual 115, 3) := by decide +kernel
theorem d_Zo_insert_76 : decode c_Zo_insert 76 = .ok (.aload 5, 2) := by decide +kernel
theorem d_Zo_insert_78 : decode c_Zo_insert 78 = .ok (.areturn, 1) := by decide +kernel
abbrev c_Zo_changeSerial : ByteArray := prog_10_method_7_code
abbrev y_Zo_changeSerial : MethodName := ⟨"ZoneAnswers$Zone", "changeSerial", "(I)V"⟩
theorem d_Zo_changeSerial_0 : decode c_Zo_changeSerial 0 = .ok (.aload_n 0, 1) := by decide +kernel
theorem d_Zo_changeSerial_1 : decode c_Zo_changeSerial 1 = .ok (.aload_n 0, 1) := by decide +kernel
theorem d_Zo_changeSerial_2 : decode c_Zo_changeSerial 2 = .ok (.getfield 29, 3) := by decide +kernel
theorem d_Zo_changeSerial_5 : decode c_Zo_changeSerial 5 = .ok (.invokevirtual 59, 3) := by decide +kernel
theorem d_Zo_changeSerial_8 : decode c_Zo_changeSerial 8 = .ok (.checkcast 60, 3) := by decide +kernel
theorem d_Zo_changeSerial_11 : decode c_Zo_changeSerial 11 = .ok (.putfield 29, 3) := by decide +kernel
theorem d_Zo_changeSerial_14 : decode c_Zo_changeSerial 14 = .ok (.aload_n 0, 1) := by decide +kernel
theorem d_Zo_changeSerial_15 : decode c_Zo_changeSerial 15 = .ok (.getfield 29, 3) := by decide +kernel
theorem d_Zo_changeSerial_18 : decode c_Zo_changeSerial 18 = .ok (.aload_n 0, 1) := by decide +kernel
theorem d_Zo_changeSerial_19 : decode c_Zo_changeSerial 19 = .ok (.getfield 29, 3) := by decide +kernel
theorem d_Zo_changeSerial_22 : decode c_Zo_changeSerial 22 = .ok (.arraylength, 1) := by decide +kernel
theorem d_Zo_changeSerial_23 : decode c_Zo_changeSerial 23 = .ok (.bipush 20, 2) := by decide +kernel
theorem d_Zo_changeSerial_25 : decode c_Zo_changeSerial 25 = .ok (.isub, 1) := by decide +kernel
theorem d_Zo_changeSerial_26 : decode c_Zo_changeSerial 26 = .ok (.iload_n 1, 1) := by decide +kernel
theorem d_Zo_changeSerial_27 : decode c_Zo_changeSerial 27 = .ok (.invokestatic 64, 3) := by decide +kernel
theorem d_Zo_changeSerial_30 : decode c_Zo_changeSerial 30 = .ok (.aload_n 0, 1) := by decide +kernel
theorem d_Zo_changeSerial_31 : decode c_Zo_changeSerial 31 = .ok (.getfield 42, 3) := by decide +kernel
theorem d_Zo_changeSerial_34 : decode c_Zo_changeSerial 34 = .ok (.getfield 68, 3) := by decide +kernel
theorem d_Zo_changeSerial_37 : decode c_Zo_changeSerial 37 = .ok (.invokevirtual 18, 3) := by decide +kernel
theorem d_Zo_changeSerial_40 : decode c_Zo_changeSerial 40 = .ok (.aload_n 0, 1) := by decide +kernel
theorem d_Zo_changeSerial_41 : decode c_Zo_changeSerial 41 = .ok (.getfield 42, 3) := by decide +kernel
theorem d_Zo_changeSerial_44 : decode c_Zo_changeSerial 44 = .ok (.getfield 68, 3) := by decide +kernel
theorem d_Zo_changeSerial_47 : decode c_Zo_changeSerial 47 = .ok (.new 33, 3) := by decide +kernel
theorem d_Zo_changeSerial_50 : decode c_Zo_changeSerial 50 = .ok (.dup, 1) := by decide +kernel
theorem d_Zo_changeSerial_51 : decode c_Zo_changeSerial 51 = .ok (.aload_n 0, 1) := by decide +kernel
theorem d_Zo_changeSerial_52 : decode c_Zo_changeSerial 52 = .ok (.getfield 29, 3) := by decide +kernel
theorem d_Zo_changeSerial_55 : decode c_Zo_changeSerial 55 = .ok (.aconst_null, 1) := by decide +kernel
theorem d_Zo_changeSerial_56 : decode c_Zo_changeSerial 56 = .ok (.invokespecial 35, 3) := by decide +kernel
theorem d_Zo_changeSerial_59 : decode c_Zo_changeSerial 59 = .ok (.invokevirtual 71, 3) := by decide +kernel
theorem d_Zo_changeSerial_62 : decode c_Zo_changeSerial 62 = .ok (.pop, 1) := by decide +kernel
theorem d_Zo_changeSerial_63 : decode c_Zo_changeSerial 63 = .ok (.return_, 1) := by decide +kernel
abbrev c_Zo_begin : ByteArray := prog_10_method_2_code
abbrev y_Zo_begin : MethodName := ⟨"ZoneAnswers$Zone", "begin", "(LZoneAnswers$Name;[BI)V"⟩
theorem d_Zo_begin_0 : decode c_Zo_begin 0 = .ok (.aload_n 0, 1) := by decide +kernel
theorem d_Zo_begin_1 : decode c_Zo_begin 1 = .ok (.getfield 12, 3) := by decide +kernel
theorem d_Zo_begin_4 : decode c_Zo_begin 4 = .ok (.invokevirtual 18, 3) := by decide +kernel
theorem d_Zo_begin_7 : decode c_Zo_begin 7 = .ok (.aload_n 0, 1) := by decide +kernel
theorem d_Zo_begin_8 : decode c_Zo_begin 8 = .ok (.iconst 0, 1) := by decide +kernel
theorem d_Zo_begin_9 : decode c_Zo_begin 9 = .ok (.putfield 21, 3) := by decide +kernel
theorem d_Zo_begin_12 : decode c_Zo_begin 12 = .ok (.aload_n 0, 1) := by decide +kernel
theorem d_Zo_begin_13 : decode c_Zo_begin 13 = .ok (.aload_n 1, 1) := by decide +kernel
theorem d_Zo_begin_14 : decode c_Zo_begin 14 = .ok (.putfield 25, 3) := by decide +kernel
theorem d_Zo_begin_17 : decode c_Zo_begin 17 = .ok (.aload_n 0, 1) := by decide +kernel
theorem d_Zo_begin_18 : decode c_Zo_begin 18 = .ok (.aload_n 2, 1) := by decide +kernel
theorem d_Zo_begin_19 : decode c_Zo_begin 19 = .ok (.putfield 29, 3) := by decide +kernel
theorem d_Zo_begin_22 : decode c_Zo_begin 22 = .ok (.aload_n 0, 1) := by decide +kernel
theorem d_Zo_begin_23 : decode c_Zo_begin 23 = .ok (.aload_n 0, 1) := by decide +kernel
theorem d_Zo_begin_24 : decode c_Zo_begin 24 = .ok (.aload_n 1, 1) := by decide +kernel
theorem d_Zo_begin_25 : decode c_Zo_begin 25 = .ok (.bipush 6, 2) := by decide +kernel
theorem d_Zo_begin_27 : decode c_Zo_begin 27 = .ok (.new 33, 3) := by decide +kernel
theorem d_Zo_begin_30 : decode c_Zo_begin 30 = .ok (.dup, 1) := by decide +kernel
theorem d_Zo_begin_31 : decode c_Zo_begin 31 = .ok (.aload_n 2, 1) := by decide +kernel
theorem d_Zo_begin_32 : decode c_Zo_begin 32 = .ok (.aconst_null, 1) := by decide +kernel
theorem d_Zo_begin_33 : decode c_Zo_begin 33 = .ok (.invokespecial 35, 3) := by decide +kernel
theorem d_Zo_begin_36 : decode c_Zo_begin 36 = .ok (.invokevirtual 38, 3) := by decide +kernel
theorem d_Zo_begin_39 : decode c_Zo_begin 39 = .ok (.putfield 42, 3) := by decide +kernel
theorem d_Zo_begin_42 : decode c_Zo_begin 42 = .ok (.aload_n 0, 1) := by decide +kernel
theorem d_Zo_begin_43 : decode c_Zo_begin 43 = .ok (.getfield 42, 3) := by decide +kernel
theorem d_Zo_begin_46 : decode c_Zo_begin 46 = .ok (.iload_n 3, 1) := by decide +kernel
theorem d_Zo_begin_47 : decode c_Zo_begin 47 = .ok (.putfield 46, 3) := by decide +kernel
theorem d_Zo_begin_50 : decode c_Zo_begin 50 = .ok (.aload_n 0, 1) := by decide +kernel
theorem d_Zo_begin_51 : decode c_Zo_begin 51 = .ok (.iconst 1, 1) := by decide +kernel
theorem d_Zo_begin_52 : decode c_Zo_begin 52 = .ok (.invokevirtual 51, 3) := by decide +kernel
theorem d_Zo_begin_55 : decode c_Zo_begin 55 = .ok (.return_, 1) := by decide +kernel
set_option maxHeartbeats 4000000 in
set_option maxRecDepth 100000 in
/-- Zone.place(name), of a zone with no owners -/
theorem t_Zo_place_e (l : Launch) (E : zc_E) (G : zg_G) (a la : Nat) (tv sv dv : Value) (rc : Int32) (ha : G a = some (.inr (9, [.ref la, tv, sv, dv, .int rc]))) (k : Int32) (hla : G la = some (.inr (0, [.ref (E.2.2.2 0), .int 0, .int k]))) (x : Nat) : zMi l E y_Zo_place c_Zo_place 5 (some .int) rm_Zo_place [.ref a, .ref x] G (fun (r : Int32) (G2 : zg_G) => r = nI 0 ∧ G2 = G) := by
  refine zMi.of (by decide) (Nat.le_of_ble_eq_true rfl) ?_
  intro p e s m args below meth c Q hZ hG hret ls hl
  obtain ⟨hx, hb, hr, hts, hown, hlocks, hml, hnm, hbase, hK, hN, hQ⟩ := hZ
  have hl : lv_has ls 5 [(0, .ref a), (1, .ref x)] := hl
  have hS : zg_S (zc_b E) s.heap s.heap [] := va_S.rf
  refine lv_iconst (v := 0) hx hb d_Zo_place_0 (by decide) ?_
  refine lv_istore_n (lv' := [(2, .int 0), (0, .ref a), (1, .ref x)]) hx hb d_Zo_place_1 rfl hl (by decide) rfl (fun ls hl => ?_)
  refine lv_aload_n hx hb d_Zo_place_2 rfl (lv_at hl 1 rfl) ?_
  refine zg_get (ci := 9) (C := "ZoneAnswers$Zone") (T := T_Zo) (N := 5) hx hb hts zi_Zo hown hK hG ha rfl 0 (by decide) (hts _ w_91) (fun _ h9 => h9) rfl d_Zo_place_3 ?_
  refine zk_i (va_runV (As := []) (rest := []) ⟨hx, hb, hml, hown, hts⟩ (t_AL_size l E G la (.ref (E.2.2.2 0)) 0 k hla) (zcV 0 hts w_159 w_160 w_161 w_6 w_162 (by decide +kernel) ⟨Nat.le_of_ble_eq_true rfl, Nat.le_of_ble_eq_true rfl⟩) (zc_preV hbase hK hN hQ hG hS hla rfl) rfl rfl hl.1 rfl (lv_room (Nat.le_of_ble_eq_true rfl)) d_Zo_place_6 ⟨(by decide), (by decide)⟩) hS (fun r6 G6 H locs hp6 hG hS => ?_)
  have hG : zP E G H := hp6.2 ▸ hG
  refine zi_as (y := 0) hp6.1 ?_
  refine lv_istore_n (lv' := [(3, .int 0), (2, .int 0), (0, .ref a), (1, .ref x)]) hx hb d_Zo_place_9 rfl hl (by decide) rfl (fun ls hl => ?_)
  refine lv_iload_n hx hb d_Zo_place_10 rfl (lv_at hl 1 rfl) ?_
  refine lv_iload_n hx hb d_Zo_place_11 rfl (lv_at hl 0 rfl) ?_
  refine lv_icmp_ge (tgt := 58) hx hb d_Zo_place_12 (by decide) (fun c12 => ?_) (fun c12 => ?_)
  · have b12 : 0 ≤ 0 := (nI_leI (a := 0) (b := 0) (by omega) (by omega)).mp c12
    refine lv_iload_n hx hb d_Zo_place_58 rfl (lv_at hl 1 rfl) ?_
    exact hret _ _ _ _ _ _ _ _ _ hr (rfl) (⟨nI_0.symm, rfl⟩) hG hS (Nat.le_refl _) (Nat.le_refl _) d_Zo_place_59
  · have b12 : ¬ 0 ≤ 0 := fun q => c12 ((nI_leI (a := 0) (b := 0) (by omega) (by omega)).mpr q)
    exact absurd (Nat.le_refl 0) b12
set_option maxHeartbeats 4000000 in
set_option maxRecDepth 100000 in
/-- Zone.isAt(0, name), of a zone with no owners -/
theorem t_Zo_isAt_v (l : Launch) (E : zc_E) (G : zg_G) (a la : Nat) (tv sv dv : Value) (rc : Int32) (ha : G a = some (.inr (9, [.ref la, tv, sv, dv, .int rc]))) (k : Int32) (hla : G la = some (.inr (0, [.ref (E.2.2.2 0), .int 0, .int k]))) (x : Nat) : zMi l E y_Zo_isAt c_Zo_isAt 3 (some .boolean) rm_Zo_isAt [.ref a, .int (nI 0), .ref x] G (fun (r : Int32) (G2 : zg_G) => r = 0 ∧ G2 = G) := by
  refine zMi.of (by decide) (Nat.le_of_ble_eq_true rfl) ?_
  intro p e s m args below meth c Q hZ hG hret ls hl
  obtain ⟨hx, hb, hr, hts, hown, hlocks, hml, hnm, hbase, hK, hN, hQ⟩ := hZ
  have hl : lv_has ls 3 [(0, .ref a), (1, .int (nI 0)), (2, .ref x)] := hl
  have hS : zg_S (zc_b E) s.heap s.heap [] := va_S.rf
  refine lv_iload_n hx hb d_Zo_isAt_0 rfl (lv_at hl 1 rfl) ?_
  refine lv_aload_n hx hb d_Zo_isAt_1 rfl (lv_at hl 0 rfl) ?_
  refine zg_get (ci := 9) (C := "ZoneAnswers$Zone") (T := T_Zo) (N := 5) hx hb hts zi_Zo hown hK hG ha rfl 0 (by decide) (hts _ w_91) (fun _ h9 => h9) rfl d_Zo_isAt_2 ?_
  refine zk_i (va_runV (As := []) (rest := [.int (nI 0)]) ⟨hx, hb, hml, hown, hts⟩ (t_AL_size l E G la (.ref (E.2.2.2 0)) 0 k hla) (zcV 0 hts w_159 w_160 w_161 w_6 w_162 (by decide +kernel) ⟨Nat.le_of_ble_eq_true rfl, Nat.le_of_ble_eq_true rfl⟩) (zc_preV hbase hK hN hQ hG hS hla rfl) rfl rfl hl.1 rfl (lv_room (Nat.le_of_ble_eq_true rfl)) d_Zo_isAt_5 ⟨(by decide), (by decide)⟩) hS (fun r5 G5 H locs hp5 hG hS => ?_)
  have hG : zP E G H := hp5.2 ▸ hG
  refine zi_as (y := 0) hp5.1 ?_
  refine lv_icmp_ge (tgt := 36) hx hb d_Zo_isAt_8 (by decide) (fun c8 => ?_) (fun c8 => ?_)
  · have b8 : 0 ≤ 0 := (nI_leI (a := 0) (b := 0) (by omega) (by omega)).mp c8
    refine lv_iconst (v := 0) hx hb d_Zo_isAt_36 (by decide) ?_
    exact hret _ _ _ _ _ _ _ _ _ hr (rfl) (⟨rfl, rfl⟩) hG hS (Nat.le_refl _) (Nat.le_refl _) d_Zo_isAt_37
  · have b8 : ¬ 0 ≤ 0 := fun q => c8 ((nI_leI (a := 0) (b := 0) (by omega) (by omega)).mpr q)
    exact absurd (Nat.le_refl 0) b8
abbrev rm_Zo_markCuts_1 : Room := { frames := 4, cells := 0, slots := 0, locals := 110 }
set_option maxHeartbeats 4000000 in
set_option maxRecDepth 100000 in
/-- Zone.markCuts(), of a zone with one owner -/
theorem t_Zo_markCuts_1 (l : Launch) (E : zc_E) (G : zg_G) (a la : Nat) (tv sv dv : Value) (rc : Int32) (ha : G a = some (.inr (9, [.ref la, tv, sv, dv, .int rc]))) (lv : Value) (k : Int32) (hla : G la = some (.inr (0, [lv, .int (nI 1), .int k]))) : zMv l E y_Zo_markCuts c_Zo_markCuts 4 rm_Zo_markCuts_1 [.ref a] G (fun (G2 : zg_G) => G2 = G) := by
  refine zMv.of (by decide) (Nat.le_of_ble_eq_true rfl) ?_
  intro p e s m args below meth c Q hZ hG hret ls hl
  obtain ⟨hx, hb, hr, hts, hown, hlocks, hml, hnm, hbase, hK, hN, hQ⟩ := hZ
  have hl : lv_has ls 4 [(0, .ref a)] := hl
  have hS : zg_S (zc_b E) s.heap s.heap [] := va_S.rf
  refine lv_null hx hb d_Zo_markCuts_0 ?_
  refine lv_astore_nN (lv' := [(1, .null), (0, .ref a)]) hx hb d_Zo_markCuts_1 rfl hl (by decide) rfl (fun ls hl => ?_)
  refine lv_iconst (v := 1) hx hb d_Zo_markCuts_2 (by decide) ?_
  refine lv_istore_n (lv' := [(2, .int 1), (1, .null), (0, .ref a)]) hx hb d_Zo_markCuts_3 rfl hl (by decide) rfl (fun ls hl => ?_)
  refine lv_iload_n hx hb d_Zo_markCuts_4 rfl (lv_at hl 0 rfl) ?_
  refine lv_aload_n hx hb d_Zo_markCuts_5 rfl (lv_at hl 2 rfl) ?_
  refine zg_get (ci := 9) (C := "ZoneAnswers$Zone") (T := T_Zo) (N := 5) hx hb hts zi_Zo hown hK hG ha rfl 0 (by decide) (hts _ w_91) (fun _ h9 => h9) rfl d_Zo_markCuts_6 ?_
  refine zk_i (va_runV (As := []) (rest := [.int 1]) ⟨hx, hb, hml, hown, hts⟩ (t_AL_size l E G la lv (nI 1) k hla) (zcV 0 hts w_159 w_160 w_161 w_6 w_162 (by decide +kernel) ⟨Nat.le_of_ble_eq_true rfl, Nat.le_of_ble_eq_true rfl⟩) (zc_preV hbase hK hN hQ hG hS hla rfl) rfl rfl hl.1 rfl (lv_room (Nat.le_of_ble_eq_true rfl)) d_Zo_markCuts_9 ⟨(by decide), (by decide)⟩) hS (fun r9 G9 H locs hp9 hG hS => ?_)
  have hG : zP E G H := hp9.2 ▸ hG
  refine zi_as (y := nI 1) hp9.1 ?_
  refine lv_icmp_ge (tgt := 70) hx hb d_Zo_markCuts_12 (by decide) (fun c12 => ?_) (fun c12 => ?_)
  · have b12 : 1 ≤ 1 := (nI_leI (a := 1) (b := 1) (by omega) (by omega)).mp c12
    exact hret _ _ _ _ _ _ _ (rfl) hG hS (Nat.le_refl _) (Nat.le_refl _) d_Zo_markCuts_70
  · have b12 : ¬ 1 ≤ 1 := fun q => c12 ((nI_leI (a := 1) (b := 1) (by omega) (by omega)).mpr q)
    exact absurd (Nat.le_refl 1) b12
abbrev rm_Ow_findOrMake_e : Room := { frames := 7, cells := 4, slots := 30, locals := 240 }
set_option maxHeartbeats 4000000 in
set_option maxRecDepth 100000 in
/-- Owner.findOrMake(type), of a new owner -/
theorem t_Ow_findOrMake_e (l : Launch) (E : zc_E) (G : zg_G) (a na la : Nat) (cv : Value) (ha : G a = some (.inr (4, [.ref na, .ref la, cv]))) (k : Int32) (hla : G la = some (.inr (0, [.ref (E.2.2.2 0), .int 0, .int k]))) (t : Int32) : zMq l E y_Ow_findOrMake c_Ow_findOrMake 3 (some (.object "ZoneAnswers$Rrset")) rm_Ow_findOrMake_e [.ref a, .int t] G (fun (r : Option Nat) (G2 : zg_G) => ∃ (q b d : Nat) (k : Int32) (cap : Nat) (f : Nat → Option Nat), r = some q ∧ G q = none ∧ G b = none ∧ G d = none ∧ zx (fun q => q = la) G G2 ∧ G2 la = some (.inr (0, [.ref d, .int (nI 1), .int k])) ∧ G2 d = some (.inl (E.2.1 3, cap, .inr (.inr (.inr (.inr f))))) ∧ 0 < cap ∧ 1 ≤ cap ∧ cap ≤ 4001 ∧ (∀ j, f j = [q][j]?) ∧ G2 q = some (.inr (5, [.int t, .int 0, .ref b])) ∧ G2 b = some (.inr (0, [.ref (E.2.2.2 0), .int 0, .int 0]))) := by
  refine zMq.of (by decide) (Nat.le_of_ble_eq_true rfl) ?_
  intro p e s m args below meth c Q hZ hG hret ls hl
  obtain ⟨hx, hb, hr, hts, hown, hlocks, hml, hnm, hbase, hK, hN, hQ⟩ := hZ
  have hl : lv_has ls 3 [(0, .ref a), (1, .int t)] := hl
  have hS : zg_S (zc_b E) s.heap s.heap [] := va_S.rf
  have hE00 : G (E.2.2.2 0) = none := hQ.out hG
  have hx0 : zx (fun q => q = la) G G := zx.rf
  refine lv_iconst (v := 0) hx hb d_Ow_findOrMake_0 (by decide) ?_
  refine zi_as (y := nI 0) (nI_0.symm) ?_
  refine lv_istore_n (lv' := [(2, .int (nI 0)), (0, .ref a), (1, .int t)]) hx hb d_Ow_findOrMake_1 rfl hl (by decide) rfl (fun ls hl => ?_)
  refine lv_iload_n hx hb d_Ow_findOrMake_2 rfl (lv_at hl 0 rfl) ?_
  refine lv_aload_n hx hb d_Ow_findOrMake_3 rfl (lv_at hl 1 rfl) ?_
  refine zg_get (ci := 4) (C := "ZoneAnswers$Owner") (T := T_Ow) (N := 3) hx hb hts zi_Ow hown hK hG ha rfl 1 (by decide) (hts _ w_207) (fun _ h9 => h9) rfl d_Ow_findOrMake_4 ?_
  refine zk_i (va_runV (As := []) (rest := [.int (nI 0)]) ⟨hx, hb, hml, hown, hts⟩ (t_AL_size l E G la (.ref (E.2.2.2 0)) 0 k hla) (zcV 0 hts w_606 w_160 w_161 w_6 w_162 (by decide +kernel) ⟨Nat.le_of_ble_eq_true rfl, Nat.le_of_ble_eq_true rfl⟩) (zc_preV hbase hK hN hQ hG hS hla rfl) rfl rfl hl.1 rfl (lv_room (Nat.le_of_ble_eq_true rfl)) d_Ow_findOrMake_7 ⟨(by decide), (by decide)⟩) hS (fun r7 G7 H locs hp7 hG hS => ?_)
  have hG : zP E G H := hp7.2 ▸ hG
  refine zi_as (y := 0) hp7.1 ?_
  refine lv_icmp_ge (tgt := 37) hx hb d_Ow_findOrMake_10 (by decide) (fun c10 => ?_) (fun c10 => ?_)
  · have b10 : 0 ≤ 0 := (nI_leI (a := 0) (b := 0) (by omega) (by omega)).mp c10
    refine lv_iload_n hx hb d_Ow_findOrMake_37 rfl (lv_at hl 0 rfl) ?_
    refine lv_aload_n hx hb d_Ow_findOrMake_38 rfl (lv_at hl 1 rfl) ?_
    refine zg_get (ci := 4) (C := "ZoneAnswers$Owner") (T := T_Ow) (N := 3) hx hb hts zi_Ow hown hK hG ha rfl 1 (by decide) (hts _ w_207) (fun _ h9 => h9) rfl d_Ow_findOrMake_39 ?_
    refine zk_i (va_runV (As := []) (rest := [.int (nI 0)]) ⟨hx, hb, hml, hown, hts⟩ (t_AL_size l E G la (.ref (E.2.2.2 0)) 0 k hla) (zcV 0 hts w_606 w_160 w_161 w_6 w_162 (by decide +kernel) ⟨Nat.le_of_ble_eq_true rfl, Nat.le_of_ble_eq_true rfl⟩) (zc_preV hbase hK hN hQ hG hS hla rfl) rfl rfl hl.1 rfl (lv_room (Nat.le_of_ble_eq_true rfl)) d_Ow_findOrMake_42 ⟨(by decide), (by decide)⟩) hS (fun r42 G42 H locs hp42 hG hS => ?_)
    have hG : zP E G H := hp42.2 ▸ hG
    refine zi_as (y := 0) hp42.1 ?_
    refine lv_icmp_eq (tgt := 66) hx hb d_Ow_findOrMake_45 (by decide) (fun c45 => ?_) (fun c45 => ?_)
    · have b45 : 0 = 0 := (nI_eq (a := 0) (b := 0) (by omega) (by omega)).mp c45
      refine lv_aload_n hx hb d_Ow_findOrMake_66 rfl (lv_at hl 1 rfl) ?_
      refine zg_get (ci := 4) (C := "ZoneAnswers$Owner") (T := T_Ow) (N := 3) hx hb hts zi_Ow hown hK hG ha rfl 1 (by decide) (hts _ w_207) (fun _ h9 => h9) rfl d_Ow_findOrMake_67 ?_
      refine lv_iload_n hx hb d_Ow_findOrMake_70 rfl (lv_at hl 0 rfl) ?_
      refine zg_new (ci := 5) (fs := [.int 0, .int 0, .null]) (C := "ZoneAnswers$Rrset") (T := T_Rr) (N := 3) hx hb hts zi_Rr t_Rr t_Rr_ok hown (hts _ w_608) (hts _ w_609) (hts _ w_27) hK hG hS hbase rfl (fun j hj => by rcases (show j = 0 ∨ j = 1 ∨ j = 2 by omega) with rfl | rfl | rfl <;> rfl) (by decide) (by decide) d_Ow_findOrMake_71 (fun q71 H n71 hG hS => ?_)
      obtain ⟨G1, eG1⟩ : ∃ z : zg_G, z = zg_up G q71 (.inr (5, [.int 0, .int 0, .null])) := ⟨_, rfl⟩
      have hG : zP E G1 H := by rw [eG1]; exact hG
      have hx2 : zx (fun q => q = la) G G1 := hx0.tr (by rw [eG1]; exact zx.nw n71)
      have ne71_a : a ≠ q71 := zg_fr n71 ha
      have k3 : G1 a = some (.inr (4, [.ref na, .ref la, cv])) := by rw [eG1, zg_up_ne (zg_fr n71 ha)]; exact ha
      have ne71_la : la ≠ q71 := zg_fr n71 hla
      have k4 : G1 la = some (.inr (0, [.ref (E.2.2.2 0), .int 0, .int k])) := by rw [eG1, zg_up_ne (zg_fr n71 hla)]; exact hla
      have k5 : G1 q71 = some (.inr (5, [.int 0, .int 0, .null])) := by rw [eG1]; exact zg_up_self _ _ _
      refine lv_dup hx hb d_Ow_findOrMake_74 rfl ?_
      refine lv_iload_n hx hb d_Ow_findOrMake_75 rfl (lv_at hl 2 rfl) ?_
      have hGo76 := hG
      refine zk_v (va_runI (As := [.int t]) (rest := [.ref q71, .int (nI 0), .ref la]) ⟨hx, hb, hml, hown, hts⟩ (t_Rr_init l E G1 q71 t k5) (zcI 1 hts w_610 w_611 w_27 w_612 rfl (by decide +kernel) ⟨Nat.le_of_ble_eq_true rfl, Nat.le_of_ble_eq_true rfl⟩) (zc_pre hbase hK hN hQ hG hS) rfl rfl hl.1 rfl (lv_room (Nat.le_of_ble_eq_true rfl)) d_Ow_findOrMake_76 ⟨(by decide), (by decide)⟩) hS (fun G76 H locs hp76 hG hS => ?_)
      obtain ⟨bq, nbq, ebq⟩ := hp76
      obtain ⟨G6, eG6⟩ : ∃ z : zg_G, z = zg_up G1 bq (.inr (0, [.ref (E.2.2.2 0), .int 0, .int 0])) := ⟨_, rfl⟩
      rw [← eG6] at ebq
      have nf_bq : G bq = none := zx.fr hx2 nbq (fun h => by (have n9 := nbq; rw [h] at n9; first | (rw [k4] at n9; cases n9)))
      have ne_bq_a : a ≠ bq := zg_fr nbq k3
      have k7 : G6 a = some (.inr (4, [.ref na, .ref la, cv])) := by rw [eG6, zg_up_ne ne_bq_a]; exact k3
      have ne_bq_la : la ≠ bq := zg_fr nbq k4
      have k8 : G6 la = some (.inr (0, [.ref (E.2.2.2 0), .int 0, .int k])) := by rw [eG6, zg_up_ne ne_bq_la]; exact k4
      have ne_bq_q71 : q71 ≠ bq := zg_fr nbq k5
      have k9 : G6 q71 = some (.inr (5, [.int 0, .int 0, .null])) := by rw [eG6, zg_up_ne ne_bq_q71]; exact k5
      have k10 : G6 bq = some (.inr (0, [.ref (E.2.2.2 0), .int 0, .int 0])) := by rw [eG6]; exact zg_up_self _ _ _
      have hx11 : zx (fun q => q = la) G G6 := hx2.tr (by rw [eG6]; exact zx.nw nbq)
      have hx12 : zx (fun q => q = la) G G76 := by rw [ebq]; exact hx11.upn n71
      have k13 : G76 a = some (.inr (4, [.ref na, .ref la, cv])) := by rw [ebq, zg_up_ne (ne71_a)]; exact k7
      have k14 : G76 la = some (.inr (0, [.ref (E.2.2.2 0), .int 0, .int k])) := by rw [ebq, zg_up_ne (ne71_la)]; exact k8
      have k15 : G76 q71 = some (.inr (5, [.int t, .int 0, .ref bq])) := by rw [ebq]; exact zg_up_self _ _ _
      have k16 : G76 bq = some (.inr (0, [.ref (E.2.2.2 0), .int 0, .int 0])) := by rw [ebq, zg_up_ne (Ne.symm ne_bq_q71)]; exact k10
      have hGo79 := hG
      refine zk_v (va_runV (As := [.int (nI 0), .ref q71]) (rest := []) ⟨hx, hb, hml, hown, hts⟩ (t_AL_add l E G76 la (E.2.2.2 0) [] (zL.new k14) q71 ⟨5, _, k15, Or.inr (Or.inr (Or.inl rfl))⟩ (by decide) 10 (by decide) (fun z hz => absurd hz List.not_mem_nil) 0 (Nat.le_refl 0)) (zcV 2 hts w_636 w_221 w_222 w_6 w_223 (by decide +kernel) ⟨Nat.le_of_ble_eq_true rfl, Nat.le_of_ble_eq_true rfl⟩) (zc_preV hbase hK hN hQ hG hS k14 rfl) rfl rfl hl.1 rfl (lv_room (Nat.le_of_ble_eq_true rfl)) d_Ow_findOrMake_79 ⟨(by decide), (by decide)⟩) hS (fun G79 H locs hp79 hG hS => ?_)
      obtain ⟨d79, hL79, hd79, hx79⟩ := hp79
      obtain ⟨nd79, ky79, c79, f79, hka79, hkd79, h079, hc79, hz79, hf79⟩ := zL.grown hQ hG hL79 hd79
      have nf_d79 : G d79 = none := zx.fr hx12 nd79 (fun h => by (have n9 := nd79; rw [h] at n9; first | (rw [k14] at n9; cases n9)))
      have ne_d79_a : a ≠ d79 := zg_fr nd79 k13
      have ne_d79_la : la ≠ d79 := zg_fr nd79 k14
      have ne_d79_q71 : q71 ≠ d79 := zg_fr nd79 k15
      have ne_d79_bq : bq ≠ d79 := zg_fr nd79 k16
      have k17 : G79 a = some (.inr (4, [.ref na, .ref la, cv])) := hx79 a _ (fun z => z.elim (zg_ne k13 k14 (by intro h; simp at h)) (zQ.neq hQ hGo79 k13)) k13
      have k18 : G79 q71 = some (.inr (5, [.int t, .int 0, .ref bq])) := hx79 q71 _ (fun z => z.elim (Ne.symm ne71_la) (zQ.neq hQ hGo79 k15)) k15
      have k19 : G79 bq = some (.inr (0, [.ref (E.2.2.2 0), .int 0, .int 0])) := hx79 bq _ (fun z => z.elim (Ne.symm ne_bq_la) (zQ.neq hQ hGo79 k16)) k16
      have hx20 : zx (fun q => q = la) G G79 := fun q x hs hq => hx79 q x (fun z => z.elim (fun z => absurd (show (fun q => q = la) q from by subst z; exact rfl) hs) (fun z => by rw [z, hE00] at hq; cases hq)) (hx12 q x hs hq)
      refine lv_aload_n hx hb d_Ow_findOrMake_82 rfl (lv_at hl 1 rfl) ?_
      refine zg_get (ci := 4) (C := "ZoneAnswers$Owner") (T := T_Ow) (N := 3) hx hb hts zi_Ow hown hK hG k17 rfl 1 (by decide) (hts _ w_207) (fun _ h9 => h9) rfl d_Ow_findOrMake_83 ?_
      refine lv_iload_n hx hb d_Ow_findOrMake_86 rfl (lv_at hl 0 rfl) ?_
      have hGo87 := hG
      refine zk_q (va_runV (As := [.int (nI 0)]) (rest := []) ⟨hx, hb, hml, hown, hts⟩ (t_AL_get l E G79 la d79 1 c79 ky79 f79 hka79 hkd79 hc79 (by omega) 0 (by decide)) (zcV 1 hts w_607 w_164 w_165 w_6 w_166 (by decide +kernel) ⟨Nat.le_of_ble_eq_true rfl, Nat.le_of_ble_eq_true rfl⟩) (zc_preV hbase hK hN hQ hG hS hka79 rfl) rfl rfl hl.1 rfl (lv_room (Nat.le_of_ble_eq_true rfl)) d_Ow_findOrMake_87 ⟨(by decide), (by decide)⟩) hS (fun r87 G87 H locs hp87 hG hS => ?_)
      have hG : zP E G79 H := hp87.2 ▸ hG
      refine zr_some (a := q71) (hp87.1.trans ((hf79 0).trans rfl)) ?_
      refine zg_castY hx hb hown (hts _ w_608) hK hG k18 rfl (zN.at hN (w := .castable "ZoneAnswers$Rrset" "ZoneAnswers$Rrset") (by decide +kernel)) d_Ow_findOrMake_90 ?_
      exact hret (some q71) _ _ _ _ _ _ _ _ hr (Or.inl ⟨_, rfl⟩) (⟨q71, bq, d79, ky79, c79, f79, rfl, n71, nf_bq, nf_d79, hx20, hka79, hkd79, h079, hc79, hz79, hf79, k18, k19⟩) hG hS (by decide) (by decide) d_Ow_findOrMake_93
    · have b45 : ¬ 0 = 0 := fun q => c45 ((nI_eq (a := 0) (b := 0) (by omega) (by omega)).mpr q)
      exact absurd rfl b45
  · have b10 : ¬ 0 ≤ 0 := fun q => c10 ((nI_leI (a := 0) (b := 0) (by omega) (by omega)).mpr q)
    exact absurd (Nat.le_refl 0) b10
abbrev rm_Zo_insert_e : Room := { frames := 9, cells := 12, slots := 90, locals := 300 }
set_option maxHeartbeats 4000000 in
set_option maxRecDepth 100000 in
/-- Zone.insert(name, type, datum), of a zone with no owners -/
theorem t_Zo_insert_e (l : Launch) (E : zc_E) (G : zg_G) (a la : Nat) (tv sv dv : Value) (rc : Int32) (ha : G a = some (.inr (9, [.ref la, tv, sv, dv, .int rc]))) (k : Int32) (hla : G la = some (.inr (0, [.ref (E.2.2.2 0), .int 0, .int k]))) (x t0 : Nat) (t : Int32) (nv uv : Value) (hxn : G x = some (.inr (3, [nv, uv]))) (bv wv : Value) (ht0 : G t0 = some (.inr (2, [bv, wv]))) : zMq l E y_Zo_insert c_Zo_insert 6 (some (.object "ZoneAnswers$Rrset")) rm_Zo_insert_e [.ref a, .ref x, .int t, .ref t0] G (fun (r : Option Nat) (G2 : zg_G) => ∃ (o ol q b d0 d1 d2 : Nat) (k0 : Int32) (c0 : Nat) (f0 : Nat → Option Nat) (k1 : Int32) (c1 : Nat) (f1 : Nat → Option Nat) (k2 : Int32) (c2 : Nat) (f2 : Nat → Option Nat), r = some q ∧ G o = none ∧ G ol = none ∧ G q = none ∧ G b = none ∧ G d0 = none ∧ G d1 = none ∧ G d2 = none ∧ zx (fun q => q = a ∨ q = la) G G2 ∧ G2 a = some (.inr (9, [.ref la, tv, sv, dv, .int (rc + 1)])) ∧ G2 la = some (.inr (0, [.ref d0, .int (nI 1), .int k0])) ∧ G2 d0 = some (.inl (E.2.1 3, c0, .inr (.inr (.inr (.inr f0))))) ∧ (0 < c0 ∧ 1 ≤ c0 ∧ c0 ≤ 4001 ∧ ∀ j, f0 j = [o][j]?) ∧ G2 o = some (.inr (4, [.ref x, .ref ol, .null])) ∧ G2 ol = some (.inr (0, [.ref d1, .int (nI 1), .int k1])) ∧ G2 d1 = some (.inl (E.2.1 3, c1, .inr (.inr (.inr (.inr f1))))) ∧ (0 < c1 ∧ 1 ≤ c1 ∧ c1 ≤ 4001 ∧ ∀ j, f1 j = [q][j]?) ∧ G2 q = some (.inr (5, [.int t, .int 0, .ref b])) ∧ G2 b = some (.inr (0, [.ref d2, .int (nI 1), .int k2])) ∧ G2 d2 = some (.inl (E.2.1 3, c2, .inr (.inr (.inr (.inr f2))))) ∧ (0 < c2 ∧ 1 ≤ c2 ∧ c2 ≤ 4001 ∧ ∀ j, f2 j = [t0][j]?) ∧ ol ≠ b ∧ d0 ≠ d2 ∧ d1 ≠ d2) := by
  refine zMq.of (by decide) (Nat.le_of_ble_eq_true rfl) ?_
  intro p e s m args below meth c Q hZ hG hret ls hl
  obtain ⟨hx, hb, hr, hts, hown, hlocks, hml, hnm, hbase, hK, hN, hQ⟩ := hZ
  have hl : lv_has ls 6 [(0, .ref a), (1, .ref x), (2, .int t), (3, .ref t0)] := hl
  have hS : zg_S (zc_b E) s.heap s.heap [] := va_S.rf
  have hE00 : G (E.2.2.2 0) = none := hQ.out hG
  have hx0 : zx (fun q => q = a ∨ q = la) G G := zx.rf
  refine lv_aload_n hx hb d_Zo_insert_0 rfl (lv_at hl 0 rfl) ?_
  refine lv_aload_n hx hb d_Zo_insert_1 rfl (lv_at hl 1 rfl) ?_
  refine zk_i (va_runV (As := [.ref x]) (rest := []) ⟨hx, hb, hml, hown, hts⟩ (t_Zo_place_e l E G a la tv sv dv rc ha k hla x) (zcV 1 hts w_155 w_157 wp_0 w_3 w_158 (by decide +kernel) ⟨Nat.le_of_ble_eq_true rfl, Nat.le_of_ble_eq_true rfl⟩) (zc_preV hbase hK hN hQ hG hS ha rfl) rfl rfl hl.1 rfl (lv_room (Nat.le_of_ble_eq_true rfl)) d_Zo_insert_2 ⟨(by decide), (by decide)⟩) hS (fun r2 G2 H locs hp2 hG hS => ?_)
  have hG : zP E G H := hp2.2 ▸ hG
  refine zi_as (y := nI 0) hp2.1 ?_
  refine lv_istore (lv' := [(4, .int (nI 0)), (0, .ref a), (1, .ref x), (2, .int t), (3, .ref t0)]) hx hb d_Zo_insert_5 hl (by decide) rfl (fun ls hl => ?_)
  refine lv_aload_n hx hb d_Zo_insert_7 rfl (lv_at hl 1 rfl) ?_
  refine lv_iload hx hb d_Zo_insert_8 (lv_at hl 0 rfl) ?_
  refine lv_aload_n hx hb d_Zo_insert_10 rfl (lv_at hl 2 rfl) ?_
  refine zk_i (va_runV (As := [.int (nI 0), .ref x]) (rest := []) ⟨hx, hb, hml, hown, hts⟩ (t_Zo_isAt_v l E G a la tv sv dv rc ha k hla x) (zcV 2 hts w_189 w_191 wp_2 w_3 w_192 (by decide +kernel) ⟨Nat.le_of_ble_eq_true rfl, Nat.le_of_ble_eq_true rfl⟩) (zc_preV hbase hK hN hQ hG hS ha rfl) rfl rfl hl.1 rfl (lv_room (Nat.le_of_ble_eq_true rfl)) d_Zo_insert_11 ⟨(by decide), (by decide)⟩) hS (fun r11 G11 H locs hp11 hG hS => ?_)
  have hG : zP E G H := hp11.2 ▸ hG
  refine zi_as (y := 0) hp11.1 ?_
  refine lv_if_ne (tgt := 34) hx hb d_Zo_insert_14 (by decide) (fun c14 => ?_) (fun c14 => ?_)
  · have b14 : ¬ 0 = 0 := fun q => c14 ((nI_eq (a := 0) (b := 0) (by omega) (by omega)).mpr q)
    exact absurd rfl c14
  · have b14 : 0 = 0 := (nI_eq (a := 0) (b := 0) (by omega) (by omega)).mp c14
    refine lv_aload_n hx hb d_Zo_insert_17 rfl (lv_at hl 1 rfl) ?_
    refine zg_get (ci := 9) (C := "ZoneAnswers$Zone") (T := T_Zo) (N := 5) hx hb hts zi_Zo hown hK hG ha rfl 0 (by decide) (hts _ w_91) (fun _ h9 => h9) rfl d_Zo_insert_18 ?_
    refine lv_iload hx hb d_Zo_insert_21 (lv_at hl 0 rfl) ?_
    refine zg_new (ci := 4) (fs := [.null, .null, .null]) (C := "ZoneAnswers$Owner") (T := T_Ow) (N := 3) hx hb hts zi_Ow t_Ow t_Ow_ok hown (hts _ w_177) (hts _ w_197) (hts _ w_12) hK hG hS hbase rfl (fun j hj => by rcases (show j = 0 ∨ j = 1 ∨ j = 2 by omega) with rfl | rfl | rfl <;> rfl) (by decide) (by decide) d_Zo_insert_23 (fun q23 H n23 hG hS => ?_)
    obtain ⟨G1, eG1⟩ : ∃ z : zg_G, z = zg_up G q23 (.inr (4, [.null, .null, .null])) := ⟨_, rfl⟩
    have hG : zP E G1 H := by rw [eG1]; exact hG
    have hx2 : zx (fun q => q = a ∨ q = la) G G1 := hx0.tr (by rw [eG1]; exact zx.nw n23)
    have ne23_a : a ≠ q23 := zg_fr n23 ha
    have k3 : G1 a = some (.inr (9, [.ref la, tv, sv, dv, .int rc])) := by rw [eG1, zg_up_ne (zg_fr n23 ha)]; exact ha
    have ne23_la : la ≠ q23 := zg_fr n23 hla
    have k4 : G1 la = some (.inr (0, [.ref (E.2.2.2 0), .int 0, .int k])) := by rw [eG1, zg_up_ne (zg_fr n23 hla)]; exact hla
    have ne23_x : x ≠ q23 := zg_fr n23 hxn
    have k5 : G1 x = some (.inr (3, [nv, uv])) := by rw [eG1, zg_up_ne (zg_fr n23 hxn)]; exact hxn
    have ne23_t0 : t0 ≠ q23 := zg_fr n23 ht0
    have k6 : G1 t0 = some (.inr (2, [bv, wv])) := by rw [eG1, zg_up_ne (zg_fr n23 ht0)]; exact ht0
    have k7 : G1 q23 = some (.inr (4, [.null, .null, .null])) := by rw [eG1]; exact zg_up_self _ _ _
    refine lv_dup hx hb d_Zo_insert_26 rfl ?_
    refine lv_aload_n hx hb d_Zo_insert_27 rfl (lv_at hl 2 rfl) ?_
    have hGo28 := hG
    refine zk_v (va_runI (As := [.ref x]) (rest := [.ref q23, .int (nI 0), .ref la]) ⟨hx, hb, hml, hown, hts⟩ (t_Ow_init l E G1 q23 x k7) (zcI 1 hts w_198 w_199 w_12 w_200 rfl (by decide +kernel) ⟨Nat.le_of_ble_eq_true rfl, Nat.le_of_ble_eq_true rfl⟩) (zc_pre hbase hK hN hQ hG hS) rfl rfl hl.1 rfl (lv_room (Nat.le_of_ble_eq_true rfl)) d_Zo_insert_28 ⟨(by decide), (by decide)⟩) hS (fun G28 H locs hp28 hG hS => ?_)
    obtain ⟨ol, nol, eol⟩ := hp28
    obtain ⟨G8, eG8⟩ : ∃ z : zg_G, z = zg_up G1 ol (.inr (0, [.ref (E.2.2.2 0), .int 0, .int 0])) := ⟨_, rfl⟩
    rw [← eG8] at eol
    have nf_ol : G ol = none := zx.fr hx2 nol (fun h => by rcases h with h | h <;> (have n9 := nol; rw [h] at n9; first | (rw [k3] at n9; cases n9) | (rw [k4] at n9; cases n9)))
    have ne_ol_a : a ≠ ol := zg_fr nol k3
    have k9 : G8 a = some (.inr (9, [.ref la, tv, sv, dv, .int rc])) := by rw [eG8, zg_up_ne ne_ol_a]; exact k3
    have ne_ol_la : la ≠ ol := zg_fr nol k4
    have k10 : G8 la = some (.inr (0, [.ref (E.2.2.2 0), .int 0, .int k])) := by rw [eG8, zg_up_ne ne_ol_la]; exact k4
    have ne_ol_x : x ≠ ol := zg_fr nol k5
    have k11 : G8 x = some (.inr (3, [nv, uv])) := by rw [eG8, zg_up_ne ne_ol_x]; exact k5
    have ne_ol_t0 : t0 ≠ ol := zg_fr nol k6
    have k12 : G8 t0 = some (.inr (2, [bv, wv])) := by rw [eG8, zg_up_ne ne_ol_t0]; exact k6
    have ne_ol_q23 : q23 ≠ ol := zg_fr nol k7
    have k13 : G8 q23 = some (.inr (4, [.null, .null, .null])) := by rw [eG8, zg_up_ne ne_ol_q23]; exact k7
    have k14 : G8 ol = some (.inr (0, [.ref (E.2.2.2 0), .int 0, .int 0])) := by rw [eG8]; exact zg_up_self _ _ _
    have hx15 : zx (fun q => q = a ∨ q = la) G G8 := hx2.tr (by rw [eG8]; exact zx.nw nol)
    have hx16 : zx (fun q => q = a ∨ q = la) G G28 := by rw [eol]; exact hx15.upn n23
    have k17 : G28 a = some (.inr (9, [.ref la, tv, sv, dv, .int rc])) := by rw [eol, zg_up_ne (ne23_a)]; exact k9
    have k18 : G28 la = some (.inr (0, [.ref (E.2.2.2 0), .int 0, .int k])) := by rw [eol, zg_up_ne (ne23_la)]; exact k10
    have k19 : G28 x = some (.inr (3, [nv, uv])) := by rw [eol, zg_up_ne (ne23_x)]; exact k11
    have k20 : G28 t0 = some (.inr (2, [bv, wv])) := by rw [eol, zg_up_ne (ne23_t0)]; exact k12
    have k21 : G28 q23 = some (.inr (4, [.ref x, .ref ol, .null])) := by rw [eol]; exact zg_up_self _ _ _
    have k22 : G28 ol = some (.inr (0, [.ref (E.2.2.2 0), .int 0, .int 0])) := by rw [eol, zg_up_ne (Ne.symm ne_ol_q23)]; exact k14
    have hGo31 := hG
    refine zk_v (va_runV (As := [.int (nI 0), .ref q23]) (rest := []) ⟨hx, hb, hml, hown, hts⟩ (t_AL_add l E G28 la (E.2.2.2 0) [] (zL.new k18) q23 ⟨4, _, k21, Or.inr (Or.inl rfl)⟩ (by decide) 10 (by decide) (fun z hz => absurd hz List.not_mem_nil) 0 (Nat.le_refl 0)) (zcV 2 hts w_220 w_221 w_222 w_6 w_223 (by decide +kernel) ⟨Nat.le_of_ble_eq_true rfl, Nat.le_of_ble_eq_true rfl⟩) (zc_preV hbase hK hN hQ hG hS k18 rfl) rfl rfl hl.1 rfl (lv_room (Nat.le_of_ble_eq_true rfl)) d_Zo_insert_31 ⟨(by decide), (by decide)⟩) hS (fun G31 H locs hp31 hG hS => ?_)
    obtain ⟨d31, hL31, hd31, hx31⟩ := hp31
    obtain ⟨nd31, ky31, c31, f31, hka31, hkd31, h031, hc31, hz31, hf31⟩ := zL.grown hQ hG hL31 hd31
    have nf_d31 : G d31 = none := zx.fr hx16 nd31 (fun h => by rcases h with h | h <;> (have n9 := nd31; rw [h] at n9; first | (rw [k17] at n9; cases n9) | (rw [k18] at n9; cases n9)))
    have ne_d31_a : a ≠ d31 := zg_fr nd31 k17
    have ne_d31_la : la ≠ d31 := zg_fr nd31 k18
    have ne_d31_x : x ≠ d31 := zg_fr nd31 k19
    have ne_d31_t0 : t0 ≠ d31 := zg_fr nd31 k20
    have ne_d31_q23 : q23 ≠ d31 := zg_fr nd31 k21
    have ne_d31_ol : ol ≠ d31 := zg_fr nd31 k22
    have k23 : G31 a = some (.inr (9, [.ref la, tv, sv, dv, .int rc])) := hx31 a _ (fun z => z.elim (zg_ne k17 k18 (by intro h; simp at h)) (zQ.neq hQ hGo31 k17)) k17
    have k24 : G31 x = some (.inr (3, [nv, uv])) := hx31 x _ (fun z => z.elim (zg_ne k19 k18 (by intro h; simp at h)) (zQ.neq hQ hGo31 k19)) k19
    have k25 : G31 t0 = some (.inr (2, [bv, wv])) := hx31 t0 _ (fun z => z.elim (zg_ne k20 k18 (by intro h; simp at h)) (zQ.neq hQ hGo31 k20)) k20
    have k26 : G31 q23 = some (.inr (4, [.ref x, .ref ol, .null])) := hx31 q23 _ (fun z => z.elim (Ne.symm ne23_la) (zQ.neq hQ hGo31 k21)) k21
    have k27 : G31 ol = some (.inr (0, [.ref (E.2.2.2 0), .int 0, .int 0])) := hx31 ol _ (fun z => z.elim (Ne.symm ne_ol_la) (zQ.neq hQ hGo31 k22)) k22
    have hx28 : zx (fun q => q = a ∨ q = la) G G31 := fun q x hs hq => hx31 q x (fun z => z.elim (fun z => absurd (show (fun q => q = a ∨ q = la) q from by subst z; exact Or.inr rfl) hs) (fun z => by rw [z, hE00] at hq; cases hq)) (hx16 q x hs hq)
    refine lv_aload_n hx hb d_Zo_insert_34 rfl (lv_at hl 1 rfl) ?_
    refine zg_get (ci := 9) (C := "ZoneAnswers$Zone") (T := T_Zo) (N := 5) hx hb hts zi_Zo hown hK hG k23 rfl 0 (by decide) (hts _ w_91) (fun _ h9 => h9) rfl d_Zo_insert_35 ?_
    refine lv_iload hx hb d_Zo_insert_38 (lv_at hl 0 rfl) ?_
    have hGo40 := hG
    refine zk_q (va_runV (As := [.int (nI 0)]) (rest := []) ⟨hx, hb, hml, hown, hts⟩ (t_AL_get l E G31 la d31 1 c31 ky31 f31 hka31 hkd31 hc31 (by omega) 0 (by decide)) (zcV 1 hts w_163 w_164 w_165 w_6 w_166 (by decide +kernel) ⟨Nat.le_of_ble_eq_true rfl, Nat.le_of_ble_eq_true rfl⟩) (zc_preV hbase hK hN hQ hG hS hka31 rfl) rfl rfl hl.1 rfl (lv_room (Nat.le_of_ble_eq_true rfl)) d_Zo_insert_40 ⟨(by decide), (by decide)⟩) hS (fun r40 G40 H locs hp40 hG hS => ?_)
    have hG : zP E G31 H := hp40.2 ▸ hG
    refine zr_some (a := q23) (hp40.1.trans ((hf31 0).trans rfl)) ?_
    refine zg_castY hx hb hown (hts _ w_177) hK hG k26 rfl (zN.at hN (w := .castable "ZoneAnswers$Owner" "ZoneAnswers$Owner") (by decide +kernel)) d_Zo_insert_43 ?_
    refine lv_iload_n hx hb d_Zo_insert_46 rfl (lv_at hl 3 rfl) ?_
    have hGo47 := hG
    refine zk_q (va_runV (As := [.int t]) (rest := []) ⟨hx, hb, hml, hown, hts⟩ (t_Ow_findOrMake_e l E G31 q23 x ol .null k26 0 k27 t) (zcV 1 hts w_602 w_603 w_604 w_12 w_605 (by decide +kernel) ⟨Nat.le_of_ble_eq_true rfl, Nat.le_of_ble_eq_true rfl⟩) (zc_preV hbase hK hN hQ hG hS k26 rfl) rfl rfl hl.1 rfl (lv_room (Nat.le_of_ble_eq_true rfl)) d_Zo_insert_47 ⟨(by decide), (by decide)⟩) hS (fun r47 G47 H locs hp47 hG hS => ?_)
    obtain ⟨sq, sb, sd9, ks, cs, fs, er47, nsq, nsb, nsd, hx47, hsl, hsd, h0s, hcs, hzs, hfs, hsq, hsb⟩ := hp47
    refine zr_some (a := sq) er47 ?_
    have nf_sq : G sq = none := zx.fr hx28 nsq (fun h => by rcases h with h | h <;> (have n9 := nsq; rw [h] at n9; first | (rw [k23] at n9; cases n9) | (rw [hka31] at n9; cases n9)))
    have ne_sq_a : a ≠ sq := zg_fr nsq k23
    have ne_sq_x : x ≠ sq := zg_fr nsq k24
    have ne_sq_t0 : t0 ≠ sq := zg_fr nsq k25
    have ne_sq_q23 : q23 ≠ sq := zg_fr nsq k26
    have ne_sq_ol : ol ≠ sq := zg_fr nsq k27
    have ne_sq_la : la ≠ sq := zg_fr nsq hka31
    have ne_sq_d31 : d31 ≠ sq := zg_fr nsq hkd31
    have nf_sb : G sb = none := zx.fr hx28 nsb (fun h => by rcases h with h | h <;> (have n9 := nsb; rw [h] at n9; first | (rw [k23] at n9; cases n9) | (rw [hka31] at n9; cases n9)))
    have ne_sb_a : a ≠ sb := zg_fr nsb k23
    have ne_sb_x : x ≠ sb := zg_fr nsb k24
    have ne_sb_t0 : t0 ≠ sb := zg_fr nsb k25
    have ne_sb_q23 : q23 ≠ sb := zg_fr nsb k26
    have ne_sb_ol : ol ≠ sb := zg_fr nsb k27
    have ne_sb_la : la ≠ sb := zg_fr nsb hka31
    have ne_sb_d31 : d31 ≠ sb := zg_fr nsb hkd31
    have nf_sd9 : G sd9 = none := zx.fr hx28 nsd (fun h => by rcases h with h | h <;> (have n9 := nsd; rw [h] at n9; first | (rw [k23] at n9; cases n9) | (rw [hka31] at n9; cases n9)))
    have ne_sd9_a : a ≠ sd9 := zg_fr nsd k23
    have ne_sd9_x : x ≠ sd9 := zg_fr nsd k24
    have ne_sd9_t0 : t0 ≠ sd9 := zg_fr nsd k25
    have ne_sd9_q23 : q23 ≠ sd9 := zg_fr nsd k26
    have ne_sd9_ol : ol ≠ sd9 := zg_fr nsd k27
    have ne_sd9_la : la ≠ sd9 := zg_fr nsd hka31
    have ne_sd9_d31 : d31 ≠ sd9 := zg_fr nsd hkd31
    have k29 : G47 a = some (.inr (9, [.ref la, tv, sv, dv, .int rc])) := hx47 a _ (ne_ol_a) k23
    have k30 : G47 x = some (.inr (3, [nv, uv])) := hx47 x _ (ne_ol_x) k24
    have k31 : G47 t0 = some (.inr (2, [bv, wv])) := hx47 t0 _ (ne_ol_t0) k25
    have k32 : G47 q23 = some (.inr (4, [.ref x, .ref ol, .null])) := hx47 q23 _ (ne_ol_q23) k26
    have k33 : G47 la = some (.inr (0, [.ref d31, .int (nI 1), .int ky31])) := hx47 la _ (ne_ol_la) hka31
    have k34 : G47 d31 = some (.inl (E.2.1 3, c31, .inr (.inr (.inr (.inr f31))))) := hx47 d31 _ (Ne.symm ne_d31_ol) hkd31
    have hx35 : zx (fun q => q = a ∨ q = la) G G47 := fun q x hs hq => hx47 q x (fun z => by rw [z, nf_ol] at hq; cases hq) (hx28 q x hs hq)
    refine lv_astore (lv' := [(5, .ref sq), (4, .int (nI 0)), (0, .ref a), (1, .ref x), (2, .int t), (3, .ref t0)]) hx hb d_Zo_insert_50 hl (by decide) rfl (fun ls hl => ?_)
    refine lv_aload hx hb d_Zo_insert_52 (lv_at hl 0 rfl) ?_
    refine zg_get (ci := 5) (C := "ZoneAnswers$Rrset") (T := T_Rr) (N := 3) hx hb hts zi_Rr hown hK hG hsq rfl 2 (by decide) (hts _ w_628) (fun _ h9 => h9) rfl d_Zo_insert_54 ?_
    refine lv_aload_n hx hb d_Zo_insert_57 rfl (lv_at hl 5 rfl) ?_
    have hGo58 := hG
    refine zk_i (va_runV (As := [.ref t0]) (rest := []) ⟨hx, hb, hml, hown, hts⟩ (t_AL_add_2 l E G47 sb (E.2.2.2 0) [] (zL.new hsb) t0 ⟨2, _, k31, Or.inl rfl⟩ (by decide) 10 (by decide) (fun z hz => absurd hz List.not_mem_nil)) (zcV 1 hts w_637 w_638 w_639 w_6 w_640 (by decide +kernel) ⟨Nat.le_of_ble_eq_true rfl, Nat.le_of_ble_eq_true rfl⟩) (zc_preV hbase hK hN hQ hG hS hsb rfl) rfl rfl hl.1 rfl (lv_room (Nat.le_of_ble_eq_true rfl)) d_Zo_insert_58 ⟨(by decide), (by decide)⟩) hS (fun r58 G58 H locs hp58 hG hS => ?_)
    obtain ⟨d58, hL58, hd58, hx58⟩ := hp58.2
    obtain ⟨nd58, ky58, c58, f58, hka58, hkd58, h058, hc58, hz58, hf58⟩ := zL.grown hQ hG hL58 hd58
    have nf_d58 : G d58 = none := zx.fr hx35 nd58 (fun h => by rcases h with h | h <;> (have n9 := nd58; rw [h] at n9; first | (rw [k29] at n9; cases n9) | (rw [k33] at n9; cases n9)))
    have ne_d58_a : a ≠ d58 := zg_fr nd58 k29
    have ne_d58_x : x ≠ d58 := zg_fr nd58 k30
    have ne_d58_t0 : t0 ≠ d58 := zg_fr nd58 k31
    have ne_d58_q23 : q23 ≠ d58 := zg_fr nd58 k32
    have ne_d58_la : la ≠ d58 := zg_fr nd58 k33
    have ne_d58_d31 : d31 ≠ d58 := zg_fr nd58 k34
    have ne_d58_ol : ol ≠ d58 := zg_fr nd58 hsl
    have ne_d58_sd9 : sd9 ≠ d58 := zg_fr nd58 hsd
    have ne_d58_sq : sq ≠ d58 := zg_fr nd58 hsq
    have ne_d58_sb : sb ≠ d58 := zg_fr nd58 hsb
    have k36 : G58 a = some (.inr (9, [.ref la, tv, sv, dv, .int rc])) := hx58 a _ (fun z => z.elim (ne_sb_a) (zQ.neq hQ hGo58 k29)) k29
    have k37 : G58 x = some (.inr (3, [nv, uv])) := hx58 x _ (fun z => z.elim (ne_sb_x) (zQ.neq hQ hGo58 k30)) k30
    have k38 : G58 t0 = some (.inr (2, [bv, wv])) := hx58 t0 _ (fun z => z.elim (ne_sb_t0) (zQ.neq hQ hGo58 k31)) k31
    have k39 : G58 q23 = some (.inr (4, [.ref x, .ref ol, .null])) := hx58 q23 _ (fun z => z.elim (ne_sb_q23) (zQ.neq hQ hGo58 k32)) k32
    have k40 : G58 la = some (.inr (0, [.ref d31, .int (nI 1), .int ky31])) := hx58 la _ (fun z => z.elim (ne_sb_la) (zQ.neq hQ hGo58 k33)) k33
    have k41 : G58 d31 = some (.inl (E.2.1 3, c31, .inr (.inr (.inr (.inr f31))))) := hx58 d31 _ (fun z => z.elim (ne_sb_d31) (zQ.neq hQ hGo58 k34)) k34
    have k42 : G58 ol = some (.inr (0, [.ref sd9, .int (nI 1), .int ks])) := hx58 ol _ (fun z => z.elim (ne_sb_ol) (zQ.neq hQ hGo58 hsl)) hsl
    have k43 : G58 sd9 = some (.inl (E.2.1 3, cs, .inr (.inr (.inr (.inr fs))))) := hx58 sd9 _ (fun z => z.elim (zg_ne hsd hsb (by intro h; simp at h)) (zQ.neq hQ hGo58 hsd)) hsd
    have k44 : G58 sq = some (.inr (5, [.int t, .int 0, .ref sb])) := hx58 sq _ (fun z => z.elim (zg_ne hsq hsb (by intro h; simp at h)) (zQ.neq hQ hGo58 hsq)) hsq
    have hx45 : zx (fun q => q = a ∨ q = la) G G58 := fun q x hs hq => hx58 q x (fun z => z.elim (fun z => by rw [z, nf_sb] at hq; cases hq) (fun z => by rw [z, hE00] at hq; cases hq)) (hx35 q x hs hq)
    refine lv_pop hx hb d_Zo_insert_61 rfl ?_
    refine lv_aload_n hx hb d_Zo_insert_62 rfl (lv_at hl 2 rfl) ?_
    refine lv_dup hx hb d_Zo_insert_63 rfl ?_
    refine zg_get (ci := 9) (C := "ZoneAnswers$Zone") (T := T_Zo) (N := 5) hx hb hts zi_Zo hown hK hG k36 rfl 4 (by decide) (hts _ w_95) (fun _ h9 => h9) rfl d_Zo_insert_64 ?_
    refine lv_iconst (v := 1) hx hb d_Zo_insert_67 (by decide) ?_
    refine lv_iadd hx hb d_Zo_insert_68 ?_
    refine zg_put (ci := 9) (v := .int (rc + 1)) (ty := .int) (C := "ZoneAnswers$Zone") (T := T_Zo) (N := 5) hx hb hts zi_Zo t_Zo t_Zo_ok n_Zo hown hK hG hS k36 rfl 4 (by decide) (hts _ w_95) (fun _ h9 => h9) rfl (by decide +kernel) rfl rfl (Nat.le_of_ble_eq_true rfl) d_Zo_insert_69 (fun H locs hG hS => ?_)
    obtain ⟨G46, eG46⟩ : ∃ z : zg_G, z = zg_up G58 a (.inr (9, [.ref la, tv, sv, dv, .int (rc + 1)])) := ⟨_, rfl⟩
    have hG : zP E G46 H := by rw [eG46]; exact hG
    have hx47 : zx (fun q => q = a ∨ q = la) G G46 := hx45.tr (by rw [eG46]; exact zx.up (Or.inl rfl))
    have k48 : G46 a = some (.inr (9, [.ref la, tv, sv, dv, .int (rc + 1)])) := by rw [eG46]; exact zg_up_self _ _ _
    have k49 : G46 x = some (.inr (3, [nv, uv])) := by rw [eG46, zg_up_ne (zg_ne k37 k36 (by intro h; simp at h))]; exact k37
    have k50 : G46 t0 = some (.inr (2, [bv, wv])) := by rw [eG46, zg_up_ne (zg_ne k38 k36 (by intro h; simp at h))]; exact k38
    have k51 : G46 q23 = some (.inr (4, [.ref x, .ref ol, .null])) := by rw [eG46, zg_up_ne (Ne.symm ne23_a)]; exact k39
    have k52 : G46 la = some (.inr (0, [.ref d31, .int (nI 1), .int ky31])) := by rw [eG46, zg_up_ne (zg_ne k40 k36 (by intro h; simp at h))]; exact k40
    have k53 : G46 d31 = some (.inl (E.2.1 3, c31, .inr (.inr (.inr (.inr f31))))) := by rw [eG46, zg_up_ne (Ne.symm ne_d31_a)]; exact k41
    have k54 : G46 ol = some (.inr (0, [.ref sd9, .int (nI 1), .int ks])) := by rw [eG46, zg_up_ne (Ne.symm ne_ol_a)]; exact k42
    have k55 : G46 sd9 = some (.inl (E.2.1 3, cs, .inr (.inr (.inr (.inr fs))))) := by rw [eG46, zg_up_ne (Ne.symm ne_sd9_a)]; exact k43
    have k56 : G46 sq = some (.inr (5, [.int t, .int 0, .ref sb])) := by rw [eG46, zg_up_ne (Ne.symm ne_sq_a)]; exact k44
    have k57 : G46 sb = some (.inr (0, [.ref d58, .int (nI 1), .int ky58])) := by rw [eG46, zg_up_ne (Ne.symm ne_sb_a)]; exact hka58
    have k58 : G46 d58 = some (.inl (E.2.1 3, c58, .inr (.inr (.inr (.inr f58))))) := by rw [eG46, zg_up_ne (Ne.symm ne_d58_a)]; exact hkd58
    refine lv_aload_n hx hb d_Zo_insert_72 rfl (lv_at hl 2 rfl) ?_
    have hGo73 := hG
    refine zk_v (va_runV (As := []) (rest := []) ⟨hx, hb, hml, hown, hts⟩ (t_Zo_markCuts_1 l E G46 a la tv sv dv (rc + 1) k48 (.ref d31) ky31 k52) (zcV 0 hts w_645 w_647 wp_9 w_3 w_648 (by decide +kernel) ⟨Nat.le_of_ble_eq_true rfl, Nat.le_of_ble_eq_true rfl⟩) (zc_preV hbase hK hN hQ hG hS k48 rfl) rfl rfl hl.1 rfl (lv_room (Nat.le_of_ble_eq_true rfl)) d_Zo_insert_73 ⟨(by decide), (by decide)⟩) hS (fun G73 H locs hp73 hG hS => ?_)
    have hG : zP E G46 H := hp73 ▸ hG
    refine lv_aload hx hb d_Zo_insert_76 (lv_at hl 0 rfl) ?_
    exact hret (some sq) _ _ _ _ _ _ _ _ hr (Or.inl ⟨_, rfl⟩) (⟨q23, ol, sq, sb, d31, sd9, d58, ky31, c31, f31, ks, cs, fs, ky58, c58, f58, rfl, n23, nf_ol, nf_sq, nf_sb, nf_d31, nf_sd9, nf_d58, hx47, k48, k52, k53, ⟨h031, hc31, hz31, hf31⟩, k51, k54, k55, ⟨h0s, hcs, hzs, hfs⟩, k56, k57, k58, ⟨h058, hc58, hz58, hf58⟩, ne_sb_ol, ne_d58_d31, ne_d58_sd9⟩) hG hS (by decide) (by decide) d_Zo_insert_78
abbrev rm_Zo_changeSerial (n0 : Nat) : Room := { frames := 8, cells := 3, slots := n0 + 20, locals := 240 }
set_option maxHeartbeats 4000000 in
set_option maxRecDepth 100000 in
/-- Zone.changeSerial(x) -/
theorem t_Zo_changeSerial (l : Launch) (E : zc_E) (G : zg_G) (a la : Nat) (tv : Value) (st : Nat) (rc : Int32) (b0 n0 : Nat) (f0 : Nat → Int32) (h0 : G b0 = some (.inl (E.2.1 0, n0, .inl f0))) (hft : sb_Fit f0) (hn0 : n0 < 2 ^ 24) (ha : G a = some (.inr (9, [.ref la, tv, .ref st, .ref b0, .int rc]))) (h20 : 20 ≤ n0) (ty ti : Int32) (da dd y : Nat) (xs : List Nat) (hst : G st = some (.inr (5, [.int ty, .int ti, .ref da]))) (hL : zL E G da dd (y :: xs)) (x : Int32) (hn9 : n0 ≤ 600) : zMv l E y_Zo_changeSerial c_Zo_changeSerial 2 (rm_Zo_changeSerial n0) [.ref a, .int x] G (fun (G2 : zg_G) => ∃ (q x0 d2 : Nat), G q = none ∧ G x0 = none ∧ (d2 = dd ∨ G d2 = none) ∧ zx (fun q => q = a ∨ q = da ∨ q = dd) G G2 ∧ G2 a = some (.inr (9, [.ref la, tv, .ref st, .ref q, .int rc])) ∧ G2 q = some (.inl (E.2.1 0, n0, .inl (zw4 f0 (n0 - 20) x))) ∧ zL E G2 da d2 [x0] ∧ G2 x0 = some (.inr (2, [.ref q, .null]))) := by
  refine zMv.of (by decide) (Nat.le_of_ble_eq_true rfl) ?_
  intro p e s m args below meth c Q hZ hG hret ls hl
  obtain ⟨hx, hb, hr, hts, hown, hlocks, hml, hnm, hbase, hK, hN, hQ⟩ := hZ
  have hl : lv_has ls 2 [(0, .ref a), (1, .int x)] := hl
  have hS : zg_S (zc_b E) s.heap s.heap [] := va_S.rf
  obtain ⟨k, cap, f, hda, hdd, h0c, hc, hz, hf⟩ := hL.un
  have hE00 : G (E.2.2.2 0) = none := hQ.out hG
  have hx0 : zx (fun q => q = a ∨ q = da ∨ q = dd) G G := zx.rf
  refine lv_aload_n hx hb d_Zo_changeSerial_0 rfl (lv_at hl 0 rfl) ?_
  refine lv_aload_n hx hb d_Zo_changeSerial_1 rfl (lv_at hl 0 rfl) ?_
  refine zg_get (ci := 9) (C := "ZoneAnswers$Zone") (T := T_Zo) (N := 5) hx hb hts zi_Zo hown hK hG ha rfl 3 (by decide) (hts _ w_94) (fun _ h9 => h9) rfl d_Zo_changeSerial_2 ?_
  refine zg_clone (ad := "[B") hx hb (hml.trans hl.1.symm) hown (hts _ w_661) (hts _ w_341) (hts _ w_342) (hts _ w_343) (hts _ w_344) (zN.at hN (w := .castable "[B" "java/lang/Cloneable") (by decide +kernel)) hK hG hS hbase 0 h0 rfl hQ.2.2.2.2.2.2.1 (zf_fit hft) (Nat.le_of_ble_eq_true rfl) (Nat.le_of_ble_eq_true rfl) (by dsimp only; omega) (by dsimp only; omega) d_Zo_changeSerial_5 (fun q5 H n5 hG hS => ?_)
  obtain ⟨G1, eG1⟩ : ∃ z : zg_G, z = zg_up G q5 (.inl (E.2.1 0, n0, .inl f0)) := ⟨_, rfl⟩
  have hG : zP E G1 H := by rw [eG1]; exact hG
  have hx2 : zx (fun q => q = a ∨ q = da ∨ q = dd) G G1 := hx0.tr (by rw [eG1]; exact zx.nw n5)
  have ne5_a : a ≠ q5 := zg_fr n5 ha
  have k3 : G1 a = some (.inr (9, [.ref la, tv, .ref st, .ref b0, .int rc])) := by rw [eG1, zg_up_ne (zg_fr n5 ha)]; exact ha
  have ne5_b0 : b0 ≠ q5 := zg_fr n5 h0
  have k4 : G1 b0 = some (.inl (E.2.1 0, n0, .inl f0)) := by rw [eG1, zg_up_ne (zg_fr n5 h0)]; exact h0
  have ne5_st : st ≠ q5 := zg_fr n5 hst
  have k5 : G1 st = some (.inr (5, [.int ty, .int ti, .ref da])) := by rw [eG1, zg_up_ne (zg_fr n5 hst)]; exact hst
  have ne5_da : da ≠ q5 := zg_fr n5 hda
  have k6 : G1 da = some (.inr (0, [.ref dd, .int (nI (xs.length + 1)), .int k])) := by rw [eG1, zg_up_ne (zg_fr n5 hda)]; exact hda
  have ne5_dd : dd ≠ q5 := zg_fr n5 hdd
  have k7 : G1 dd = some (.inl (E.2.1 3, cap, .inr (.inr (.inr (.inr f))))) := by rw [eG1, zg_up_ne (zg_fr n5 hdd)]; exact hdd
  have k8 : G1 q5 = some (.inl (E.2.1 0, n0, .inl f0)) := by rw [eG1]; exact zg_up_self _ _ _
  refine zg_castA hx hb hown (hts _ w_662) hG k8 hQ.2.2.2.2.2.2.1 d_Zo_changeSerial_8 ?_
  refine zg_put (ci := 9) (v := .ref q5) (ty := .array .byte) (C := "ZoneAnswers$Zone") (T := T_Zo) (N := 5) hx hb hts zi_Zo t_Zo t_Zo_ok n_Zo hown hK hG hS k3 rfl 3 (by decide) (hts _ w_94) (fun _ h9 => h9) rfl (by decide +kernel) rfl rfl (Nat.le_of_ble_eq_true rfl) d_Zo_changeSerial_11 (fun H locs hG hS => ?_)
  obtain ⟨G9, eG9⟩ : ∃ z : zg_G, z = zg_up G1 a (.inr (9, [.ref la, tv, .ref st, .ref q5, .int rc])) := ⟨_, rfl⟩
  have hG : zP E G9 H := by rw [eG9]; exact hG
  have hx10 : zx (fun q => q = a ∨ q = da ∨ q = dd) G G9 := hx2.tr (by rw [eG9]; exact zx.up (Or.inl rfl))
  have k11 : G9 a = some (.inr (9, [.ref la, tv, .ref st, .ref q5, .int rc])) := by rw [eG9]; exact zg_up_self _ _ _
  have k12 : G9 b0 = some (.inl (E.2.1 0, n0, .inl f0)) := by rw [eG9, zg_up_ne (zg_ne k4 k3 (by intro h; simp at h))]; exact k4
  have k13 : G9 st = some (.inr (5, [.int ty, .int ti, .ref da])) := by rw [eG9, zg_up_ne (zg_ne k5 k3 (by intro h; simp at h))]; exact k5
  have k14 : G9 da = some (.inr (0, [.ref dd, .int (nI (xs.length + 1)), .int k])) := by rw [eG9, zg_up_ne (zg_ne k6 k3 (by intro h; simp at h))]; exact k6
  have k15 : G9 dd = some (.inl (E.2.1 3, cap, .inr (.inr (.inr (.inr f))))) := by rw [eG9, zg_up_ne (zg_ne k7 k3 (by intro h; simp at h))]; exact k7
  have k16 : G9 q5 = some (.inl (E.2.1 0, n0, .inl f0)) := by rw [eG9, zg_up_ne (Ne.symm ne5_a)]; exact k8
  refine lv_aload_n hx hb d_Zo_changeSerial_14 rfl (lv_at hl 0 rfl) ?_
  refine zg_get (ci := 9) (C := "ZoneAnswers$Zone") (T := T_Zo) (N := 5) hx hb hts zi_Zo hown hK hG k11 rfl 3 (by decide) (hts _ w_94) (fun _ h9 => h9) rfl d_Zo_changeSerial_15 ?_
  refine lv_aload_n hx hb d_Zo_changeSerial_18 rfl (lv_at hl 0 rfl) ?_
  refine zg_get (ci := 9) (C := "ZoneAnswers$Zone") (T := T_Zo) (N := 5) hx hb hts zi_Zo hown hK hG k11 rfl 3 (by decide) (hts _ w_94) (fun _ h9 => h9) rfl d_Zo_changeSerial_19 ?_
  refine zg_alen hx hb hK hG 0 k16 rfl (v := nI n0) rfl d_Zo_changeSerial_22 ?_
  refine lv_bipush (v := 20) hx hb d_Zo_changeSerial_23 (by decide) ?_
  refine lv_isub hx hb d_Zo_changeSerial_25 ?_
  refine zi_as (y := nI (n0 - 20)) (zi_sub (a := n0) (b := 20) (by omega)) ?_
  refine lv_iload_n hx hb d_Zo_changeSerial_26 rfl (lv_at hl 1 rfl) ?_
  have hGo27 := hG
  refine zk_v (va_runSN (As := [.ref q5, .int (nI (n0 - 20)), .int x]) (rest := []) ⟨hx, hb, hml, hown, hts⟩ (t_ZA_writeNumber l E G9 q5 n0 f0 k16 hft hn0 (n0 - 20) (by omega) x) ⟨va_cnB 3 hts (zw_good w_665) rfl rfl rfl (zN.at hN (w := .methodLinkNest "ZoneAnswers$Zone" 64 ⟨"ZoneAnswers", "writeNumber", "([BII)V"⟩ "ZoneAnswers") (by decide +kernel)) (hts _ w_1) (by decide +kernel) ⟨Nat.le_of_ble_eq_true rfl, Nat.le_of_ble_eq_true rfl⟩, hts _ w_664, trivial⟩ (zc_pre hbase hK hN hQ hG hS) rfl rfl hl.1 rfl (lv_room (Nat.le_of_ble_eq_true rfl)) d_Zo_changeSerial_27 ⟨(by dsimp only; omega), (by dsimp only; omega)⟩) hS (fun G27 H locs hp27 hG hS => ?_)
  have hx17 : zx (fun q => q = a ∨ q = da ∨ q = dd) G G27 := by rw [hp27]; exact hx10.upn n5
  have k18 : G27 a = some (.inr (9, [.ref la, tv, .ref st, .ref q5, .int rc])) := by rw [hp27, zg_up_ne (ne5_a)]; exact k11
  have k19 : G27 b0 = some (.inl (E.2.1 0, n0, .inl f0)) := by rw [hp27, zg_up_ne (ne5_b0)]; exact k12
  have k20 : G27 st = some (.inr (5, [.int ty, .int ti, .ref da])) := by rw [hp27, zg_up_ne (ne5_st)]; exact k13
  have k21 : G27 da = some (.inr (0, [.ref dd, .int (nI (xs.length + 1)), .int k])) := by rw [hp27, zg_up_ne (ne5_da)]; exact k14
  have k22 : G27 dd = some (.inl (E.2.1 3, cap, .inr (.inr (.inr (.inr f))))) := by rw [hp27, zg_up_ne (ne5_dd)]; exact k15
  have k23 : G27 q5 = some (.inl (E.2.1 0, n0, .inl (zw4 f0 (n0 - 20) x))) := by rw [hp27]; exact zg_up_self _ _ _
  refine lv_aload_n hx hb d_Zo_changeSerial_30 rfl (lv_at hl 0 rfl) ?_
  refine zg_get (ci := 9) (C := "ZoneAnswers$Zone") (T := T_Zo) (N := 5) hx hb hts zi_Zo hown hK hG k18 rfl 2 (by decide) (hts _ w_93) (fun _ h9 => h9) rfl d_Zo_changeSerial_31 ?_
  refine zg_get (ci := 5) (C := "ZoneAnswers$Rrset") (T := T_Rr) (N := 3) hx hb hts zi_Rr hown hK hG k20 rfl 2 (by decide) (hts _ w_628) (fun _ h9 => h9) rfl d_Zo_changeSerial_34 ?_
  have hGo37 := hG
  refine zk_v (va_runV (As := []) (rest := []) ⟨hx, hb, hml, hown, hts⟩ (t_AL_clear l E G27 da dd (xs.length + 1) cap k f k21 k22 hc (by omega)) (zcV 0 hts w_129 w_130 w_131 w_6 w_132 (by decide +kernel) ⟨Nat.le_of_ble_eq_true rfl, Nat.le_of_ble_eq_true rfl⟩) (zc_preV hbase hK hN hQ hG hS k21 rfl) rfl rfl hl.1 rfl (lv_room (Nat.le_of_ble_eq_true rfl)) d_Zo_changeSerial_37 ⟨(by dsimp only; omega), (by dsimp only; omega)⟩) hS (fun G37 H locs hp37 hG hS => ?_)
  obtain ⟨hx37, hka37, f37, hkd37, hf37⟩ := hp37
  have k24 : G37 a = some (.inr (9, [.ref la, tv, .ref st, .ref q5, .int rc])) := hx37 a _ (fun z => z.elim (zg_ne k18 k21 (by intro h; simp at h)) (zg_ne k18 k22 (by intro h; simp at h))) k18
  have k25 : G37 b0 = some (.inl (E.2.1 0, n0, .inl f0)) := hx37 b0 _ (fun z => z.elim (zg_ne k19 k21 (by intro h; simp at h)) (zg_ne k19 k22 (by intro h; simp at h))) k19
  have k26 : G37 st = some (.inr (5, [.int ty, .int ti, .ref da])) := hx37 st _ (fun z => z.elim (zg_ne k20 k21 (by intro h; simp at h)) (zg_ne k20 k22 (by intro h; simp at h))) k20
  have k27 : G37 q5 = some (.inl (E.2.1 0, n0, .inl (zw4 f0 (n0 - 20) x))) := hx37 q5 _ (fun z => z.elim (Ne.symm ne5_da) (Ne.symm ne5_dd)) k23
  have hx28 : zx (fun q => q = a ∨ q = da ∨ q = dd) G G37 := fun q x hs hq => hx37 q x (fun z => z.elim (fun z => absurd (show (fun q => q = a ∨ q = da ∨ q = dd) q from by subst z; exact Or.inr (Or.inl rfl)) hs) (fun z => absurd (show (fun q => q = a ∨ q = da ∨ q = dd) q from by subst z; exact Or.inr (Or.inr rfl)) hs)) (hx17 q x hs hq)
  have hE0 : ∀ j, f37 j = ([] : List Nat)[j]? := fun j => by
    rw [hf37 j, hf j]
    by_cases hj : j < xs.length + 1
    · rw [if_pos hj]; simp
    · rw [if_neg hj, List.getElem?_eq_none (by simp; omega)]; simp
  refine lv_aload_n hx hb d_Zo_changeSerial_40 rfl (lv_at hl 0 rfl) ?_
  refine zg_get (ci := 9) (C := "ZoneAnswers$Zone") (T := T_Zo) (N := 5) hx hb hts zi_Zo hown hK hG k24 rfl 2 (by decide) (hts _ w_93) (fun _ h9 => h9) rfl d_Zo_changeSerial_41 ?_
  refine zg_get (ci := 5) (C := "ZoneAnswers$Rrset") (T := T_Rr) (N := 3) hx hb hts zi_Rr hown hK hG k26 rfl 2 (by decide) (hts _ w_628) (fun _ h9 => h9) rfl d_Zo_changeSerial_44 ?_
  refine zg_new (ci := 2) (fs := [.null, .null]) (C := "ZoneAnswers$Datum") (T := T_Da) (N := 2) hx hb hts zi_Da t_Da t_Da_ok hown (hts _ w_133) (hts _ w_134) (hts _ w_8) hK hG hS hbase rfl (fun j hj => by rcases (show j = 0 ∨ j = 1 by omega) with rfl | rfl <;> rfl) (by dsimp only; omega) (by dsimp only; omega) d_Zo_changeSerial_47 (fun q47 H n47 hG hS => ?_)
  obtain ⟨G29, eG29⟩ : ∃ z : zg_G, z = zg_up G37 q47 (.inr (2, [.null, .null])) := ⟨_, rfl⟩
  have hG : zP E G29 H := by rw [eG29]; exact hG
  have nf47 : G q47 = none := zx.fr hx28 n47 (fun h => by rcases h with h | h | h <;> (rw [h] at n47; first | (rw [n47] at k24; cases k24) | (rw [n47] at hka37; cases hka37) | (rw [n47] at hkd37; cases hkd37)))
  have hx30 : zx (fun q => q = a ∨ q = da ∨ q = dd) G G29 := hx28.tr (by rw [eG29]; exact zx.nw n47)
  have ne47_a : a ≠ q47 := zg_fr n47 k24
  have k31 : G29 a = some (.inr (9, [.ref la, tv, .ref st, .ref q5, .int rc])) := by rw [eG29, zg_up_ne (zg_fr n47 k24)]; exact k24
  have ne47_b0 : b0 ≠ q47 := zg_fr n47 k25
  have k32 : G29 b0 = some (.inl (E.2.1 0, n0, .inl f0)) := by rw [eG29, zg_up_ne (zg_fr n47 k25)]; exact k25
  have ne47_st : st ≠ q47 := zg_fr n47 k26
  have k33 : G29 st = some (.inr (5, [.int ty, .int ti, .ref da])) := by rw [eG29, zg_up_ne (zg_fr n47 k26)]; exact k26
  have ne47_q5 : q5 ≠ q47 := zg_fr n47 k27
  have k34 : G29 q5 = some (.inl (E.2.1 0, n0, .inl (zw4 f0 (n0 - 20) x))) := by rw [eG29, zg_up_ne (zg_fr n47 k27)]; exact k27
  have ne47_da : da ≠ q47 := zg_fr n47 hka37
  have k35 : G29 da = some (.inr (0, [.ref dd, .int 0, .int (k + 1)])) := by rw [eG29, zg_up_ne (zg_fr n47 hka37)]; exact hka37
  have ne47_dd : dd ≠ q47 := zg_fr n47 hkd37
  have k36 : G29 dd = some (.inl (E.2.1 3, cap, .inr (.inr (.inr (.inr f37))))) := by rw [eG29, zg_up_ne (zg_fr n47 hkd37)]; exact hkd37
  have k37 : G29 q47 = some (.inr (2, [.null, .null])) := by rw [eG29]; exact zg_up_self _ _ _
  refine lv_dup hx hb d_Zo_changeSerial_50 rfl ?_
  refine lv_aload_n hx hb d_Zo_changeSerial_51 rfl (lv_at hl 0 rfl) ?_
  refine zg_get (ci := 9) (C := "ZoneAnswers$Zone") (T := T_Zo) (N := 5) hx hb hts zi_Zo hown hK hG k31 rfl 3 (by decide) (hts _ w_94) (fun _ h9 => h9) rfl d_Zo_changeSerial_52 ?_
  refine lv_null hx hb d_Zo_changeSerial_55 ?_
  have hGo56 := hG
  refine zk_v (va_runI (As := [.ref q5, .null]) (rest := [.ref q47, .ref da]) ⟨hx, hb, hml, hown, hts⟩ (t_Da_init_n l E G29 q47 q5 k37) (zcI 2 hts w_135 w_136 w_8 w_137 rfl (by decide +kernel) ⟨Nat.le_of_ble_eq_true rfl, Nat.le_of_ble_eq_true rfl⟩) (zc_pre hbase hK hN hQ hG hS) rfl rfl hl.1 rfl (lv_room (Nat.le_of_ble_eq_true rfl)) d_Zo_changeSerial_56 ⟨(by dsimp only; omega), (by dsimp only; omega)⟩) hS (fun G56 H locs hp56 hG hS => ?_)
  have hx38 : zx (fun q => q = a ∨ q = da ∨ q = dd) G G56 := by rw [hp56]; exact hx30.upn nf47
  have k39 : G56 a = some (.inr (9, [.ref la, tv, .ref st, .ref q5, .int rc])) := by rw [hp56, zg_up_ne (ne47_a)]; exact k31
  have k40 : G56 b0 = some (.inl (E.2.1 0, n0, .inl f0)) := by rw [hp56, zg_up_ne (ne47_b0)]; exact k32
  have k41 : G56 st = some (.inr (5, [.int ty, .int ti, .ref da])) := by rw [hp56, zg_up_ne (ne47_st)]; exact k33
  have k42 : G56 q5 = some (.inl (E.2.1 0, n0, .inl (zw4 f0 (n0 - 20) x))) := by rw [hp56, zg_up_ne (ne47_q5)]; exact k34
  have k43 : G56 da = some (.inr (0, [.ref dd, .int 0, .int (k + 1)])) := by rw [hp56, zg_up_ne (ne47_da)]; exact k35
  have k44 : G56 dd = some (.inl (E.2.1 3, cap, .inr (.inr (.inr (.inr f37))))) := by rw [hp56, zg_up_ne (ne47_dd)]; exact k36
  have k45 : G56 q47 = some (.inr (2, [.ref q5, .null])) := by rw [hp56]; exact zg_up_self _ _ _
  have hGo59 := hG
  refine zk_i (va_runV (As := [.ref q47]) (rest := []) ⟨hx, hb, hml, hown, hts⟩ (t_AL_add_2 l E G56 da dd [] ⟨⟨_, by rw [show nI ([] : List Nat).length = 0 from nI_0]; exact k43⟩, Or.inr ⟨cap, f37, k44, by omega, Nat.zero_le _, hz, hE0⟩⟩ q47 ⟨2, _, k45, Or.inl rfl⟩ (by decide) 10 (by decide) (fun z hz => absurd hz List.not_mem_nil)) (zcV 1 hts w_637 w_638 w_639 w_6 w_640 (by decide +kernel) ⟨Nat.le_of_ble_eq_true rfl, Nat.le_of_ble_eq_true rfl⟩) (zc_preV hbase hK hN hQ hG hS k43 rfl) rfl rfl hl.1 rfl (lv_room (Nat.le_of_ble_eq_true rfl)) d_Zo_changeSerial_59 ⟨(by dsimp only; omega), (by dsimp only; omega)⟩) hS (fun r59 G59 H locs hp59 hG hS => ?_)
  obtain ⟨d59, hL59, hd59, hx59⟩ := hp59.2
  have hd9 : d59 = dd ∨ G d59 = none := hd59.imp id (fun z => zx.fr hx38 z (fun h => by rcases h with h | h | h <;> (have n9 := z; rw [h] at n9; first | (rw [k39] at n9; cases n9) | (rw [k43] at n9; cases n9) | (rw [k44] at n9; cases n9))))
  have k46 : G59 a = some (.inr (9, [.ref la, tv, .ref st, .ref q5, .int rc])) := hx59 a _ (fun z => z.elim (zg_ne k39 k43 (by intro h; simp at h)) (zg_ne k39 k44 (by intro h; simp at h))) k39
  have k47 : G59 b0 = some (.inl (E.2.1 0, n0, .inl f0)) := hx59 b0 _ (fun z => z.elim (zg_ne k40 k43 (by intro h; simp at h)) (zg_ne k40 k44 (by intro h; simp at h))) k40
  have k48 : G59 st = some (.inr (5, [.int ty, .int ti, .ref da])) := hx59 st _ (fun z => z.elim (zg_ne k41 k43 (by intro h; simp at h)) (zg_ne k41 k44 (by intro h; simp at h))) k41
  have k49 : G59 q5 = some (.inl (E.2.1 0, n0, .inl (zw4 f0 (n0 - 20) x))) := hx59 q5 _ (fun z => z.elim (Ne.symm ne5_da) (Ne.symm ne5_dd)) k42
  have k50 : G59 q47 = some (.inr (2, [.ref q5, .null])) := hx59 q47 _ (fun z => z.elim (Ne.symm ne47_da) (Ne.symm ne47_dd)) k45
  have hx51 : zx (fun q => q = a ∨ q = da ∨ q = dd) G G59 := fun q x hs hq => hx59 q x (fun z => z.elim (fun z => absurd (show (fun q => q = a ∨ q = da ∨ q = dd) q from by subst z; exact Or.inr (Or.inl rfl)) hs) (fun z => absurd (show (fun q => q = a ∨ q = da ∨ q = dd) q from by subst z; exact Or.inr (Or.inr rfl)) hs)) (hx38 q x hs hq)
  refine lv_pop hx hb d_Zo_changeSerial_62 rfl ?_
  exact hret _ _ _ _ _ _ _ (⟨q5, q47, d59, n5, nf47, hd9, hx51, k46, k49, hL59, k50⟩) hG hS (by dsimp only; omega) (by dsimp only; omega) d_Zo_changeSerial_63
abbrev rm_Zo_begin_e (n0 : Nat) : Room := { frames := 10, cells := 16, slots := n0 + 120, locals := 360 }
set_option maxHeartbeats 4000000 in
set_option maxRecDepth 100000 in
/-- Zone.begin(origin, data, time), of a new zone -/
theorem t_Zo_begin_e (l : Launch) (E : zc_E) (G : zg_G) (a la : Nat) (tv sv dv : Value) (rc : Int32) (ha : G a = some (.inr (9, [.ref la, tv, sv, dv, .int rc]))) (k : Int32) (hla : G la = some (.inr (0, [.ref (E.2.2.2 0), .int 0, .int k]))) (b0 n0 : Nat) (f0 : Nat → Int32) (h0 : G b0 = some (.inl (E.2.1 0, n0, .inl f0))) (hft : sb_Fit f0) (hn0 : n0 < 2 ^ 24) (h20 : 20 ≤ n0) (hn9 : n0 ≤ 600) (x : Nat) (nv uv : Value) (hx9 : G x = some (.inr (3, [nv, uv]))) (ti : Int32) : zMv l E y_Zo_begin c_Zo_begin 4 (rm_Zo_begin_e n0) [.ref a, .ref x, .ref b0, .int ti] G (fun (G2 : zg_G) => ∃ (o ol st da sd dx d0 d1 d3 : Nat) (k0 : Int32) (c0 : Nat) (f0x : Nat → Option Nat) (k1 : Int32) (c1 : Nat) (f1 : Nat → Option Nat) (k3 : Int32) (c3 : Nat) (f3 : Nat → Option Nat), G o = none ∧ G st = none ∧ G sd = none ∧ zx (fun q => q = a ∨ q = la) G G2 ∧ G2 a = some (.inr (9, [.ref la, .ref x, .ref st, .ref sd, .int (0 + 1)])) ∧ G2 la = some (.inr (0, [.ref d0, .int (nI 1), .int k0])) ∧ G2 d0 = some (.inl (E.2.1 3, c0, .inr (.inr (.inr (.inr f0x))))) ∧ (0 < c0 ∧ 1 ≤ c0 ∧ c0 ≤ 4001 ∧ ∀ j, f0x j = [o][j]?) ∧ G2 o = some (.inr (4, [.ref x, .ref ol, .null])) ∧ G2 ol = some (.inr (0, [.ref d1, .int (nI 1), .int k1])) ∧ G2 d1 = some (.inl (E.2.1 3, c1, .inr (.inr (.inr (.inr f1))))) ∧ (0 < c1 ∧ 1 ≤ c1 ∧ c1 ≤ 4001 ∧ ∀ j, f1 j = [st][j]?) ∧ G2 st = some (.inr (5, [.int 6, .int ti, .ref da])) ∧ G2 da = some (.inr (0, [.ref d3, .int (nI 1), .int k3])) ∧ G2 d3 = some (.inl (E.2.1 3, c3, .inr (.inr (.inr (.inr f3))))) ∧ (0 < c3 ∧ 1 ≤ c3 ∧ c3 ≤ 4001 ∧ ∀ j, f3 j = [dx][j]?) ∧ G2 dx = some (.inr (2, [.ref sd, .null])) ∧ G2 sd = some (.inl (E.2.1 0, n0, .inl (zw4 f0 (n0 - 20) 1)))) := by
  refine zMv.of (by decide) (Nat.le_of_ble_eq_true rfl) ?_
  intro p e s m args below meth c Q hZ hG hret ls hl
  obtain ⟨hx, hb, hr, hts, hown, hlocks, hml, hnm, hbase, hK, hN, hQ⟩ := hZ
  have hl : lv_has ls 4 [(0, .ref a), (1, .ref x), (2, .ref b0), (3, .int ti)] := hl
  have hS : zg_S (zc_b E) s.heap s.heap [] := va_S.rf
  have hE00 : G (E.2.2.2 0) = none := hQ.out hG
  have hx0 : zx (fun q => q = a ∨ q = la) G G := zx.rf
  refine lv_aload_n hx hb d_Zo_begin_0 rfl (lv_at hl 0 rfl) ?_
  refine zg_get (ci := 9) (C := "ZoneAnswers$Zone") (T := T_Zo) (N := 5) hx hb hts zi_Zo hown hK hG ha rfl 0 (by decide) (hts _ w_91) (fun _ h9 => h9) rfl d_Zo_begin_1 ?_
  have hGo4 := hG
  refine zk_v (va_runV (As := []) (rest := []) ⟨hx, hb, hml, hown, hts⟩ (t_AL_clear_e l E G la k hla) (zcV 0 hts w_129 w_130 w_131 w_6 w_132 (by decide +kernel) ⟨Nat.le_of_ble_eq_true rfl, Nat.le_of_ble_eq_true rfl⟩) (zc_preV hbase hK hN hQ hG hS hla rfl) rfl rfl hl.1 rfl (lv_room (Nat.le_of_ble_eq_true rfl)) d_Zo_begin_4 ⟨(by dsimp only; omega), (by dsimp only; omega)⟩) hS (fun G4 H locs hp4 hG hS => ?_)
  obtain ⟨hx4, hka4⟩ := hp4
  have k1 : G4 a = some (.inr (9, [.ref la, tv, sv, dv, .int rc])) := hx4 a _ (zg_ne ha hla (by intro h; simp at h)) ha
  have k2 : G4 b0 = some (.inl (E.2.1 0, n0, .inl f0)) := hx4 b0 _ (zg_ne h0 hla (by intro h; simp at h)) h0
  have k3 : G4 x = some (.inr (3, [nv, uv])) := hx4 x _ (zg_ne hx9 hla (by intro h; simp at h)) hx9
  have hx4 : zx (fun q => q = a ∨ q = la) G G4 := fun q x hs hq => hx4 q x (fun z => absurd (show (fun q => q = a ∨ q = la) q from by subst z; exact Or.inr rfl) hs) (hx0 q x hs hq)
  refine lv_aload_n hx hb d_Zo_begin_7 rfl (lv_at hl 0 rfl) ?_
  refine lv_iconst (v := 0) hx hb d_Zo_begin_8 (by decide) ?_
  refine zg_put (ci := 9) (v := .int 0) (ty := .int) (C := "ZoneAnswers$Zone") (T := T_Zo) (N := 5) hx hb hts zi_Zo t_Zo t_Zo_ok n_Zo hown hK hG hS k1 rfl 4 (by decide) (hts _ w_95) (fun _ h9 => h9) rfl (by decide +kernel) rfl rfl (Nat.le_of_ble_eq_true rfl) d_Zo_begin_9 (fun H locs hG hS => ?_)
  obtain ⟨G5, eG5⟩ : ∃ z : zg_G, z = zg_up G4 a (.inr (9, [.ref la, tv, sv, dv, .int 0])) := ⟨_, rfl⟩
  have hG : zP E G5 H := by rw [eG5]; exact hG
  have hx6 : zx (fun q => q = a ∨ q = la) G G5 := hx4.tr (by rw [eG5]; exact zx.up (Or.inl rfl))
  have k7 : G5 a = some (.inr (9, [.ref la, tv, sv, dv, .int 0])) := by rw [eG5]; exact zg_up_self _ _ _
  have k8 : G5 b0 = some (.inl (E.2.1 0, n0, .inl f0)) := by rw [eG5, zg_up_ne (zg_ne k2 k1 (by intro h; simp at h))]; exact k2
  have k9 : G5 x = some (.inr (3, [nv, uv])) := by rw [eG5, zg_up_ne (zg_ne k3 k1 (by intro h; simp at h))]; exact k3
  have k10 : G5 la = some (.inr (0, [.ref (E.2.2.2 0), .int 0, .int (k + 1)])) := by rw [eG5, zg_up_ne (zg_ne hka4 k1 (by intro h; simp at h))]; exact hka4
  refine lv_aload_n hx hb d_Zo_begin_12 rfl (lv_at hl 0 rfl) ?_
  refine lv_aload_n hx hb d_Zo_begin_13 rfl (lv_at hl 1 rfl) ?_
  refine zg_put (ci := 9) (v := .ref x) (ty := .object "ZoneAnswers$Name") (C := "ZoneAnswers$Zone") (T := T_Zo) (N := 5) hx hb hts zi_Zo t_Zo t_Zo_ok n_Zo hown hK hG hS k7 rfl 1 (by decide) (hts _ w_92) (fun _ h9 => h9) rfl (by decide +kernel) rfl rfl (Nat.le_of_ble_eq_true rfl) d_Zo_begin_14 (fun H locs hG hS => ?_)
  obtain ⟨G11, eG11⟩ : ∃ z : zg_G, z = zg_up G5 a (.inr (9, [.ref la, .ref x, sv, dv, .int 0])) := ⟨_, rfl⟩
  have hG : zP E G11 H := by rw [eG11]; exact hG
  have hx12 : zx (fun q => q = a ∨ q = la) G G11 := hx6.tr (by rw [eG11]; exact zx.up (Or.inl rfl))
  have k13 : G11 a = some (.inr (9, [.ref la, .ref x, sv, dv, .int 0])) := by rw [eG11]; exact zg_up_self _ _ _
  have k14 : G11 b0 = some (.inl (E.2.1 0, n0, .inl f0)) := by rw [eG11, zg_up_ne (zg_ne k8 k7 (by intro h; simp at h))]; exact k8
  have k15 : G11 x = some (.inr (3, [nv, uv])) := by rw [eG11, zg_up_ne (zg_ne k9 k7 (by intro h; simp at h))]; exact k9
  have k16 : G11 la = some (.inr (0, [.ref (E.2.2.2 0), .int 0, .int (k + 1)])) := by rw [eG11, zg_up_ne (zg_ne k10 k7 (by intro h; simp at h))]; exact k10
  refine lv_aload_n hx hb d_Zo_begin_17 rfl (lv_at hl 0 rfl) ?_
  refine lv_aload_n hx hb d_Zo_begin_18 rfl (lv_at hl 2 rfl) ?_
  refine zg_put (ci := 9) (v := .ref b0) (ty := .array .byte) (C := "ZoneAnswers$Zone") (T := T_Zo) (N := 5) hx hb hts zi_Zo t_Zo t_Zo_ok n_Zo hown hK hG hS k13 rfl 3 (by decide) (hts _ w_94) (fun _ h9 => h9) rfl (by decide +kernel) rfl rfl (Nat.le_of_ble_eq_true rfl) d_Zo_begin_19 (fun H locs hG hS => ?_)
  obtain ⟨G17, eG17⟩ : ∃ z : zg_G, z = zg_up G11 a (.inr (9, [.ref la, .ref x, sv, .ref b0, .int 0])) := ⟨_, rfl⟩
  have hG : zP E G17 H := by rw [eG17]; exact hG
  have hx18 : zx (fun q => q = a ∨ q = la) G G17 := hx12.tr (by rw [eG17]; exact zx.up (Or.inl rfl))
  have k19 : G17 a = some (.inr (9, [.ref la, .ref x, sv, .ref b0, .int 0])) := by rw [eG17]; exact zg_up_self _ _ _
  have k20 : G17 b0 = some (.inl (E.2.1 0, n0, .inl f0)) := by rw [eG17, zg_up_ne (zg_ne k14 k13 (by intro h; simp at h))]; exact k14
  have k21 : G17 x = some (.inr (3, [nv, uv])) := by rw [eG17, zg_up_ne (zg_ne k15 k13 (by intro h; simp at h))]; exact k15
  have k22 : G17 la = some (.inr (0, [.ref (E.2.2.2 0), .int 0, .int (k + 1)])) := by rw [eG17, zg_up_ne (zg_ne k16 k13 (by intro h; simp at h))]; exact k16
  refine lv_aload_n hx hb d_Zo_begin_22 rfl (lv_at hl 0 rfl) ?_
  refine lv_aload_n hx hb d_Zo_begin_23 rfl (lv_at hl 0 rfl) ?_
  refine lv_aload_n hx hb d_Zo_begin_24 rfl (lv_at hl 1 rfl) ?_
  refine lv_bipush (v := 6) hx hb d_Zo_begin_25 (by decide) ?_
  refine zg_new (ci := 2) (fs := [.null, .null]) (C := "ZoneAnswers$Datum") (T := T_Da) (N := 2) hx hb hts zi_Da t_Da t_Da_ok hown (hts _ w_133) (hts _ w_134) (hts _ w_8) hK hG hS hbase rfl (fun j hj => by rcases (show j = 0 ∨ j = 1 by omega) with rfl | rfl <;> rfl) (by dsimp only; omega) (by dsimp only; omega) d_Zo_begin_27 (fun q27 H n27 hG hS => ?_)
  obtain ⟨G23, eG23⟩ : ∃ z : zg_G, z = zg_up G17 q27 (.inr (2, [.null, .null])) := ⟨_, rfl⟩
  have hG : zP E G23 H := by rw [eG23]; exact hG
  have nf27 : G q27 = none := zx.fr hx18 n27 (fun h => by rcases h with h | h <;> (rw [h] at n27; first | (rw [n27] at k19; cases k19) | (rw [n27] at k22; cases k22)))
  have hx24 : zx (fun q => q = a ∨ q = la) G G23 := hx18.tr (by rw [eG23]; exact zx.nw n27)
  have ne27_a : a ≠ q27 := zg_fr n27 k19
  have k25 : G23 a = some (.inr (9, [.ref la, .ref x, sv, .ref b0, .int 0])) := by rw [eG23, zg_up_ne (zg_fr n27 k19)]; exact k19
  have ne27_b0 : b0 ≠ q27 := zg_fr n27 k20
  have k26 : G23 b0 = some (.inl (E.2.1 0, n0, .inl f0)) := by rw [eG23, zg_up_ne (zg_fr n27 k20)]; exact k20
  have ne27_x : x ≠ q27 := zg_fr n27 k21
  have k27 : G23 x = some (.inr (3, [nv, uv])) := by rw [eG23, zg_up_ne (zg_fr n27 k21)]; exact k21
  have ne27_la : la ≠ q27 := zg_fr n27 k22
  have k28 : G23 la = some (.inr (0, [.ref (E.2.2.2 0), .int 0, .int (k + 1)])) := by rw [eG23, zg_up_ne (zg_fr n27 k22)]; exact k22
  have k29 : G23 q27 = some (.inr (2, [.null, .null])) := by rw [eG23]; exact zg_up_self _ _ _
  refine lv_dup hx hb d_Zo_begin_30 rfl ?_
  refine lv_aload_n hx hb d_Zo_begin_31 rfl (lv_at hl 2 rfl) ?_
  refine lv_null hx hb d_Zo_begin_32 ?_
  have hGo33 := hG
  refine zk_v (va_runI (As := [.ref b0, .null]) (rest := [.ref q27, .int 6, .ref x, .ref a, .ref a]) ⟨hx, hb, hml, hown, hts⟩ (t_Da_init_n l E G23 q27 b0 k29) (zcI 2 hts w_135 w_136 w_8 w_137 rfl (by decide +kernel) ⟨Nat.le_of_ble_eq_true rfl, Nat.le_of_ble_eq_true rfl⟩) (zc_pre hbase hK hN hQ hG hS) rfl rfl hl.1 rfl (lv_room (Nat.le_of_ble_eq_true rfl)) d_Zo_begin_33 ⟨(by dsimp only; omega), (by dsimp only; omega)⟩) hS (fun G33 H locs hp33 hG hS => ?_)
  have hx30 : zx (fun q => q = a ∨ q = la) G G33 := by rw [hp33]; exact hx24.upn nf27
  have k31 : G33 a = some (.inr (9, [.ref la, .ref x, sv, .ref b0, .int 0])) := by rw [hp33, zg_up_ne (ne27_a)]; exact k25
  have k32 : G33 b0 = some (.inl (E.2.1 0, n0, .inl f0)) := by rw [hp33, zg_up_ne (ne27_b0)]; exact k26
  have k33 : G33 x = some (.inr (3, [nv, uv])) := by rw [hp33, zg_up_ne (ne27_x)]; exact k27
  have k34 : G33 la = some (.inr (0, [.ref (E.2.2.2 0), .int 0, .int (k + 1)])) := by rw [hp33, zg_up_ne (ne27_la)]; exact k28
  have k35 : G33 q27 = some (.inr (2, [.ref b0, .null])) := by rw [hp33]; exact zg_up_self _ _ _
  have hGo36 := hG
  refine zk_q (va_runV (As := [.ref x, .int 6, .ref q27]) (rest := [.ref a]) ⟨hx, hb, hml, hown, hts⟩ (t_Zo_insert_e l E G33 a la (.ref x) sv (.ref b0) 0 k31 (k + 1) k34 x q27 6 nv uv k33 (.ref b0) .null k35) (zcV 3 hts w_151 w_152 w_153 w_3 w_154 (by decide +kernel) ⟨Nat.le_of_ble_eq_true rfl, Nat.le_of_ble_eq_true rfl⟩) (zc_preV hbase hK hN hQ hG hS k31 rfl) rfl rfl hl.1 rfl (lv_room (Nat.le_of_ble_eq_true rfl)) d_Zo_begin_36 ⟨(by dsimp only; omega), (by dsimp only; omega)⟩) hS (fun r36 G36 H locs hp36 hG hS => ?_)
  obtain ⟨o, ol, st, da, d0, d1, d2, k0x, c0x, f0x, k1x, c1x, f1x, k2x, c2x, f2x, er36, no, nol, nst, nda, nd0, nd1, nd2, hx36, hza, hzl, hz0, hr0, hzo, hzol, hz1, hr1, hzs, hzd, hz2, hr2, hnob, hn02, hn12⟩ := hp36
  refine zr_some (a := st) er36 ?_
  have nf_o : G o = none := zx.fr hx30 no (fun h => by rcases h with h | h <;> (have n9 := no; rw [h] at n9; first | (rw [k31] at n9; cases n9) | (rw [k34] at n9; cases n9)))
  have ne_o_a : a ≠ o := zg_fr no k31
  have ne_o_b0 : b0 ≠ o := zg_fr no k32
  have ne_o_x : x ≠ o := zg_fr no k33
  have ne_o_la : la ≠ o := zg_fr no k34
  have ne_o_q27 : q27 ≠ o := zg_fr no k35
  have nf_ol : G ol = none := zx.fr hx30 nol (fun h => by rcases h with h | h <;> (have n9 := nol; rw [h] at n9; first | (rw [k31] at n9; cases n9) | (rw [k34] at n9; cases n9)))
  have ne_ol_a : a ≠ ol := zg_fr nol k31
  have ne_ol_b0 : b0 ≠ ol := zg_fr nol k32
  have ne_ol_x : x ≠ ol := zg_fr nol k33
  have ne_ol_la : la ≠ ol := zg_fr nol k34
  have ne_ol_q27 : q27 ≠ ol := zg_fr nol k35
  have nf_st : G st = none := zx.fr hx30 nst (fun h => by rcases h with h | h <;> (have n9 := nst; rw [h] at n9; first | (rw [k31] at n9; cases n9) | (rw [k34] at n9; cases n9)))
  have ne_st_a : a ≠ st := zg_fr nst k31
  have ne_st_b0 : b0 ≠ st := zg_fr nst k32
  have ne_st_x : x ≠ st := zg_fr nst k33
  have ne_st_la : la ≠ st := zg_fr nst k34
  have ne_st_q27 : q27 ≠ st := zg_fr nst k35
  have nf_da : G da = none := zx.fr hx30 nda (fun h => by rcases h with h | h <;> (have n9 := nda; rw [h] at n9; first | (rw [k31] at n9; cases n9) | (rw [k34] at n9; cases n9)))
  have ne_da_a : a ≠ da := zg_fr nda k31
  have ne_da_b0 : b0 ≠ da := zg_fr nda k32
  have ne_da_x : x ≠ da := zg_fr nda k33
  have ne_da_la : la ≠ da := zg_fr nda k34
  have ne_da_q27 : q27 ≠ da := zg_fr nda k35
  have nf_d0 : G d0 = none := zx.fr hx30 nd0 (fun h => by rcases h with h | h <;> (have n9 := nd0; rw [h] at n9; first | (rw [k31] at n9; cases n9) | (rw [k34] at n9; cases n9)))
  have ne_d0_a : a ≠ d0 := zg_fr nd0 k31
  have ne_d0_b0 : b0 ≠ d0 := zg_fr nd0 k32
  have ne_d0_x : x ≠ d0 := zg_fr nd0 k33
  have ne_d0_la : la ≠ d0 := zg_fr nd0 k34
  have ne_d0_q27 : q27 ≠ d0 := zg_fr nd0 k35
  have nf_d1 : G d1 = none := zx.fr hx30 nd1 (fun h => by rcases h with h | h <;> (have n9 := nd1; rw [h] at n9; first | (rw [k31] at n9; cases n9) | (rw [k34] at n9; cases n9)))
  have ne_d1_a : a ≠ d1 := zg_fr nd1 k31
  have ne_d1_b0 : b0 ≠ d1 := zg_fr nd1 k32
  have ne_d1_x : x ≠ d1 := zg_fr nd1 k33
  have ne_d1_la : la ≠ d1 := zg_fr nd1 k34
  have ne_d1_q27 : q27 ≠ d1 := zg_fr nd1 k35
  have nf_d2 : G d2 = none := zx.fr hx30 nd2 (fun h => by rcases h with h | h <;> (have n9 := nd2; rw [h] at n9; first | (rw [k31] at n9; cases n9) | (rw [k34] at n9; cases n9)))
  have ne_d2_a : a ≠ d2 := zg_fr nd2 k31
  have ne_d2_b0 : b0 ≠ d2 := zg_fr nd2 k32
  have ne_d2_x : x ≠ d2 := zg_fr nd2 k33
  have ne_d2_la : la ≠ d2 := zg_fr nd2 k34
  have ne_d2_q27 : q27 ≠ d2 := zg_fr nd2 k35
  have k36 : G36 b0 = some (.inl (E.2.1 0, n0, .inl f0)) := hx36 b0 _ (fun z => z.elim (zg_ne k32 k31 (by intro h; simp at h)) (zg_ne k32 k34 (by intro h; simp at h))) k32
  have k37 : G36 x = some (.inr (3, [nv, uv])) := hx36 x _ (fun z => z.elim (zg_ne k33 k31 (by intro h; simp at h)) (zg_ne k33 k34 (by intro h; simp at h))) k33
  have k38 : G36 q27 = some (.inr (2, [.ref b0, .null])) := hx36 q27 _ (fun z => z.elim (Ne.symm ne27_a) (Ne.symm ne27_la)) k35
  have hx39 : zx (fun q => q = a ∨ q = la) G G36 := fun q x hs hq => hx36 q x (fun z => z.elim (fun z => absurd (show (fun q => q = a ∨ q = la) q from by subst z; exact Or.inl rfl) hs) (fun z => absurd (show (fun q => q = a ∨ q = la) q from by subst z; exact Or.inr rfl) hs)) (hx30 q x hs hq)
  refine zg_put (ci := 9) (v := .ref st) (ty := .object "ZoneAnswers$Rrset") (C := "ZoneAnswers$Zone") (T := T_Zo) (N := 5) hx hb hts zi_Zo t_Zo t_Zo_ok n_Zo hown hK hG hS hza rfl 2 (by decide) (hts _ w_93) (fun _ h9 => h9) rfl (by decide +kernel) rfl rfl (Nat.le_of_ble_eq_true rfl) d_Zo_begin_39 (fun H locs hG hS => ?_)
  obtain ⟨G40, eG40⟩ : ∃ z : zg_G, z = zg_up G36 a (.inr (9, [.ref la, .ref x, .ref st, .ref b0, .int (0 + 1)])) := ⟨_, rfl⟩
  have hG : zP E G40 H := by rw [eG40]; exact hG
  have hx41 : zx (fun q => q = a ∨ q = la) G G40 := hx39.tr (by rw [eG40]; exact zx.up (Or.inl rfl))
  have k42 : G40 b0 = some (.inl (E.2.1 0, n0, .inl f0)) := by rw [eG40, zg_up_ne (zg_ne k36 hza (by intro h; simp at h))]; exact k36
  have k43 : G40 x = some (.inr (3, [nv, uv])) := by rw [eG40, zg_up_ne (zg_ne k37 hza (by intro h; simp at h))]; exact k37
  have k44 : G40 q27 = some (.inr (2, [.ref b0, .null])) := by rw [eG40, zg_up_ne (Ne.symm ne27_a)]; exact k38
  have k45 : G40 a = some (.inr (9, [.ref la, .ref x, .ref st, .ref b0, .int (0 + 1)])) := by rw [eG40]; exact zg_up_self _ _ _
  have k46 : G40 la = some (.inr (0, [.ref d0, .int (nI 1), .int k0x])) := by rw [eG40, zg_up_ne (zg_ne hzl hza (by intro h; simp at h))]; exact hzl
  have k47 : G40 d0 = some (.inl (E.2.1 3, c0x, .inr (.inr (.inr (.inr f0x))))) := by rw [eG40, zg_up_ne (Ne.symm ne_d0_a)]; exact hz0
  have k48 : G40 o = some (.inr (4, [.ref x, .ref ol, .null])) := by rw [eG40, zg_up_ne (Ne.symm ne_o_a)]; exact hzo
  have k49 : G40 ol = some (.inr (0, [.ref d1, .int (nI 1), .int k1x])) := by rw [eG40, zg_up_ne (Ne.symm ne_ol_a)]; exact hzol
  have k50 : G40 d1 = some (.inl (E.2.1 3, c1x, .inr (.inr (.inr (.inr f1x))))) := by rw [eG40, zg_up_ne (Ne.symm ne_d1_a)]; exact hz1
  have k51 : G40 st = some (.inr (5, [.int 6, .int 0, .ref da])) := by rw [eG40, zg_up_ne (Ne.symm ne_st_a)]; exact hzs
  have k52 : G40 da = some (.inr (0, [.ref d2, .int (nI 1), .int k2x])) := by rw [eG40, zg_up_ne (Ne.symm ne_da_a)]; exact hzd
  have k53 : G40 d2 = some (.inl (E.2.1 3, c2x, .inr (.inr (.inr (.inr f2x))))) := by rw [eG40, zg_up_ne (Ne.symm ne_d2_a)]; exact hz2
  refine lv_aload_n hx hb d_Zo_begin_42 rfl (lv_at hl 0 rfl) ?_
  refine zg_get (ci := 9) (C := "ZoneAnswers$Zone") (T := T_Zo) (N := 5) hx hb hts zi_Zo hown hK hG k45 rfl 2 (by decide) (hts _ w_93) (fun _ h9 => h9) rfl d_Zo_begin_43 ?_
  refine lv_iload_n hx hb d_Zo_begin_46 rfl (lv_at hl 3 rfl) ?_
  refine zg_put (ci := 5) (v := .int ti) (ty := .int) (C := "ZoneAnswers$Rrset") (T := T_Rr) (N := 3) hx hb hts zi_Rr t_Rr t_Rr_ok n_Rr hown hK hG hS k51 rfl 1 (by decide) (hts _ w_622) (fun _ h9 => h9) rfl (by decide +kernel) rfl rfl (Nat.le_of_ble_eq_true rfl) d_Zo_begin_47 (fun H locs hG hS => ?_)
  obtain ⟨G54, eG54⟩ : ∃ z : zg_G, z = zg_up G40 st (.inr (5, [.int 6, .int ti, .ref da])) := ⟨_, rfl⟩
  have hG : zP E G54 H := by rw [eG54]; exact hG
  have hx55 : zx (fun q => q = a ∨ q = la) G G54 := by rw [eG54]; exact hx41.upn nf_st
  have k56 : G54 b0 = some (.inl (E.2.1 0, n0, .inl f0)) := by rw [eG54, zg_up_ne (ne_st_b0)]; exact k42
  have k57 : G54 x = some (.inr (3, [nv, uv])) := by rw [eG54, zg_up_ne (ne_st_x)]; exact k43
  have k58 : G54 q27 = some (.inr (2, [.ref b0, .null])) := by rw [eG54, zg_up_ne (ne_st_q27)]; exact k44
  have k59 : G54 a = some (.inr (9, [.ref la, .ref x, .ref st, .ref b0, .int (0 + 1)])) := by rw [eG54, zg_up_ne (ne_st_a)]; exact k45
  have k60 : G54 la = some (.inr (0, [.ref d0, .int (nI 1), .int k0x])) := by rw [eG54, zg_up_ne (ne_st_la)]; exact k46
  have k61 : G54 d0 = some (.inl (E.2.1 3, c0x, .inr (.inr (.inr (.inr f0x))))) := by rw [eG54, zg_up_ne (zg_ne k47 k51 (by intro h; simp at h))]; exact k47
  have k62 : G54 o = some (.inr (4, [.ref x, .ref ol, .null])) := by rw [eG54, zg_up_ne (zg_ne k48 k51 (by intro h; simp at h))]; exact k48
  have k63 : G54 ol = some (.inr (0, [.ref d1, .int (nI 1), .int k1x])) := by rw [eG54, zg_up_ne (zg_ne k49 k51 (by intro h; simp at h))]; exact k49
  have k64 : G54 d1 = some (.inl (E.2.1 3, c1x, .inr (.inr (.inr (.inr f1x))))) := by rw [eG54, zg_up_ne (zg_ne k50 k51 (by intro h; simp at h))]; exact k50
  have k65 : G54 st = some (.inr (5, [.int 6, .int ti, .ref da])) := by rw [eG54]; exact zg_up_self _ _ _
  have k66 : G54 da = some (.inr (0, [.ref d2, .int (nI 1), .int k2x])) := by rw [eG54, zg_up_ne (zg_ne k52 k51 (by intro h; simp at h))]; exact k52
  have k67 : G54 d2 = some (.inl (E.2.1 3, c2x, .inr (.inr (.inr (.inr f2x))))) := by rw [eG54, zg_up_ne (zg_ne k53 k51 (by intro h; simp at h))]; exact k53
  refine lv_aload_n hx hb d_Zo_begin_50 rfl (lv_at hl 0 rfl) ?_
  refine lv_iconst (v := 1) hx hb d_Zo_begin_51 (by decide) ?_
  have hGo52 := hG
  refine zk_v (va_runV (As := [.int 1]) (rest := []) ⟨hx, hb, hml, hown, hts⟩ (t_Zo_changeSerial l E G54 a la (.ref x) st (0 + 1) b0 n0 f0 k56 hft hn0 k59 h20 6 ti da d2 q27 [] k65 ⟨⟨k2x, k66⟩, Or.inr ⟨c2x, f2x, k67, hr2.1, hr2.2.1, hr2.2.2.1, hr2.2.2.2⟩⟩ 1 hn9) (zcV 1 hts w_657 w_658 w_659 w_3 w_660 (by decide +kernel) ⟨Nat.le_of_ble_eq_true rfl, Nat.le_of_ble_eq_true rfl⟩) (zc_preV hbase hK hN hQ hG hS k59 rfl) rfl rfl hl.1 rfl (lv_room (Nat.le_of_ble_eq_true rfl)) d_Zo_begin_52 ⟨(by dsimp only; omega), (by dsimp only; omega)⟩) hS (fun G52 H locs hp52 hG hS => ?_)
  obtain ⟨sd, dx, d3, nsd, ndx, hd3, hx52, hya, hysd, hyL, hydx⟩ := hp52
  obtain ⟨k3x, c3x, f3x, hyl, hyd, h03, hc3, hz3, hf3⟩ := hyL.un
  have nf_sd : G sd = none := zx.fr hx55 nsd (fun h => by rcases h with h | h <;> (have n9 := nsd; rw [h] at n9; first | (rw [k59] at n9; cases n9) | (rw [k60] at n9; cases n9)))
  have ne_sd_b0 : b0 ≠ sd := zg_fr nsd k56
  have ne_sd_x : x ≠ sd := zg_fr nsd k57
  have ne_sd_q27 : q27 ≠ sd := zg_fr nsd k58
  have ne_sd_a : a ≠ sd := zg_fr nsd k59
  have ne_sd_la : la ≠ sd := zg_fr nsd k60
  have ne_sd_d0 : d0 ≠ sd := zg_fr nsd k61
  have ne_sd_o : o ≠ sd := zg_fr nsd k62
  have ne_sd_ol : ol ≠ sd := zg_fr nsd k63
  have ne_sd_d1 : d1 ≠ sd := zg_fr nsd k64
  have ne_sd_st : st ≠ sd := zg_fr nsd k65
  have ne_sd_da : da ≠ sd := zg_fr nsd k66
  have ne_sd_d2 : d2 ≠ sd := zg_fr nsd k67
  have nf_dx : G dx = none := zx.fr hx55 ndx (fun h => by rcases h with h | h <;> (have n9 := ndx; rw [h] at n9; first | (rw [k59] at n9; cases n9) | (rw [k60] at n9; cases n9)))
  have ne_dx_b0 : b0 ≠ dx := zg_fr ndx k56
  have ne_dx_x : x ≠ dx := zg_fr ndx k57
  have ne_dx_q27 : q27 ≠ dx := zg_fr ndx k58
  have ne_dx_a : a ≠ dx := zg_fr ndx k59
  have ne_dx_la : la ≠ dx := zg_fr ndx k60
  have ne_dx_d0 : d0 ≠ dx := zg_fr ndx k61
  have ne_dx_o : o ≠ dx := zg_fr ndx k62
  have ne_dx_ol : ol ≠ dx := zg_fr ndx k63
  have ne_dx_d1 : d1 ≠ dx := zg_fr ndx k64
  have ne_dx_st : st ≠ dx := zg_fr ndx k65
  have ne_dx_da : da ≠ dx := zg_fr ndx k66
  have ne_dx_d2 : d2 ≠ dx := zg_fr ndx k67
  have k68 : G52 b0 = some (.inl (E.2.1 0, n0, .inl f0)) := hx52 b0 _ (fun z => z.elim (zg_ne k56 k59 (by intro h; simp at h)) (fun z => z.elim (ne_da_b0) (ne_d2_b0))) k56
  have k69 : G52 x = some (.inr (3, [nv, uv])) := hx52 x _ (fun z => z.elim (zg_ne k57 k59 (by intro h; simp at h)) (fun z => z.elim (ne_da_x) (ne_d2_x))) k57
  have k70 : G52 q27 = some (.inr (2, [.ref b0, .null])) := hx52 q27 _ (fun z => z.elim (Ne.symm ne27_a) (fun z => z.elim (ne_da_q27) (ne_d2_q27))) k58
  have k71 : G52 la = some (.inr (0, [.ref d0, .int (nI 1), .int k0x])) := hx52 la _ (fun z => z.elim (zg_ne k60 k59 (by intro h; simp at h)) (fun z => z.elim (ne_da_la) (ne_d2_la))) k60
  have k72 : G52 d0 = some (.inl (E.2.1 3, c0x, .inr (.inr (.inr (.inr f0x))))) := hx52 d0 _ (fun z => z.elim (Ne.symm ne_d0_a) (fun z => z.elim (zg_ne k61 k66 (by intro h; simp at h)) (hn02))) k61
  have k73 : G52 o = some (.inr (4, [.ref x, .ref ol, .null])) := hx52 o _ (fun z => z.elim (Ne.symm ne_o_a) (fun z => z.elim (zg_ne k62 k66 (by intro h; simp at h)) (zg_ne k62 k67 (by intro h; simp at h)))) k62
  have k74 : G52 ol = some (.inr (0, [.ref d1, .int (nI 1), .int k1x])) := hx52 ol _ (fun z => z.elim (Ne.symm ne_ol_a) (fun z => z.elim (hnob) (zg_ne k63 k67 (by intro h; simp at h)))) k63
  have k75 : G52 d1 = some (.inl (E.2.1 3, c1x, .inr (.inr (.inr (.inr f1x))))) := hx52 d1 _ (fun z => z.elim (Ne.symm ne_d1_a) (fun z => z.elim (zg_ne k64 k66 (by intro h; simp at h)) (hn12))) k64
  have k76 : G52 st = some (.inr (5, [.int 6, .int ti, .ref da])) := hx52 st _ (fun z => z.elim (Ne.symm ne_st_a) (fun z => z.elim (zg_ne k65 k66 (by intro h; simp at h)) (zg_ne k65 k67 (by intro h; simp at h)))) k65
  have hx77 : zx (fun q => q = a ∨ q = la) G G52 := fun q x hs hq => hx52 q x (fun z => z.elim (fun z => absurd (show (fun q => q = a ∨ q = la) q from by subst z; exact Or.inl rfl) hs) (fun z => z.elim (fun z => by rw [z, nf_da] at hq; cases hq) (fun z => by rw [z, nf_d2] at hq; cases hq))) (hx55 q x hs hq)
  exact hret _ _ _ _ _ _ _ (⟨o, ol, st, da, sd, dx, d0, d1, d3, k0x, c0x, f0x, k1x, c1x, f1x, k3x, c3x, f3x, nf_o, nf_st, nf_sd, hx77, hya, k71, k72, hr0, k73, k74, k75, hr1, k76, hyl, hyd, ⟨h03, hc3, hz3, hf3⟩, hydx, hysd⟩) hG hS (by dsimp only; omega) (by dsimp only; omega) d_Zo_begin_55
