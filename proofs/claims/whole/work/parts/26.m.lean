/-- a letter in lower case -/
def zlow (x : Int32) : Int32 := if 65 ≤ x ∧ x ≤ 90 then (x + 32).toInt8.toInt32 else x
theorem zlow_fit {x : Int32} (h : fits .byte (.int x) = true) : fits .byte (.int (zlow x)) = true := by
  unfold zlow
  split
  · exact pk_fb (x + 32)
  · exact h
theorem zlow_nar {x : Int32} (h : fits .byte (.int x) = true) : vp_nar .byte (zlow x) = zlow x := by
  unfold vp_nar
  rw [narrow_of_fits (zlow_fit h)]
theorem zlow_up {f0 f2 : Nat → Int32} {x i : Nat} (h : ∀ j, f2 j = if x ≤ j ∧ j < i then zlow (f0 j) else f0 j) (hx : x ≤ i) (hf : fits .byte (.int (f0 i)) = true) : ∀ j, upd f2 i (vp_nar .byte (zlow (f2 i))) j = if x ≤ j ∧ j < i + 1 then zlow (f0 j) else f0 j := by
  intro j
  have e : f2 i = f0 i := by rw [h i, if_neg (by omega)]
  unfold upd
  by_cases hj : j = i
  · rw [if_pos hj, e, zlow_nar hf, if_pos (by omega), hj]
  · rw [if_neg hj, h j]
    by_cases hq : x ≤ j ∧ j < i
    · rw [if_pos hq, if_pos (by omega)]
    · rw [if_neg hq, if_neg (by omega)]
theorem w_64 : (.methodLink "ZoneAnswers$Zone" 3 ⟨"java/lang/Object", "<init>", "()V"⟩ : Cond) ∈ zw := zw_at 64 (by decide +kernel) (by decide +kernel)
theorem w_65 : (.classLink "ZoneAnswers$Zone" 9 "java/util/ArrayList" : Cond) ∈ zw := zw_at 65 (by decide +kernel) (by decide +kernel)
theorem w_67 : (.methodLink "ZoneAnswers$Zone" 11 ⟨"java/util/ArrayList", "<init>", "()V"⟩ : Cond) ∈ zw := zw_at 67 (by decide +kernel) (by decide +kernel)
theorem w_91 : (.fieldLink "ZoneAnswers$Zone" 12 "ZoneAnswers$Zone" "owners" "Ljava/util/ArrayList;" : Cond) ∈ zw := zw_at 91 (by decide +kernel) (by decide +kernel)
theorem w_92 : (.fieldLink "ZoneAnswers$Zone" 25 "ZoneAnswers$Zone" "top" "LZoneAnswers$Name;" : Cond) ∈ zw := zw_at 92 (by decide +kernel) (by decide +kernel)
theorem w_93 : (.fieldLink "ZoneAnswers$Zone" 42 "ZoneAnswers$Zone" "start" "LZoneAnswers$Rrset;" : Cond) ∈ zw := zw_at 93 (by decide +kernel) (by decide +kernel)
theorem w_95 : (.fieldLink "ZoneAnswers$Zone" 21 "ZoneAnswers$Zone" "records" "I" : Cond) ∈ zw := zw_at 95 (by decide +kernel) (by decide +kernel)
theorem w_159 : (.methodLink "ZoneAnswers$Zone" 75 ⟨"java/util/ArrayList", "size", "()I"⟩ : Cond) ∈ zw := zw_at 159 (by decide +kernel) (by decide +kernel)
theorem w_160 : (.instanceMethod ⟨"java/util/ArrayList", "size", "()I"⟩ : Cond) ∈ zw := zw_at 160 (by decide +kernel) (by decide +kernel)
theorem w_161 : (.selects "java/util/ArrayList" ⟨"java/util/ArrayList", "size", "()I"⟩ ⟨"java/util/ArrayList", "size", "()I"⟩ : Cond) ∈ zw := zw_at 161 (by decide +kernel) (by decide +kernel)
theorem w_162 : (.code ⟨"java/util/ArrayList", "size", "()I"⟩ prog_35_method_8_code 1 (some .int) : Cond) ∈ zw := zw_at 162 (by decide +kernel) (by decide +kernel)
theorem w_201 : (.methodLink "ZoneAnswers$Owner" 3 ⟨"java/lang/Object", "<init>", "()V"⟩ : Cond) ∈ zw := zw_at 201 (by decide +kernel) (by decide +kernel)
theorem w_202 : (.classLink "ZoneAnswers$Owner" 15 "java/util/ArrayList" : Cond) ∈ zw := zw_at 202 (by decide +kernel) (by decide +kernel)
theorem w_203 : (.methodLink "ZoneAnswers$Owner" 17 ⟨"java/util/ArrayList", "<init>", "()V"⟩ : Cond) ∈ zw := zw_at 203 (by decide +kernel) (by decide +kernel)
theorem w_204 : (.fieldLink "ZoneAnswers$Owner" 9 "ZoneAnswers$Owner" "name" "LZoneAnswers$Name;" : Cond) ∈ zw := zw_at 204 (by decide +kernel) (by decide +kernel)
theorem w_207 : (.fieldLink "ZoneAnswers$Owner" 18 "ZoneAnswers$Owner" "sets" "Ljava/util/ArrayList;" : Cond) ∈ zw := zw_at 207 (by decide +kernel) (by decide +kernel)
theorem w_210 : (.fieldLink "ZoneAnswers$Owner" 22 "ZoneAnswers$Owner" "cut" "LZoneAnswers$Owner;" : Cond) ∈ zw := zw_at 210 (by decide +kernel) (by decide +kernel)
theorem w_613 : (.methodLink "ZoneAnswers$Rrset" 1 ⟨"java/lang/Object", "<init>", "()V"⟩ : Cond) ∈ zw := zw_at 613 (by decide +kernel) (by decide +kernel)
theorem w_614 : (.classLink "ZoneAnswers$Rrset" 16 "java/util/ArrayList" : Cond) ∈ zw := zw_at 614 (by decide +kernel) (by decide +kernel)
theorem w_615 : (.methodLink "ZoneAnswers$Rrset" 18 ⟨"java/util/ArrayList", "<init>", "()V"⟩ : Cond) ∈ zw := zw_at 615 (by decide +kernel) (by decide +kernel)
theorem w_616 : (.fieldLink "ZoneAnswers$Rrset" 7 "ZoneAnswers$Rrset" "type" "I" : Cond) ∈ zw := zw_at 616 (by decide +kernel) (by decide +kernel)
theorem w_621 : (.fieldLink "ZoneAnswers$Rrset" 13 "ZoneAnswers$Rrset" "time" "I" : Cond) ∈ zw := zw_at 621 (by decide +kernel) (by decide +kernel)
theorem w_625 : (.fieldLink "ZoneAnswers$Rrset" 19 "ZoneAnswers$Rrset" "data" "Ljava/util/ArrayList;" : Cond) ∈ zw := zw_at 625 (by decide +kernel) (by decide +kernel)
theorem w_842 : (.static ⟨"ZoneAnswers", "lower", "(B)B"⟩ : Cond) ∈ zw := zw_at 842 (by decide +kernel) (by decide +kernel)
theorem w_843 : (.code ⟨"ZoneAnswers", "lower", "(B)B"⟩ prog_1_method_20_code 1 (some .byte) : Cond) ∈ zw := zw_at 843 (by decide +kernel) (by decide +kernel)
theorem w_892 : (.methodLink "ZoneAnswers$Rrset" 23 ⟨"java/util/ArrayList", "size", "()I"⟩ : Cond) ∈ zw := zw_at 892 (by decide +kernel) (by decide +kernel)
theorem w_1089 : (.methodLink "ZoneAnswers$Section" 19 ⟨"java/util/ArrayList", "size", "()I"⟩ : Cond) ∈ zw := zw_at 1089 (by decide +kernel) (by decide +kernel)
abbrev c_ZA_lower : ByteArray := prog_1_method_20_code
abbrev y_ZA_lower : MethodName := ⟨"ZoneAnswers", "lower", "(B)B"⟩
theorem d_ZA_lower_0 : decode c_ZA_lower 0 = .ok (.iload_n 0, 1) := by decide +kernel
theorem d_ZA_lower_1 : decode c_ZA_lower 1 = .ok (.bipush 65, 2) := by decide +kernel
theorem d_ZA_lower_3 : decode c_ZA_lower 3 = .ok (.if_icmp .lt 17, 3) := by decide +kernel
theorem d_ZA_lower_6 : decode c_ZA_lower 6 = .ok (.iload_n 0, 1) := by decide +kernel
theorem d_ZA_lower_7 : decode c_ZA_lower 7 = .ok (.bipush 90, 2) := by decide +kernel
theorem d_ZA_lower_9 : decode c_ZA_lower 9 = .ok (.if_icmp .gt 11, 3) := by decide +kernel
theorem d_ZA_lower_12 : decode c_ZA_lower 12 = .ok (.iload_n 0, 1) := by decide +kernel
theorem d_ZA_lower_13 : decode c_ZA_lower 13 = .ok (.bipush 32, 2) := by decide +kernel
theorem d_ZA_lower_15 : decode c_ZA_lower 15 = .ok (.iadd, 1) := by decide +kernel
theorem d_ZA_lower_16 : decode c_ZA_lower 16 = .ok (.i2b, 1) := by decide +kernel
theorem d_ZA_lower_17 : decode c_ZA_lower 17 = .ok (.goto 4, 3) := by decide +kernel
theorem d_ZA_lower_20 : decode c_ZA_lower 20 = .ok (.iload_n 0, 1) := by decide +kernel
theorem d_ZA_lower_21 : decode c_ZA_lower 21 = .ok (.ireturn, 1) := by decide +kernel
abbrev c_Ta_lowerFrom : ByteArray := prog_8_method_12_code
abbrev y_Ta_lowerFrom : MethodName := ⟨"ZoneAnswers$Tape", "lowerFrom", "([BI)V"⟩
theorem d_Ta_lowerFrom_0 : decode c_Ta_lowerFrom 0 = .ok (.iload_n 1, 1) := by decide +kernel
theorem d_Ta_lowerFrom_1 : decode c_Ta_lowerFrom 1 = .ok (.istore_n 2, 1) := by decide +kernel
theorem d_Ta_lowerFrom_2 : decode c_Ta_lowerFrom 2 = .ok (.iload_n 2, 1) := by decide +kernel
theorem d_Ta_lowerFrom_3 : decode c_Ta_lowerFrom 3 = .ok (.aload_n 0, 1) := by decide +kernel
theorem d_Ta_lowerFrom_4 : decode c_Ta_lowerFrom 4 = .ok (.arraylength, 1) := by decide +kernel
theorem d_Ta_lowerFrom_5 : decode c_Ta_lowerFrom 5 = .ok (.if_icmp .ge 18, 3) := by decide +kernel
theorem d_Ta_lowerFrom_8 : decode c_Ta_lowerFrom 8 = .ok (.aload_n 0, 1) := by decide +kernel
theorem d_Ta_lowerFrom_9 : decode c_Ta_lowerFrom 9 = .ok (.iload_n 2, 1) := by decide +kernel
theorem d_Ta_lowerFrom_10 : decode c_Ta_lowerFrom 10 = .ok (.aload_n 0, 1) := by decide +kernel
theorem d_Ta_lowerFrom_11 : decode c_Ta_lowerFrom 11 = .ok (.iload_n 2, 1) := by decide +kernel
theorem d_Ta_lowerFrom_12 : decode c_Ta_lowerFrom 12 = .ok (.baload, 1) := by decide +kernel
theorem d_Ta_lowerFrom_13 : decode c_Ta_lowerFrom 13 = .ok (.invokestatic 67, 3) := by decide +kernel
theorem d_Ta_lowerFrom_16 : decode c_Ta_lowerFrom 16 = .ok (.bastore, 1) := by decide +kernel
theorem d_Ta_lowerFrom_17 : decode c_Ta_lowerFrom 17 = .ok (.iinc 2 1, 3) := by decide +kernel
theorem d_Ta_lowerFrom_20 : decode c_Ta_lowerFrom 20 = .ok (.goto (-18), 3) := by decide +kernel
theorem d_Ta_lowerFrom_23 : decode c_Ta_lowerFrom 23 = .ok (.return_, 1) := by decide +kernel
abbrev c_Rr_init : ByteArray := prog_6_method_1_code
abbrev y_Rr_init : MethodName := ⟨"ZoneAnswers$Rrset", "<init>", "(I)V"⟩
theorem d_Rr_init_0 : decode c_Rr_init 0 = .ok (.aload_n 0, 1) := by decide +kernel
theorem d_Rr_init_1 : decode c_Rr_init 1 = .ok (.invokespecial 1, 3) := by decide +kernel
theorem d_Rr_init_4 : decode c_Rr_init 4 = .ok (.aload_n 0, 1) := by decide +kernel
theorem d_Rr_init_5 : decode c_Rr_init 5 = .ok (.iload_n 1, 1) := by decide +kernel
theorem d_Rr_init_6 : decode c_Rr_init 6 = .ok (.putfield 7, 3) := by decide +kernel
theorem d_Rr_init_9 : decode c_Rr_init 9 = .ok (.aload_n 0, 1) := by decide +kernel
theorem d_Rr_init_10 : decode c_Rr_init 10 = .ok (.iconst 0, 1) := by decide +kernel
theorem d_Rr_init_11 : decode c_Rr_init 11 = .ok (.putfield 13, 3) := by decide +kernel
theorem d_Rr_init_14 : decode c_Rr_init 14 = .ok (.aload_n 0, 1) := by decide +kernel
theorem d_Rr_init_15 : decode c_Rr_init 15 = .ok (.new 16, 3) := by decide +kernel
theorem d_Rr_init_18 : decode c_Rr_init 18 = .ok (.dup, 1) := by decide +kernel
theorem d_Rr_init_19 : decode c_Rr_init 19 = .ok (.invokespecial 18, 3) := by decide +kernel
theorem d_Rr_init_22 : decode c_Rr_init 22 = .ok (.putfield 19, 3) := by decide +kernel
theorem d_Rr_init_25 : decode c_Rr_init 25 = .ok (.return_, 1) := by decide +kernel
abbrev c_Ow_init : ByteArray := prog_5_method_1_code
abbrev y_Ow_init : MethodName := ⟨"ZoneAnswers$Owner", "<init>", "(LZoneAnswers$Name;)V"⟩
theorem d_Ow_init_0 : decode c_Ow_init 0 = .ok (.aload_n 0, 1) := by decide +kernel
theorem d_Ow_init_1 : decode c_Ow_init 1 = .ok (.invokespecial 3, 3) := by decide +kernel
theorem d_Ow_init_4 : decode c_Ow_init 4 = .ok (.aload_n 0, 1) := by decide +kernel
theorem d_Ow_init_5 : decode c_Ow_init 5 = .ok (.aload_n 1, 1) := by decide +kernel
theorem d_Ow_init_6 : decode c_Ow_init 6 = .ok (.putfield 9, 3) := by decide +kernel
theorem d_Ow_init_9 : decode c_Ow_init 9 = .ok (.aload_n 0, 1) := by decide +kernel
theorem d_Ow_init_10 : decode c_Ow_init 10 = .ok (.new 15, 3) := by decide +kernel
theorem d_Ow_init_13 : decode c_Ow_init 13 = .ok (.dup, 1) := by decide +kernel
theorem d_Ow_init_14 : decode c_Ow_init 14 = .ok (.invokespecial 17, 3) := by decide +kernel
theorem d_Ow_init_17 : decode c_Ow_init 17 = .ok (.putfield 18, 3) := by decide +kernel
theorem d_Ow_init_20 : decode c_Ow_init 20 = .ok (.aload_n 0, 1) := by decide +kernel
theorem d_Ow_init_21 : decode c_Ow_init 21 = .ok (.aconst_null, 1) := by decide +kernel
theorem d_Ow_init_22 : decode c_Ow_init 22 = .ok (.putfield 22, 3) := by decide +kernel
theorem d_Ow_init_25 : decode c_Ow_init 25 = .ok (.return_, 1) := by decide +kernel
abbrev c_Zo_init : ByteArray := prog_10_method_1_code
abbrev y_Zo_init : MethodName := ⟨"ZoneAnswers$Zone", "<init>", "()V"⟩
theorem d_Zo_init_0 : decode c_Zo_init 0 = .ok (.aload_n 0, 1) := by decide +kernel
theorem d_Zo_init_1 : decode c_Zo_init 1 = .ok (.invokespecial 3, 3) := by decide +kernel
theorem d_Zo_init_4 : decode c_Zo_init 4 = .ok (.aload_n 0, 1) := by decide +kernel
theorem d_Zo_init_5 : decode c_Zo_init 5 = .ok (.new 9, 3) := by decide +kernel
theorem d_Zo_init_8 : decode c_Zo_init 8 = .ok (.dup, 1) := by decide +kernel
theorem d_Zo_init_9 : decode c_Zo_init 9 = .ok (.invokespecial 11, 3) := by decide +kernel
theorem d_Zo_init_12 : decode c_Zo_init 12 = .ok (.putfield 12, 3) := by decide +kernel
theorem d_Zo_init_15 : decode c_Zo_init 15 = .ok (.return_, 1) := by decide +kernel
abbrev c_Rr_size : ByteArray := prog_6_method_2_code
abbrev y_Rr_size : MethodName := ⟨"ZoneAnswers$Rrset", "size", "()I"⟩
theorem d_Rr_size_0 : decode c_Rr_size 0 = .ok (.aload_n 0, 1) := by decide +kernel
theorem d_Rr_size_1 : decode c_Rr_size 1 = .ok (.getfield 19, 3) := by decide +kernel
theorem d_Rr_size_4 : decode c_Rr_size 4 = .ok (.invokevirtual 23, 3) := by decide +kernel
theorem d_Rr_size_7 : decode c_Rr_size 7 = .ok (.ireturn, 1) := by decide +kernel
abbrev c_Se_size : ByteArray := prog_7_method_3_code
abbrev y_Se_size : MethodName := ⟨"ZoneAnswers$Section", "size", "()I"⟩
theorem d_Se_size_0 : decode c_Se_size 0 = .ok (.aload_n 0, 1) := by decide +kernel
theorem d_Se_size_1 : decode c_Se_size 1 = .ok (.getfield 10, 3) := by decide +kernel
theorem d_Se_size_4 : decode c_Se_size 4 = .ok (.invokevirtual 19, 3) := by decide +kernel
theorem d_Se_size_7 : decode c_Se_size 7 = .ok (.ireturn, 1) := by decide +kernel
abbrev c_Zo_ownerCount : ByteArray := prog_10_method_28_code
abbrev y_Zo_ownerCount : MethodName := ⟨"ZoneAnswers$Zone", "ownerCount", "()I"⟩
theorem d_Zo_ownerCount_0 : decode c_Zo_ownerCount 0 = .ok (.aload_n 0, 1) := by decide +kernel
theorem d_Zo_ownerCount_1 : decode c_Zo_ownerCount 1 = .ok (.getfield 12, 3) := by decide +kernel
theorem d_Zo_ownerCount_4 : decode c_Zo_ownerCount 4 = .ok (.invokevirtual 75, 3) := by decide +kernel
theorem d_Zo_ownerCount_7 : decode c_Zo_ownerCount 7 = .ok (.ireturn, 1) := by decide +kernel
abbrev c_Zo_top : ByteArray := prog_10_method_3_code
abbrev y_Zo_top : MethodName := ⟨"ZoneAnswers$Zone", "top", "()LZoneAnswers$Name;"⟩
theorem d_Zo_top_0 : decode c_Zo_top 0 = .ok (.aload_n 0, 1) := by decide +kernel
theorem d_Zo_top_1 : decode c_Zo_top 1 = .ok (.getfield 25, 3) := by decide +kernel
theorem d_Zo_top_4 : decode c_Zo_top 4 = .ok (.areturn, 1) := by decide +kernel
abbrev c_Zo_start : ByteArray := prog_10_method_4_code
abbrev y_Zo_start : MethodName := ⟨"ZoneAnswers$Zone", "start", "()LZoneAnswers$Rrset;"⟩
theorem d_Zo_start_0 : decode c_Zo_start 0 = .ok (.aload_n 0, 1) := by decide +kernel
theorem d_Zo_start_1 : decode c_Zo_start 1 = .ok (.getfield 42, 3) := by decide +kernel
theorem d_Zo_start_4 : decode c_Zo_start 4 = .ok (.areturn, 1) := by decide +kernel
abbrev c_Zo_recordCount : ByteArray := prog_10_method_26_code
abbrev y_Zo_recordCount : MethodName := ⟨"ZoneAnswers$Zone", "recordCount", "()I"⟩
theorem d_Zo_recordCount_0 : decode c_Zo_recordCount 0 = .ok (.aload_n 0, 1) := by decide +kernel
theorem d_Zo_recordCount_1 : decode c_Zo_recordCount 1 = .ok (.getfield 21, 3) := by decide +kernel
theorem d_Zo_recordCount_4 : decode c_Zo_recordCount 4 = .ok (.ireturn, 1) := by decide +kernel
abbrev rm_ZA_lower : Room := { frames := 0, cells := 0, slots := 0, locals := 0 }
set_option maxHeartbeats 4000000 in
set_option maxRecDepth 100000 in
/-- lower(letter) -/
theorem t_ZA_lower (l : Launch) (E : zc_E) (G : zg_G) (x : Int32) (hx8 : fits .byte (.int x) = true) : zMi l E y_ZA_lower c_ZA_lower 1 (some .byte) rm_ZA_lower [.int x] G (fun (r : Int32) (G2 : zg_G) => r = zlow x ∧ G2 = G) := by
  refine zMi.of (by decide) (Nat.le_of_ble_eq_true rfl) ?_
  intro p e s m args below meth c Q hZ hG hret ls hl
  obtain ⟨hx, hb, hr, hts, hown, hlocks, hml, hnm, hbase, hK, hN, hQ⟩ := hZ
  have hl : lv_has ls 1 [(0, .int x)] := hl
  have hS : zg_S (zc_b E) s.heap s.heap [] := va_S.rf
  refine lv_iload_n hx hb d_ZA_lower_0 rfl (lv_at hl 0 rfl) ?_
  refine lv_bipush (v := 65) hx hb d_ZA_lower_1 (by decide) ?_
  refine lv_icmp_lt (tgt := 20) hx hb d_ZA_lower_3 (by decide) (fun c3 => ?_) (fun c3 => ?_)
  · have ez : zlow x = x := if_neg (fun q => absurd q.1 (Int32.not_le.mpr c3))
    refine lv_iload_n hx hb d_ZA_lower_20 rfl (lv_at hl 0 rfl) ?_
    exact hret _ _ _ _ _ _ _ _ _ hr (by rw [← ez]; exact narrow_of_fits (zlow_fit hx8)) (⟨ez.symm, rfl⟩) hG hS (Nat.le_refl _) (Nat.le_refl _) d_ZA_lower_21
  · refine lv_iload_n hx hb d_ZA_lower_6 rfl (lv_at hl 0 rfl) ?_
    refine lv_bipush (v := 90) hx hb d_ZA_lower_7 (by decide) ?_
    refine lv_icmp_gt (tgt := 20) hx hb d_ZA_lower_9 (by decide) (fun c9 => ?_) (fun c9 => ?_)
    · have ez : zlow x = x := if_neg (fun q => absurd q.2 (Int32.not_le.mpr c9))
      refine lv_iload_n hx hb d_ZA_lower_20 rfl (lv_at hl 0 rfl) ?_
      exact hret _ _ _ _ _ _ _ _ _ hr (by rw [← ez]; exact narrow_of_fits (zlow_fit hx8)) (⟨ez.symm, rfl⟩) hG hS (Nat.le_refl _) (Nat.le_refl _) d_ZA_lower_21
    · have ez : zlow x = (x + 32).toInt8.toInt32 := if_pos ⟨Int32.not_lt.mp c3, Int32.not_lt.mp c9⟩
      refine lv_iload_n hx hb d_ZA_lower_12 rfl (lv_at hl 0 rfl) ?_
      refine lv_bipush (v := 32) hx hb d_ZA_lower_13 (by decide) ?_
      refine lv_iadd hx hb d_ZA_lower_15 ?_
      refine lv_i2b hx hb d_ZA_lower_16 rfl ?_
      refine lv_goto (tgt := 21) hx hb d_ZA_lower_17 (by decide) ?_
      exact hret _ _ _ _ _ _ _ _ _ hr (by rw [← ez]; exact narrow_of_fits (zlow_fit hx8)) (⟨ez.symm, rfl⟩) hG hS (Nat.le_refl _) (Nat.le_refl _) d_ZA_lower_21
abbrev rm_Ta_lowerFrom : Room := { frames := 1, cells := 0, slots := 0, locals := 20 }
set_option maxHeartbeats 4000000 in
set_option maxRecDepth 100000 in
/-- Tape.lowerFrom(row, x) -/
theorem t_Ta_lowerFrom (l : Launch) (E : zc_E) (G : zg_G) (b0 n0 : Nat) (f0 : Nat → Int32) (h0 : G b0 = some (.inl (E.2.1 0, n0, .inl f0))) (hft : sb_Fit f0) (hn0 : n0 < 2 ^ 24) (x : Nat) (hx0 : x ≤ n0) : zMv l E y_Ta_lowerFrom c_Ta_lowerFrom 3 rm_Ta_lowerFrom [.ref b0, .int (nI x)] G (fun (G2 : zg_G) => ∃ f2, G2 = zg_up G b0 (.inl (E.2.1 0, n0, .inl f2)) ∧ sb_Fit f2 ∧ ∀ j, f2 j = if x ≤ j ∧ j < n0 then zlow (f0 j) else f0 j) := by
  refine zMv.of (by decide) (Nat.le_of_ble_eq_true rfl) ?_
  intro p e s m args below meth c Q hZ hG hret ls hl
  obtain ⟨hx, hb, hr, hts, hown, hlocks, hml, hnm, hbase, hK, hN, hQ⟩ := hZ
  have hl : lv_has ls 3 [(0, .ref b0), (1, .int (nI x))] := hl
  have hS : zg_S (zc_b E) s.heap s.heap [] := va_S.rf
  refine lv_iload_n hx hb d_Ta_lowerFrom_0 rfl (lv_at hl 1 rfl) ?_
  refine lv_istore_n (lv' := [(2, .int (nI x)), (0, .ref b0), (1, .int (nI x))]) hx hb d_Ta_lowerFrom_1 rfl hl (by decide) rfl (fun ls hl => ?_)
  have loop2 : ∀ (N : Nat) (i : Nat) (Gx : zg_G) (f2 : Nat → Int32) (H : Heap) (locs : List Loc), (n0 - i) < N → (i ≤ n0) → (x ≤ i) → (sb_Fit f2) → (∀ j, f2 j = if x ≤ j ∧ j < i then zlow (f0 j) else f0 j) → (Gx = zg_up G b0 (.inl (E.2.1 0, n0, .inl f2))) → (Gx b0 = some (.inl (E.2.1 0, n0, .inl f2))) → zP E Gx H → zg_S (zc_b E) s.heap H locs → ∀ (ls : Array Slot), lv_has ls 3 [(0, .ref b0), (1, .int (nI x)), (2, .int (nI i))] → W p l e rm_Ta_lowerFrom s m args below meth c H locs 0 0 Q (F0 m 2 ls []) := by
    intro N
    induction N with
    | zero =>
      intro i Gx f2 H locs hlt
      exact absurd hlt (Nat.not_lt_zero _)
    | succ N ih =>
      intro i Gx f2 H locs hlt hi hi2 hft2 hq eGx kb hG hS ls hl
      refine lv_iload_n hx hb d_Ta_lowerFrom_2 rfl (lv_at hl 2 rfl) ?_
      refine lv_aload_n hx hb d_Ta_lowerFrom_3 rfl (lv_at hl 0 rfl) ?_
      refine zg_alen hx hb hK hG 0 kb rfl (v := nI n0) rfl d_Ta_lowerFrom_4 ?_
      refine lv_icmp_ge (tgt := 23) hx hb d_Ta_lowerFrom_5 (by decide) (fun c5 => ?_) (fun c5 => ?_)
      · have b5 : n0 ≤ i := (nI_leI (a := n0) (b := i) (by omega) (by omega)).mp c5
        exact hret _ _ _ _ _ _ _ (⟨f2, eGx, hft2, fun j => by rw [hq j, show i = n0 by omega]⟩) hG hS (Nat.le_refl _) (Nat.le_refl _) d_Ta_lowerFrom_23
      · have b5 : ¬ n0 ≤ i := fun q => c5 ((nI_leI (a := n0) (b := i) (by omega) (by omega)).mpr q)
        refine lv_aload_n hx hb d_Ta_lowerFrom_8 rfl (lv_at hl 0 rfl) ?_
        refine lv_iload_n hx hb d_Ta_lowerFrom_9 rfl (lv_at hl 2 rfl) ?_
        refine lv_aload_n hx hb d_Ta_lowerFrom_10 rfl (lv_at hl 0 rfl) ?_
        refine lv_iload_n hx hb d_Ta_lowerFrom_11 rfl (lv_at hl 2 rfl) ?_
        refine zg_bald hx hb hK hG 0 kb rfl (vp_in_nI (by omega) (by omega)) d_Ta_lowerFrom_12 ?_
        refine zi_as (y := f2 i) (by rw [zi_n _ (by omega)]) ?_
        refine zk_i (va_runSN (As := [.int (f2 i)]) (rest := [.int (nI i), .ref b0]) ⟨hx, hb, hml, hown, hts⟩ (t_ZA_lower l E Gx (f2 i) (hft2 i)) ⟨va_cnB 1 hts (zw_good w_843) rfl rfl rfl (zN.at hN (w := .methodLinkNest "ZoneAnswers$Tape" 67 ⟨"ZoneAnswers", "lower", "(B)B"⟩ "ZoneAnswers") (by decide +kernel)) (hts _ w_1) (by decide +kernel) ⟨Nat.le_of_ble_eq_true rfl, Nat.le_of_ble_eq_true rfl⟩, hts _ w_842, trivial⟩ (zc_pre hbase hK hN hQ hG hS) rfl rfl hl.1 rfl (lv_room (Nat.le_of_ble_eq_true rfl)) d_Ta_lowerFrom_13 ⟨(by decide), (by decide)⟩) hS (fun r13 G13 H locs hp13 hG hS => ?_)
        have hG : zP E Gx H := hp13.2 ▸ hG
        refine zi_as (y := zlow (f2 i)) hp13.1 ?_
        refine zg_bast hx hb hK hG hS 0 kb rfl (vp_in_nI (by omega) (by omega)) d_Ta_lowerFrom_16 (fun H locs hG hS => ?_)
        rw [zi_n i (by omega)] at hG
        obtain ⟨G1, eG1⟩ : ∃ z : zg_G, z = zg_up Gx b0 (.inl (E.2.1 0, n0, .inl (upd f2 i (vp_nar .byte (zlow (f2 i)))))) := ⟨_, rfl⟩
        have hG : zP E G1 H := by rw [eG1]; exact hG
        have k2 : G1 b0 = some (.inl (E.2.1 0, n0, .inl (upd f2 i (vp_nar .byte (zlow (f2 i)))))) := by rw [eG1]; exact zg_up_self _ _ _
        refine lv_iinc (v := nI (i + 1)) (lv' := [(2, .int (nI (i + 1))), (0, .ref b0), (1, .int (nI x))]) hx hb d_Ta_lowerFrom_17 hl (k := 2) rfl (nI_add i 1) (by decide) rfl (fun ls hl => ?_)
        refine lv_goto (tgt := 2) hx hb d_Ta_lowerFrom_20 (by decide) ?_
        exact ih (i + 1) _ _ _ _ (by omega) (by omega) (by omega) (zf_fitu hft2) (zlow_up hq hi2 (hft i)) (by rw [eG1, eGx, zg_up_up]) (by rw [eG1]; exact zg_up_self _ _ _) hG hS ls (lv_sub hl [1, 2, 0] rfl)
  exact loop2 _ x G f0 _ _ (Nat.lt_succ_self _) (hx0) (Nat.le_refl _) (hft) (fun j => by rw [if_neg (by omega)]) ((zg_up_same h0).symm) (h0) hG hS ls (lv_sub hl [1, 2, 0] rfl)
abbrev rm_Rr_init : Room := { frames := 4, cells := 1, slots := 3, locals := 100 }
set_option maxHeartbeats 4000000 in
set_option maxRecDepth 100000 in
/-- new Rrset(type) -/
theorem t_Rr_init (l : Launch) (E : zc_E) (G : zg_G) (a : Nat) (t : Int32) (ha : G a = some (.inr (5, [.int 0, .int 0, .null]))) : zMv l E y_Rr_init c_Rr_init 2 rm_Rr_init [.ref a, .int t] G (fun (G2 : zg_G) => ∃ b, G b = none ∧ G2 = zg_up (zg_up G b (.inr (0, [.ref (E.2.2.2 0), .int 0, .int 0]))) a (.inr (5, [.int t, .int 0, .ref b]))) := by
  refine zMv.of (by decide) (Nat.le_of_ble_eq_true rfl) ?_
  intro p e s m args below meth c Q hZ hG hret ls hl
  obtain ⟨hx, hb, hr, hts, hown, hlocks, hml, hnm, hbase, hK, hN, hQ⟩ := hZ
  have hl : lv_has ls 2 [(0, .ref a), (1, .int t)] := hl
  have hS : zg_S (zc_b E) s.heap s.heap [] := va_S.rf
  have hx0 : zx (fun q => q = a) G G := zx.rf
  refine lv_aload_n hx hb d_Rr_init_0 rfl (lv_at hl 0 rfl) ?_
  refine W.objInit hx hb hown (hts _ w_613) (hts _ w_43) (hts _ w_44) rfl (by rw [hml]; exact hl.1) rfl d_Rr_init_1 (Nat.le_of_ble_eq_true rfl) (Nat.le_of_ble_eq_true rfl) ?_
  refine W.eq (g2 := F0 m 4 ls []) rfl ?_
  refine lv_aload_n hx hb d_Rr_init_4 rfl (lv_at hl 0 rfl) ?_
  refine lv_iload_n hx hb d_Rr_init_5 rfl (lv_at hl 1 rfl) ?_
  refine zg_putF (ci := 5) (v := .int t) (ty := .int) (C := "ZoneAnswers$Rrset") (T := T_Rr) (N := 3) hx hb hts zi_Rr t_Rr t_Rr_ok n_Rr hown hK hG hS ha rfl 0 (by decide) (hts _ w_616) (fun _ h9 => h9) rfl hnm rfl (by decide +kernel) rfl rfl (Nat.le_of_ble_eq_true rfl) d_Rr_init_6 (fun H locs hG hS => ?_)
  obtain ⟨G1, eG1⟩ : ∃ z : zg_G, z = zg_up G a (.inr (5, [.int t, .int 0, .null])) := ⟨_, rfl⟩
  have hG : zP E G1 H := by rw [eG1]; exact hG
  have hx2 : zx (fun q => q = a) G G1 := hx0.tr (by rw [eG1]; exact zx.up (rfl))
  have k3 : G1 a = some (.inr (5, [.int t, .int 0, .null])) := by rw [eG1]; exact zg_up_self _ _ _
  refine lv_aload_n hx hb d_Rr_init_9 rfl (lv_at hl 0 rfl) ?_
  refine lv_iconst (v := 0) hx hb d_Rr_init_10 (by decide) ?_
  refine zg_put (ci := 5) (v := .int 0) (ty := .int) (C := "ZoneAnswers$Rrset") (T := T_Rr) (N := 3) hx hb hts zi_Rr t_Rr t_Rr_ok n_Rr hown hK hG hS k3 rfl 1 (by decide) (hts _ w_621) (fun _ h9 => h9) rfl (by decide +kernel) rfl rfl (Nat.le_of_ble_eq_true rfl) d_Rr_init_11 (fun H locs hG hS => ?_)
  obtain ⟨G4, eG4⟩ : ∃ z : zg_G, z = zg_up G1 a (.inr (5, [.int t, .int 0, .null])) := ⟨_, rfl⟩
  have hG : zP E G4 H := by rw [eG4]; exact hG
  have hx5 : zx (fun q => q = a) G G4 := hx2.tr (by rw [eG4]; exact zx.up (rfl))
  have k6 : G4 a = some (.inr (5, [.int t, .int 0, .null])) := by rw [eG4]; exact zg_up_self _ _ _
  refine lv_aload_n hx hb d_Rr_init_14 rfl (lv_at hl 0 rfl) ?_
  refine zg_new (ci := 0) (fs := [.null, .int 0, .int 0]) (C := "java/util/ArrayList") (T := T_AL) (N := 3) hx hb hts zi_AL t_AL t_AL_ok hown (hts _ w_614) (hts _ w_66) (hts _ w_6) hK hG hS hbase rfl (fun j hj => by rcases (show j = 0 ∨ j = 1 ∨ j = 2 by omega) with rfl | rfl | rfl <;> rfl) (by decide) (by decide) d_Rr_init_15 (fun q15 H n15 hG hS => ?_)
  obtain ⟨G7, eG7⟩ : ∃ z : zg_G, z = zg_up G4 q15 (.inr (0, [.null, .int 0, .int 0])) := ⟨_, rfl⟩
  have hG : zP E G7 H := by rw [eG7]; exact hG
  have nf15 : G q15 = none := zx.fr hx5 n15 (fun h => by (rw [h] at n15; first | (rw [n15] at k6; cases k6)))
  have hx8 : zx (fun q => q = a) G G7 := hx5.tr (by rw [eG7]; exact zx.nw n15)
  have ne15_a : a ≠ q15 := zg_fr n15 k6
  have k9 : G7 a = some (.inr (5, [.int t, .int 0, .null])) := by rw [eG7, zg_up_ne (zg_fr n15 k6)]; exact k6
  have k10 : G7 q15 = some (.inr (0, [.null, .int 0, .int 0])) := by rw [eG7]; exact zg_up_self _ _ _
  refine lv_dup hx hb d_Rr_init_18 rfl ?_
  have hGo19 := hG
  refine zk_v (va_runI (As := []) (rest := [.ref q15, .ref a]) ⟨hx, hb, hml, hown, hts⟩ (t_AL_init l E G7 q15 k10) (zcI 0 hts w_615 w_68 w_6 w_69 rfl (by decide +kernel) ⟨Nat.le_of_ble_eq_true rfl, Nat.le_of_ble_eq_true rfl⟩) (zc_pre hbase hK hN hQ hG hS) rfl rfl hl.1 rfl (lv_room (Nat.le_of_ble_eq_true rfl)) d_Rr_init_19 ⟨(by decide), (by decide)⟩) hS (fun G19 H locs hp19 hG hS => ?_)
  have hx11 : zx (fun q => q = a) G G19 := by rw [hp19]; exact hx8.upn nf15
  have k12 : G19 a = some (.inr (5, [.int t, .int 0, .null])) := by rw [hp19, zg_up_ne (ne15_a)]; exact k9
  have k13 : G19 q15 = some (.inr (0, [.ref (E.2.2.2 0), .int 0, .int 0])) := by rw [hp19]; exact zg_up_self _ _ _
  refine zg_putF (ci := 5) (v := .ref q15) (ty := .object "java/util/ArrayList") (C := "ZoneAnswers$Rrset") (T := T_Rr) (N := 3) hx hb hts zi_Rr t_Rr t_Rr_ok n_Rr hown hK hG hS k12 rfl 2 (by decide) (hts _ w_625) (fun _ h9 => h9) rfl hnm rfl (by decide +kernel) rfl rfl (Nat.le_of_ble_eq_true rfl) d_Rr_init_22 (fun H locs hG hS => ?_)
  obtain ⟨G14, eG14⟩ : ∃ z : zg_G, z = zg_up G19 a (.inr (5, [.int t, .int 0, .ref q15])) := ⟨_, rfl⟩
  have hG : zP E G14 H := by rw [eG14]; exact hG
  have hx15 : zx (fun q => q = a) G G14 := hx11.tr (by rw [eG14]; exact zx.up (rfl))
  have k16 : G14 a = some (.inr (5, [.int t, .int 0, .ref q15])) := by rw [eG14]; exact zg_up_self _ _ _
  have k17 : G14 q15 = some (.inr (0, [.ref (E.2.2.2 0), .int 0, .int 0])) := by rw [eG14, zg_up_ne (Ne.symm ne15_a)]; exact k13
  exact hret _ _ _ _ _ _ _ (⟨q15, nf15, funext fun z => by subst_vars; unfold zg_up; by_cases h1 : z = a <;> by_cases h2 : z = q15 <;> simp_all⟩) hG hS (by decide) (by decide) d_Rr_init_25
abbrev rm_Ow_init : Room := { frames := 4, cells := 1, slots := 3, locals := 100 }
set_option maxHeartbeats 4000000 in
set_option maxRecDepth 100000 in
/-- new Owner(name) -/
theorem t_Ow_init (l : Launch) (E : zc_E) (G : zg_G) (a x : Nat) (ha : G a = some (.inr (4, [.null, .null, .null]))) : zMv l E y_Ow_init c_Ow_init 2 rm_Ow_init [.ref a, .ref x] G (fun (G2 : zg_G) => ∃ b, G b = none ∧ G2 = zg_up (zg_up G b (.inr (0, [.ref (E.2.2.2 0), .int 0, .int 0]))) a (.inr (4, [.ref x, .ref b, .null]))) := by
  refine zMv.of (by decide) (Nat.le_of_ble_eq_true rfl) ?_
  intro p e s m args below meth c Q hZ hG hret ls hl
  obtain ⟨hx, hb, hr, hts, hown, hlocks, hml, hnm, hbase, hK, hN, hQ⟩ := hZ
  have hl : lv_has ls 2 [(0, .ref a), (1, .ref x)] := hl
  have hS : zg_S (zc_b E) s.heap s.heap [] := va_S.rf
  have hx0 : zx (fun q => q = a) G G := zx.rf
  refine lv_aload_n hx hb d_Ow_init_0 rfl (lv_at hl 0 rfl) ?_
  refine W.objInit hx hb hown (hts _ w_201) (hts _ w_43) (hts _ w_44) rfl (by rw [hml]; exact hl.1) rfl d_Ow_init_1 (Nat.le_of_ble_eq_true rfl) (Nat.le_of_ble_eq_true rfl) ?_
  refine W.eq (g2 := F0 m 4 ls []) rfl ?_
  refine lv_aload_n hx hb d_Ow_init_4 rfl (lv_at hl 0 rfl) ?_
  refine lv_aload_n hx hb d_Ow_init_5 rfl (lv_at hl 1 rfl) ?_
  refine zg_putF (ci := 4) (v := .ref x) (ty := .object "ZoneAnswers$Name") (C := "ZoneAnswers$Owner") (T := T_Ow) (N := 3) hx hb hts zi_Ow t_Ow t_Ow_ok n_Ow hown hK hG hS ha rfl 0 (by decide) (hts _ w_204) (fun _ h9 => h9) rfl hnm rfl (by decide +kernel) rfl rfl (Nat.le_of_ble_eq_true rfl) d_Ow_init_6 (fun H locs hG hS => ?_)
  obtain ⟨G1, eG1⟩ : ∃ z : zg_G, z = zg_up G a (.inr (4, [.ref x, .null, .null])) := ⟨_, rfl⟩
  have hG : zP E G1 H := by rw [eG1]; exact hG
  have hx2 : zx (fun q => q = a) G G1 := hx0.tr (by rw [eG1]; exact zx.up (rfl))
  have k3 : G1 a = some (.inr (4, [.ref x, .null, .null])) := by rw [eG1]; exact zg_up_self _ _ _
  refine lv_aload_n hx hb d_Ow_init_9 rfl (lv_at hl 0 rfl) ?_
  refine zg_new (ci := 0) (fs := [.null, .int 0, .int 0]) (C := "java/util/ArrayList") (T := T_AL) (N := 3) hx hb hts zi_AL t_AL t_AL_ok hown (hts _ w_202) (hts _ w_66) (hts _ w_6) hK hG hS hbase rfl (fun j hj => by rcases (show j = 0 ∨ j = 1 ∨ j = 2 by omega) with rfl | rfl | rfl <;> rfl) (by decide) (by decide) d_Ow_init_10 (fun q10 H n10 hG hS => ?_)
  obtain ⟨G4, eG4⟩ : ∃ z : zg_G, z = zg_up G1 q10 (.inr (0, [.null, .int 0, .int 0])) := ⟨_, rfl⟩
  have hG : zP E G4 H := by rw [eG4]; exact hG
  have nf10 : G q10 = none := zx.fr hx2 n10 (fun h => by (rw [h] at n10; first | (rw [n10] at k3; cases k3)))
  have hx5 : zx (fun q => q = a) G G4 := hx2.tr (by rw [eG4]; exact zx.nw n10)
  have ne10_a : a ≠ q10 := zg_fr n10 k3
  have k6 : G4 a = some (.inr (4, [.ref x, .null, .null])) := by rw [eG4, zg_up_ne (zg_fr n10 k3)]; exact k3
  have k7 : G4 q10 = some (.inr (0, [.null, .int 0, .int 0])) := by rw [eG4]; exact zg_up_self _ _ _
  refine lv_dup hx hb d_Ow_init_13 rfl ?_
  have hGo14 := hG
  refine zk_v (va_runI (As := []) (rest := [.ref q10, .ref a]) ⟨hx, hb, hml, hown, hts⟩ (t_AL_init l E G4 q10 k7) (zcI 0 hts w_203 w_68 w_6 w_69 rfl (by decide +kernel) ⟨Nat.le_of_ble_eq_true rfl, Nat.le_of_ble_eq_true rfl⟩) (zc_pre hbase hK hN hQ hG hS) rfl rfl hl.1 rfl (lv_room (Nat.le_of_ble_eq_true rfl)) d_Ow_init_14 ⟨(by decide), (by decide)⟩) hS (fun G14 H locs hp14 hG hS => ?_)
  have hx8 : zx (fun q => q = a) G G14 := by rw [hp14]; exact hx5.upn nf10
  have k9 : G14 a = some (.inr (4, [.ref x, .null, .null])) := by rw [hp14, zg_up_ne (ne10_a)]; exact k6
  have k10 : G14 q10 = some (.inr (0, [.ref (E.2.2.2 0), .int 0, .int 0])) := by rw [hp14]; exact zg_up_self _ _ _
  refine zg_putF (ci := 4) (v := .ref q10) (ty := .object "java/util/ArrayList") (C := "ZoneAnswers$Owner") (T := T_Ow) (N := 3) hx hb hts zi_Ow t_Ow t_Ow_ok n_Ow hown hK hG hS k9 rfl 1 (by decide) (hts _ w_207) (fun _ h9 => h9) rfl hnm rfl (by decide +kernel) rfl rfl (Nat.le_of_ble_eq_true rfl) d_Ow_init_17 (fun H locs hG hS => ?_)
  obtain ⟨G11, eG11⟩ : ∃ z : zg_G, z = zg_up G14 a (.inr (4, [.ref x, .ref q10, .null])) := ⟨_, rfl⟩
  have hG : zP E G11 H := by rw [eG11]; exact hG
  have hx12 : zx (fun q => q = a) G G11 := hx8.tr (by rw [eG11]; exact zx.up (rfl))
  have k13 : G11 a = some (.inr (4, [.ref x, .ref q10, .null])) := by rw [eG11]; exact zg_up_self _ _ _
  have k14 : G11 q10 = some (.inr (0, [.ref (E.2.2.2 0), .int 0, .int 0])) := by rw [eG11, zg_up_ne (Ne.symm ne10_a)]; exact k10
  refine lv_aload_n hx hb d_Ow_init_20 rfl (lv_at hl 0 rfl) ?_
  refine lv_null hx hb d_Ow_init_21 ?_
  refine zg_put (ci := 4) (v := .null) (ty := .object "ZoneAnswers$Owner") (C := "ZoneAnswers$Owner") (T := T_Ow) (N := 3) hx hb hts zi_Ow t_Ow t_Ow_ok n_Ow hown hK hG hS k13 rfl 2 (by decide) (hts _ w_210) (fun _ h9 => h9) rfl (by decide +kernel) rfl rfl (Nat.le_of_ble_eq_true rfl) d_Ow_init_22 (fun H locs hG hS => ?_)
  obtain ⟨G15, eG15⟩ : ∃ z : zg_G, z = zg_up G11 a (.inr (4, [.ref x, .ref q10, .null])) := ⟨_, rfl⟩
  have hG : zP E G15 H := by rw [eG15]; exact hG
  have hx16 : zx (fun q => q = a) G G15 := hx12.tr (by rw [eG15]; exact zx.up (rfl))
  have k17 : G15 a = some (.inr (4, [.ref x, .ref q10, .null])) := by rw [eG15]; exact zg_up_self _ _ _
  have k18 : G15 q10 = some (.inr (0, [.ref (E.2.2.2 0), .int 0, .int 0])) := by rw [eG15, zg_up_ne (Ne.symm ne10_a)]; exact k14
  exact hret _ _ _ _ _ _ _ (⟨q10, nf10, funext fun z => by subst_vars; unfold zg_up; by_cases h1 : z = a <;> by_cases h2 : z = q10 <;> simp_all⟩) hG hS (by decide) (by decide) d_Ow_init_25
abbrev rm_Zo_init : Room := { frames := 4, cells := 1, slots := 3, locals := 100 }
set_option maxHeartbeats 4000000 in
set_option maxRecDepth 100000 in
/-- new Zone() -/
theorem t_Zo_init (l : Launch) (E : zc_E) (G : zg_G) (a : Nat) (ha : G a = some (.inr (9, [.null, .null, .null, .null, .int 0]))) : zMv l E y_Zo_init c_Zo_init 1 rm_Zo_init [.ref a] G (fun (G2 : zg_G) => ∃ b, G b = none ∧ G2 = zg_up (zg_up G b (.inr (0, [.ref (E.2.2.2 0), .int 0, .int 0]))) a (.inr (9, [.ref b, .null, .null, .null, .int 0]))) := by
  refine zMv.of (by decide) (Nat.le_of_ble_eq_true rfl) ?_
  intro p e s m args below meth c Q hZ hG hret ls hl
  obtain ⟨hx, hb, hr, hts, hown, hlocks, hml, hnm, hbase, hK, hN, hQ⟩ := hZ
  have hl : lv_has ls 1 [(0, .ref a)] := hl
  have hS : zg_S (zc_b E) s.heap s.heap [] := va_S.rf
  refine lv_aload_n hx hb d_Zo_init_0 rfl (lv_at hl 0 rfl) ?_
  refine W.objInit hx hb hown (hts _ w_64) (hts _ w_43) (hts _ w_44) rfl (by rw [hml]; exact hl.1) rfl d_Zo_init_1 (Nat.le_of_ble_eq_true rfl) (Nat.le_of_ble_eq_true rfl) ?_
  refine W.eq (g2 := F0 m 4 ls []) rfl ?_
  refine lv_aload_n hx hb d_Zo_init_4 rfl (lv_at hl 0 rfl) ?_
  refine zg_new (ci := 0) (fs := [.null, .int 0, .int 0]) (C := "java/util/ArrayList") (T := T_AL) (N := 3) hx hb hts zi_AL t_AL t_AL_ok hown (hts _ w_65) (hts _ w_66) (hts _ w_6) hK hG hS hbase rfl (fun j hj => by rcases (show j = 0 ∨ j = 1 ∨ j = 2 by omega) with rfl | rfl | rfl <;> rfl) (by decide) (by decide) d_Zo_init_5 (fun q5 H n5 hG hS => ?_)
  obtain ⟨G1, eG1⟩ : ∃ z : zg_G, z = zg_up G q5 (.inr (0, [.null, .int 0, .int 0])) := ⟨_, rfl⟩
  have hG : zP E G1 H := by rw [eG1]; exact hG
  have ne5_a : a ≠ q5 := zg_fr n5 ha
  have k2 : G1 a = some (.inr (9, [.null, .null, .null, .null, .int 0])) := by rw [eG1, zg_up_ne (zg_fr n5 ha)]; exact ha
  have k3 : G1 q5 = some (.inr (0, [.null, .int 0, .int 0])) := by rw [eG1]; exact zg_up_self _ _ _
  refine lv_dup hx hb d_Zo_init_8 rfl ?_
  have hGo9 := hG
  refine zk_v (va_runI (As := []) (rest := [.ref q5, .ref a]) ⟨hx, hb, hml, hown, hts⟩ (t_AL_init l E G1 q5 k3) (zcI 0 hts w_67 w_68 w_6 w_69 rfl (by decide +kernel) ⟨Nat.le_of_ble_eq_true rfl, Nat.le_of_ble_eq_true rfl⟩) (zc_pre hbase hK hN hQ hG hS) rfl rfl hl.1 rfl (lv_room (Nat.le_of_ble_eq_true rfl)) d_Zo_init_9 ⟨(by decide), (by decide)⟩) hS (fun G9 H locs hp9 hG hS => ?_)
  have k4 : G9 a = some (.inr (9, [.null, .null, .null, .null, .int 0])) := by rw [hp9, zg_up_ne (ne5_a)]; exact k2
  have k5 : G9 q5 = some (.inr (0, [.ref (E.2.2.2 0), .int 0, .int 0])) := by rw [hp9]; exact zg_up_self _ _ _
  refine zg_putF (ci := 9) (v := .ref q5) (ty := .object "java/util/ArrayList") (C := "ZoneAnswers$Zone") (T := T_Zo) (N := 5) hx hb hts zi_Zo t_Zo t_Zo_ok n_Zo hown hK hG hS k4 rfl 0 (by decide) (hts _ w_91) (fun _ h9 => h9) rfl hnm rfl (by decide +kernel) rfl rfl (Nat.le_of_ble_eq_true rfl) d_Zo_init_12 (fun H locs hG hS => ?_)
  obtain ⟨G6, eG6⟩ : ∃ z : zg_G, z = zg_up G9 a (.inr (9, [.ref q5, .null, .null, .null, .int 0])) := ⟨_, rfl⟩
  have hG : zP E G6 H := by rw [eG6]; exact hG
  have k7 : G6 a = some (.inr (9, [.ref q5, .null, .null, .null, .int 0])) := by rw [eG6]; exact zg_up_self _ _ _
  have k8 : G6 q5 = some (.inr (0, [.ref (E.2.2.2 0), .int 0, .int 0])) := by rw [eG6, zg_up_ne (Ne.symm ne5_a)]; exact k5
  exact hret _ _ _ _ _ _ _ (⟨q5, n5, by rw [eG6, hp9, eG1, zg_up_up]⟩) hG hS (by decide) (by decide) d_Zo_init_15
abbrev rm_Rr_size : Room := { frames := 1, cells := 0, slots := 0, locals := 24 }
set_option maxHeartbeats 4000000 in
set_option maxRecDepth 100000 in
/-- Rr_size -/
theorem t_Rr_size (l : Launch) (E : zc_E) (G : zg_G) (a : Nat) (t u : Int32) (la : Nat) (dv : Value) (n k : Int32) (hl0 : G la = some (.inr (0, [dv, .int n, .int k]))) (ha : G a = some (.inr (5, [.int t, .int u, .ref la]))) : zMi l E y_Rr_size c_Rr_size 1 (some .int) rm_Rr_size [.ref a] G (fun (r : Int32) (G2 : zg_G) => r = n ∧ G2 = G) := by
  refine zMi.of (by decide) (Nat.le_of_ble_eq_true rfl) ?_
  intro p e s m args below meth c Q hZ hG hret ls hl
  obtain ⟨hx, hb, hr, hts, hown, hlocks, hml, hnm, hbase, hK, hN, hQ⟩ := hZ
  have hl : lv_has ls 1 [(0, .ref a)] := hl
  have hS : zg_S (zc_b E) s.heap s.heap [] := va_S.rf
  refine lv_aload_n hx hb d_Rr_size_0 rfl (lv_at hl 0 rfl) ?_
  refine zg_get (ci := 5) (C := "ZoneAnswers$Rrset") (T := T_Rr) (N := 3) hx hb hts zi_Rr hown hK hG ha rfl 2 (by decide) (hts _ w_625) (fun _ h9 => h9) rfl d_Rr_size_1 ?_
  refine zk_i (va_runV (As := []) (rest := []) ⟨hx, hb, hml, hown, hts⟩ (t_AL_size l E G la dv n k hl0) (zcV 0 hts w_892 w_160 w_161 w_6 w_162 (by decide +kernel) ⟨Nat.le_of_ble_eq_true rfl, Nat.le_of_ble_eq_true rfl⟩) (zc_preV hbase hK hN hQ hG hS hl0 rfl) rfl rfl hl.1 rfl (lv_room (Nat.le_of_ble_eq_true rfl)) d_Rr_size_4 ⟨(by decide), (by decide)⟩) hS (fun r4 G4 H locs hp4 hG hS => ?_)
  have hG : zP E G H := hp4.2 ▸ hG
  refine zi_as (y := n) hp4.1 ?_
  exact hret _ _ _ _ _ _ _ _ _ hr (rfl) (⟨rfl, rfl⟩) hG hS (Nat.le_refl _) (Nat.le_refl _) d_Rr_size_7
abbrev rm_Se_size : Room := { frames := 1, cells := 0, slots := 0, locals := 24 }
set_option maxHeartbeats 4000000 in
set_option maxRecDepth 100000 in
/-- Se_size -/
theorem t_Se_size (l : Launch) (E : zc_E) (G : zg_G) (a : Nat) (la : Nat) (dv : Value) (n k : Int32) (hl0 : G la = some (.inr (0, [dv, .int n, .int k]))) (ha : G a = some (.inr (6, [.ref la]))) : zMi l E y_Se_size c_Se_size 1 (some .int) rm_Se_size [.ref a] G (fun (r : Int32) (G2 : zg_G) => r = n ∧ G2 = G) := by
  refine zMi.of (by decide) (Nat.le_of_ble_eq_true rfl) ?_
  intro p e s m args below meth c Q hZ hG hret ls hl
  obtain ⟨hx, hb, hr, hts, hown, hlocks, hml, hnm, hbase, hK, hN, hQ⟩ := hZ
  have hl : lv_has ls 1 [(0, .ref a)] := hl
  have hS : zg_S (zc_b E) s.heap s.heap [] := va_S.rf
  refine lv_aload_n hx hb d_Se_size_0 rfl (lv_at hl 0 rfl) ?_
  refine zg_get (ci := 6) (C := "ZoneAnswers$Section") (T := T_Se) (N := 1) hx hb hts zi_Se hown hK hG ha rfl 0 (by decide) (hts _ w_680) (fun _ h9 => h9) rfl d_Se_size_1 ?_
  refine zk_i (va_runV (As := []) (rest := []) ⟨hx, hb, hml, hown, hts⟩ (t_AL_size l E G la dv n k hl0) (zcV 0 hts w_1089 w_160 w_161 w_6 w_162 (by decide +kernel) ⟨Nat.le_of_ble_eq_true rfl, Nat.le_of_ble_eq_true rfl⟩) (zc_preV hbase hK hN hQ hG hS hl0 rfl) rfl rfl hl.1 rfl (lv_room (Nat.le_of_ble_eq_true rfl)) d_Se_size_4 ⟨(by decide), (by decide)⟩) hS (fun r4 G4 H locs hp4 hG hS => ?_)
  have hG : zP E G H := hp4.2 ▸ hG
  refine zi_as (y := n) hp4.1 ?_
  exact hret _ _ _ _ _ _ _ _ _ hr (rfl) (⟨rfl, rfl⟩) hG hS (Nat.le_refl _) (Nat.le_refl _) d_Se_size_7
abbrev rm_Zo_ownerCount : Room := { frames := 1, cells := 0, slots := 0, locals := 24 }
set_option maxHeartbeats 4000000 in
set_option maxRecDepth 100000 in
/-- Zo_ownerCount -/
theorem t_Zo_ownerCount (l : Launch) (E : zc_E) (G : zg_G) (a la tn st sd : Nat) (rc : Int32) (ha : G a = some (.inr (9, [.ref la, .ref tn, .ref st, .ref sd, .int rc]))) (dv : Value) (n k : Int32) (hl0 : G la = some (.inr (0, [dv, .int n, .int k]))) : zMi l E y_Zo_ownerCount c_Zo_ownerCount 1 (some .int) rm_Zo_ownerCount [.ref a] G (fun (r : Int32) (G2 : zg_G) => r = n ∧ G2 = G) := by
  refine zMi.of (by decide) (Nat.le_of_ble_eq_true rfl) ?_
  intro p e s m args below meth c Q hZ hG hret ls hl
  obtain ⟨hx, hb, hr, hts, hown, hlocks, hml, hnm, hbase, hK, hN, hQ⟩ := hZ
  have hl : lv_has ls 1 [(0, .ref a)] := hl
  have hS : zg_S (zc_b E) s.heap s.heap [] := va_S.rf
  refine lv_aload_n hx hb d_Zo_ownerCount_0 rfl (lv_at hl 0 rfl) ?_
  refine zg_get (ci := 9) (C := "ZoneAnswers$Zone") (T := T_Zo) (N := 5) hx hb hts zi_Zo hown hK hG ha rfl 0 (by decide) (hts _ w_91) (fun _ h9 => h9) rfl d_Zo_ownerCount_1 ?_
  refine zk_i (va_runV (As := []) (rest := []) ⟨hx, hb, hml, hown, hts⟩ (t_AL_size l E G la dv n k hl0) (zcV 0 hts w_159 w_160 w_161 w_6 w_162 (by decide +kernel) ⟨Nat.le_of_ble_eq_true rfl, Nat.le_of_ble_eq_true rfl⟩) (zc_preV hbase hK hN hQ hG hS hl0 rfl) rfl rfl hl.1 rfl (lv_room (Nat.le_of_ble_eq_true rfl)) d_Zo_ownerCount_4 ⟨(by decide), (by decide)⟩) hS (fun r4 G4 H locs hp4 hG hS => ?_)
  have hG : zP E G H := hp4.2 ▸ hG
  refine zi_as (y := n) hp4.1 ?_
  exact hret _ _ _ _ _ _ _ _ _ hr (rfl) (⟨rfl, rfl⟩) hG hS (Nat.le_refl _) (Nat.le_refl _) d_Zo_ownerCount_7
abbrev rm_Zo_top : Room := { frames := 0, cells := 0, slots := 0, locals := 0 }
set_option maxHeartbeats 4000000 in
set_option maxRecDepth 100000 in
/-- Zone.top() -/
theorem t_Zo_top (l : Launch) (E : zc_E) (G : zg_G) (a la tn st sd : Nat) (rc : Int32) (ha : G a = some (.inr (9, [.ref la, .ref tn, .ref st, .ref sd, .int rc]))) : zMq l E y_Zo_top c_Zo_top 1 (some (.object "ZoneAnswers$Name")) rm_Zo_top [.ref a] G (fun (r : Option Nat) (G2 : zg_G) => r = some tn ∧ G2 = G) := by
  refine zMq.of (by decide) (Nat.le_of_ble_eq_true rfl) ?_
  intro p e s m args below meth c Q hZ hG hret ls hl
  obtain ⟨hx, hb, hr, hts, hown, hlocks, hml, hnm, hbase, hK, hN, hQ⟩ := hZ
  have hl : lv_has ls 1 [(0, .ref a)] := hl
  have hS : zg_S (zc_b E) s.heap s.heap [] := va_S.rf
  refine lv_aload_n hx hb d_Zo_top_0 rfl (lv_at hl 0 rfl) ?_
  refine zg_get (ci := 9) (C := "ZoneAnswers$Zone") (T := T_Zo) (N := 5) hx hb hts zi_Zo hown hK hG ha rfl 1 (by decide) (hts _ w_92) (fun _ h9 => h9) rfl d_Zo_top_1 ?_
  exact hret (some tn) _ _ _ _ _ _ _ _ hr (Or.inl ⟨_, rfl⟩) (⟨rfl, rfl⟩) hG hS (Nat.le_refl _) (Nat.le_refl _) d_Zo_top_4
abbrev rm_Zo_start : Room := { frames := 0, cells := 0, slots := 0, locals := 0 }
set_option maxHeartbeats 4000000 in
set_option maxRecDepth 100000 in
/-- Zone.start() -/
theorem t_Zo_start (l : Launch) (E : zc_E) (G : zg_G) (a la tn st sd : Nat) (rc : Int32) (ha : G a = some (.inr (9, [.ref la, .ref tn, .ref st, .ref sd, .int rc]))) : zMq l E y_Zo_start c_Zo_start 1 (some (.object "ZoneAnswers$Rrset")) rm_Zo_start [.ref a] G (fun (r : Option Nat) (G2 : zg_G) => r = some st ∧ G2 = G) := by
  refine zMq.of (by decide) (Nat.le_of_ble_eq_true rfl) ?_
  intro p e s m args below meth c Q hZ hG hret ls hl
  obtain ⟨hx, hb, hr, hts, hown, hlocks, hml, hnm, hbase, hK, hN, hQ⟩ := hZ
  have hl : lv_has ls 1 [(0, .ref a)] := hl
  have hS : zg_S (zc_b E) s.heap s.heap [] := va_S.rf
  refine lv_aload_n hx hb d_Zo_start_0 rfl (lv_at hl 0 rfl) ?_
  refine zg_get (ci := 9) (C := "ZoneAnswers$Zone") (T := T_Zo) (N := 5) hx hb hts zi_Zo hown hK hG ha rfl 2 (by decide) (hts _ w_93) (fun _ h9 => h9) rfl d_Zo_start_1 ?_
  exact hret (some st) _ _ _ _ _ _ _ _ hr (Or.inl ⟨_, rfl⟩) (⟨rfl, rfl⟩) hG hS (Nat.le_refl _) (Nat.le_refl _) d_Zo_start_4
abbrev rm_Zo_recordCount : Room := { frames := 0, cells := 0, slots := 0, locals := 0 }
set_option maxHeartbeats 4000000 in
set_option maxRecDepth 100000 in
/-- Zone.recordCount() -/
theorem t_Zo_recordCount (l : Launch) (E : zc_E) (G : zg_G) (a la tn st sd : Nat) (rc : Int32) (ha : G a = some (.inr (9, [.ref la, .ref tn, .ref st, .ref sd, .int rc]))) : zMi l E y_Zo_recordCount c_Zo_recordCount 1 (some .int) rm_Zo_recordCount [.ref a] G (fun (r : Int32) (G2 : zg_G) => r = rc ∧ G2 = G) := by
  refine zMi.of (by decide) (Nat.le_of_ble_eq_true rfl) ?_
  intro p e s m args below meth c Q hZ hG hret ls hl
  obtain ⟨hx, hb, hr, hts, hown, hlocks, hml, hnm, hbase, hK, hN, hQ⟩ := hZ
  have hl : lv_has ls 1 [(0, .ref a)] := hl
  have hS : zg_S (zc_b E) s.heap s.heap [] := va_S.rf
  refine lv_aload_n hx hb d_Zo_recordCount_0 rfl (lv_at hl 0 rfl) ?_
  refine zg_get (ci := 9) (C := "ZoneAnswers$Zone") (T := T_Zo) (N := 5) hx hb hts zi_Zo hown hK hG ha rfl 4 (by decide) (hts _ w_95) (fun _ h9 => h9) rfl d_Zo_recordCount_1 ?_
  exact hret _ _ _ _ _ _ _ _ _ hr (rfl) (⟨rfl, rfl⟩) hG hS (Nat.le_refl _) (Nat.le_refl _) d_Zo_recordCount_4
