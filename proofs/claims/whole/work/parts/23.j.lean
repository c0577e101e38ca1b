theorem zf_fit {f : Nat → Int32} {cA : ClassId} {n : Nat} (h : sb_Fit f) : ∀ (i : Nat) (v : Value), (vp_cell cA (n, .inl f)).slots[i]? = some v → fits .byte v = true := by
  intro i v hv
  rw [vp_cell_i] at hv
  have hi : i < (arrV cA n (fun j => .int (f j))).slots.size := (Array.getElem?_eq_some_iff.mp hv).1
  rw [arrV_size] at hi
  rw [arrV_read cA (fun j => .int (f j)) hi] at hv
  cases hv
  exact h i
theorem zf_fit0 : sb_Fit (fun _ => 0) := fun _ => rfl
theorem zf_fitu {f : Nat → Int32} {i : Nat} {x : Int32} (h : sb_Fit f) : sb_Fit (upd f i (vp_nar .byte x)) := by
  intro j
  unfold upd
  by_cases hj : j = i
  · rw [if_pos hj]; exact pk_fb x
  · rw [if_neg hj]; exact h j
theorem zf_cp {f : Nat → Int32} {n a : Nat} (j : Nat) (hj : j < n) : va_cpy f (fun _ => 0) a 0 n j = f (a + j) := by
  unfold va_cpy
  rw [if_pos ⟨Nat.zero_le _, by omega⟩]
  simp
theorem zf_cpo {f : Nat → Int32} {n a : Nat} (j : Nat) (hj : ¬ j < n) : va_cpy f (fun _ => 0) a 0 n j = 0 := by
  unfold va_cpy
  rw [if_neg (by omega)]
def zw4 (f : Nat → Int32) (k : Nat) (x : Int32) : Nat → Int32 := upd (upd (upd (upd f k (vp_nar .byte (x >>> (24 &&& 31)).toInt8.toInt32)) (k + 1) (vp_nar .byte (x >>> (16 &&& 31)).toInt8.toInt32)) (k + 2) (vp_nar .byte (x >>> (8 &&& 31)).toInt8.toInt32)) (k + 3) (vp_nar .byte x.toInt8.toInt32)
theorem w_340 : (.methodLink "java/util/Arrays" 310 ⟨"[B", "clone", "()Ljava/lang/Object;"⟩ : Cond) ∈ zw := zw_at 340 (by decide +kernel) (by decide +kernel)
theorem w_341 : (.sameMethod "[B" "java/lang/Object" "clone" "()Ljava/lang/Object;" : Cond) ∈ zw := zw_at 341 (by decide +kernel) (by decide +kernel)
theorem w_342 : (.native ⟨"java/lang/Object", "clone", "()Ljava/lang/Object;"⟩ : Cond) ∈ zw := zw_at 342 (by decide +kernel) (by decide +kernel)
theorem w_343 : (.instanceMethod ⟨"java/lang/Object", "clone", "()Ljava/lang/Object;"⟩ : Cond) ∈ zw := zw_at 343 (by decide +kernel) (by decide +kernel)
theorem w_344 : (.selects "[B" ⟨"[B", "clone", "()Ljava/lang/Object;"⟩ ⟨"java/lang/Object", "clone", "()Ljava/lang/Object;"⟩ : Cond) ∈ zw := zw_at 344 (by decide +kernel) (by decide +kernel)
theorem w_346 : (.classLink "java/util/Arrays" 311 "[B" : Cond) ∈ zw := zw_at 346 (by decide +kernel) (by decide +kernel)
theorem w_481 : (.methodLink "java/util/Arrays" 339 ⟨"java/util/Arrays", "copyOfRangeByte", "([BII)[B"⟩ : Cond) ∈ zw := zw_at 481 (by decide +kernel) (by decide +kernel)
theorem w_482 : (.static ⟨"java/util/Arrays", "copyOfRangeByte", "([BII)[B"⟩ : Cond) ∈ zw := zw_at 482 (by decide +kernel) (by decide +kernel)
theorem w_483 : (.code ⟨"java/util/Arrays", "copyOfRangeByte", "([BII)[B"⟩ prog_36_method_133_code 5 (some (.array .byte)) : Cond) ∈ zw := zw_at 483 (by decide +kernel) (by decide +kernel)
theorem w_484 : (.methodLink "java/util/Arrays" 343 ⟨"java/util/Arrays", "checkLength", "(II)V"⟩ : Cond) ∈ zw := zw_at 484 (by decide +kernel) (by decide +kernel)
theorem w_485 : (.static ⟨"java/util/Arrays", "checkLength", "(II)V"⟩ : Cond) ∈ zw := zw_at 485 (by decide +kernel) (by decide +kernel)
theorem w_486 : (.code ⟨"java/util/Arrays", "checkLength", "(II)V"⟩ prog_36_method_131_code 2 none : Cond) ∈ zw := zw_at 486 (by decide +kernel) (by decide +kernel)
abbrev c_Ar_copyOf : ByteArray := prog_36_method_121_code
abbrev y_Ar_copyOf : MethodName := ⟨"java/util/Arrays", "copyOf", "([BI)[B"⟩
theorem d_Ar_copyOf_0 : decode c_Ar_copyOf 0 = .ok (.iload_n 1, 1) := by decide +kernel
theorem d_Ar_copyOf_1 : decode c_Ar_copyOf 1 = .ok (.aload_n 0, 1) := by decide +kernel
theorem d_Ar_copyOf_2 : decode c_Ar_copyOf 2 = .ok (.arraylength, 1) := by decide +kernel
theorem d_Ar_copyOf_3 : decode c_Ar_copyOf 3 = .ok (.if_icmp .ne 11, 3) := by decide +kernel
theorem d_Ar_copyOf_6 : decode c_Ar_copyOf 6 = .ok (.aload_n 0, 1) := by decide +kernel
theorem d_Ar_copyOf_7 : decode c_Ar_copyOf 7 = .ok (.invokevirtual 310, 3) := by decide +kernel
theorem d_Ar_copyOf_10 : decode c_Ar_copyOf 10 = .ok (.checkcast 311, 3) := by decide +kernel
theorem d_Ar_copyOf_13 : decode c_Ar_copyOf 13 = .ok (.areturn, 1) := by decide +kernel
theorem d_Ar_copyOf_14 : decode c_Ar_copyOf 14 = .ok (.iload_n 1, 1) := by decide +kernel
theorem d_Ar_copyOf_15 : decode c_Ar_copyOf 15 = .ok (.newarray .byte, 2) := by decide +kernel
theorem d_Ar_copyOf_17 : decode c_Ar_copyOf 17 = .ok (.astore_n 2, 1) := by decide +kernel
theorem d_Ar_copyOf_18 : decode c_Ar_copyOf 18 = .ok (.aload_n 0, 1) := by decide +kernel
theorem d_Ar_copyOf_19 : decode c_Ar_copyOf 19 = .ok (.iconst 0, 1) := by decide +kernel
theorem d_Ar_copyOf_20 : decode c_Ar_copyOf 20 = .ok (.aload_n 2, 1) := by decide +kernel
theorem d_Ar_copyOf_21 : decode c_Ar_copyOf 21 = .ok (.iconst 0, 1) := by decide +kernel
theorem d_Ar_copyOf_22 : decode c_Ar_copyOf 22 = .ok (.aload_n 0, 1) := by decide +kernel
theorem d_Ar_copyOf_23 : decode c_Ar_copyOf 23 = .ok (.arraylength, 1) := by decide +kernel
theorem d_Ar_copyOf_24 : decode c_Ar_copyOf 24 = .ok (.iload_n 1, 1) := by decide +kernel
theorem d_Ar_copyOf_25 : decode c_Ar_copyOf 25 = .ok (.invokestatic 304, 3) := by decide +kernel
theorem d_Ar_copyOf_28 : decode c_Ar_copyOf 28 = .ok (.invokestatic 150, 3) := by decide +kernel
theorem d_Ar_copyOf_31 : decode c_Ar_copyOf 31 = .ok (.aload_n 2, 1) := by decide +kernel
theorem d_Ar_copyOf_32 : decode c_Ar_copyOf 32 = .ok (.areturn, 1) := by decide +kernel
abbrev c_Ar_checkLength : ByteArray := prog_36_method_131_code
abbrev y_Ar_checkLength : MethodName := ⟨"java/util/Arrays", "checkLength", "(II)V"⟩
theorem d_Ar_checkLength_0 : decode c_Ar_checkLength 0 = .ok (.iload_n 1, 1) := by decide +kernel
theorem d_Ar_checkLength_1 : decode c_Ar_checkLength 1 = .ok (.iload_n 0, 1) := by decide +kernel
theorem d_Ar_checkLength_2 : decode c_Ar_checkLength 2 = .ok (.if_icmp .ge 35, 3) := by decide +kernel
theorem d_Ar_checkLength_5 : decode c_Ar_checkLength 5 = .ok (.new 43, 3) := by decide +kernel
theorem d_Ar_checkLength_8 : decode c_Ar_checkLength 8 = .ok (.dup, 1) := by decide +kernel
theorem d_Ar_checkLength_9 : decode c_Ar_checkLength 9 = .ok (.new 45, 3) := by decide +kernel
theorem d_Ar_checkLength_12 : decode c_Ar_checkLength 12 = .ok (.dup, 1) := by decide +kernel
theorem d_Ar_checkLength_13 : decode c_Ar_checkLength 13 = .ok (.invokespecial 47, 3) := by decide +kernel
theorem d_Ar_checkLength_16 : decode c_Ar_checkLength 16 = .ok (.iload_n 0, 1) := by decide +kernel
theorem d_Ar_checkLength_17 : decode c_Ar_checkLength 17 = .ok (.invokevirtual 54, 3) := by decide +kernel
theorem d_Ar_checkLength_20 : decode c_Ar_checkLength 20 = .ok (.ldc_w 337, 3) := by decide +kernel
theorem d_Ar_checkLength_23 : decode c_Ar_checkLength 23 = .ok (.invokevirtual 50, 3) := by decide +kernel
theorem d_Ar_checkLength_26 : decode c_Ar_checkLength 26 = .ok (.iload_n 1, 1) := by decide +kernel
theorem d_Ar_checkLength_27 : decode c_Ar_checkLength 27 = .ok (.invokevirtual 54, 3) := by decide +kernel
theorem d_Ar_checkLength_30 : decode c_Ar_checkLength 30 = .ok (.invokevirtual 61, 3) := by decide +kernel
theorem d_Ar_checkLength_33 : decode c_Ar_checkLength 33 = .ok (.invokespecial 65, 3) := by decide +kernel
theorem d_Ar_checkLength_36 : decode c_Ar_checkLength 36 = .ok (.athrow, 1) := by decide +kernel
theorem d_Ar_checkLength_37 : decode c_Ar_checkLength 37 = .ok (.return_, 1) := by decide +kernel
abbrev c_Ar_copyOfRangeByte : ByteArray := prog_36_method_133_code
abbrev y_Ar_copyOfRangeByte : MethodName := ⟨"java/util/Arrays", "copyOfRangeByte", "([BII)[B"⟩
theorem d_Ar_copyOfRangeByte_0 : decode c_Ar_copyOfRangeByte 0 = .ok (.iload_n 1, 1) := by decide +kernel
theorem d_Ar_copyOfRangeByte_1 : decode c_Ar_copyOfRangeByte 1 = .ok (.iload_n 2, 1) := by decide +kernel
theorem d_Ar_copyOfRangeByte_2 : decode c_Ar_copyOfRangeByte 2 = .ok (.invokestatic 343, 3) := by decide +kernel
theorem d_Ar_copyOfRangeByte_5 : decode c_Ar_copyOfRangeByte 5 = .ok (.iload_n 2, 1) := by decide +kernel
theorem d_Ar_copyOfRangeByte_6 : decode c_Ar_copyOfRangeByte 6 = .ok (.iload_n 1, 1) := by decide +kernel
theorem d_Ar_copyOfRangeByte_7 : decode c_Ar_copyOfRangeByte 7 = .ok (.isub, 1) := by decide +kernel
theorem d_Ar_copyOfRangeByte_8 : decode c_Ar_copyOfRangeByte 8 = .ok (.istore_n 3, 1) := by decide +kernel
theorem d_Ar_copyOfRangeByte_9 : decode c_Ar_copyOfRangeByte 9 = .ok (.iload_n 3, 1) := by decide +kernel
theorem d_Ar_copyOfRangeByte_10 : decode c_Ar_copyOfRangeByte 10 = .ok (.newarray .byte, 2) := by decide +kernel
theorem d_Ar_copyOfRangeByte_12 : decode c_Ar_copyOfRangeByte 12 = .ok (.astore 4, 2) := by decide +kernel
theorem d_Ar_copyOfRangeByte_14 : decode c_Ar_copyOfRangeByte 14 = .ok (.aload_n 0, 1) := by decide +kernel
theorem d_Ar_copyOfRangeByte_15 : decode c_Ar_copyOfRangeByte 15 = .ok (.iload_n 1, 1) := by decide +kernel
theorem d_Ar_copyOfRangeByte_16 : decode c_Ar_copyOfRangeByte 16 = .ok (.aload 4, 2) := by decide +kernel
theorem d_Ar_copyOfRangeByte_18 : decode c_Ar_copyOfRangeByte 18 = .ok (.iconst 0, 1) := by decide +kernel
theorem d_Ar_copyOfRangeByte_19 : decode c_Ar_copyOfRangeByte 19 = .ok (.aload_n 0, 1) := by decide +kernel
theorem d_Ar_copyOfRangeByte_20 : decode c_Ar_copyOfRangeByte 20 = .ok (.arraylength, 1) := by decide +kernel
theorem d_Ar_copyOfRangeByte_21 : decode c_Ar_copyOfRangeByte 21 = .ok (.iload_n 1, 1) := by decide +kernel
theorem d_Ar_copyOfRangeByte_22 : decode c_Ar_copyOfRangeByte 22 = .ok (.isub, 1) := by decide +kernel
theorem d_Ar_copyOfRangeByte_23 : decode c_Ar_copyOfRangeByte 23 = .ok (.iload_n 3, 1) := by decide +kernel
theorem d_Ar_copyOfRangeByte_24 : decode c_Ar_copyOfRangeByte 24 = .ok (.invokestatic 304, 3) := by decide +kernel
theorem d_Ar_copyOfRangeByte_27 : decode c_Ar_copyOfRangeByte 27 = .ok (.invokestatic 150, 3) := by decide +kernel
theorem d_Ar_copyOfRangeByte_30 : decode c_Ar_copyOfRangeByte 30 = .ok (.aload 4, 2) := by decide +kernel
theorem d_Ar_copyOfRangeByte_32 : decode c_Ar_copyOfRangeByte 32 = .ok (.areturn, 1) := by decide +kernel
abbrev c_Ar_copyOfRange : ByteArray := prog_36_method_132_code
abbrev y_Ar_copyOfRange : MethodName := ⟨"java/util/Arrays", "copyOfRange", "([BII)[B"⟩
theorem d_Ar_copyOfRange_0 : decode c_Ar_copyOfRange 0 = .ok (.iload_n 1, 1) := by decide +kernel
theorem d_Ar_copyOfRange_1 : decode c_Ar_copyOfRange 1 = .ok (.ifCond .ne 9, 3) := by decide +kernel
theorem d_Ar_copyOfRange_4 : decode c_Ar_copyOfRange 4 = .ok (.iload_n 2, 1) := by decide +kernel
theorem d_Ar_copyOfRange_5 : decode c_Ar_copyOfRange 5 = .ok (.aload_n 0, 1) := by decide +kernel
theorem d_Ar_copyOfRange_6 : decode c_Ar_copyOfRange 6 = .ok (.arraylength, 1) := by decide +kernel
theorem d_Ar_copyOfRange_7 : decode c_Ar_copyOfRange 7 = .ok (.if_icmp .eq 10, 3) := by decide +kernel
theorem d_Ar_copyOfRange_10 : decode c_Ar_copyOfRange 10 = .ok (.aload_n 0, 1) := by decide +kernel
theorem d_Ar_copyOfRange_11 : decode c_Ar_copyOfRange 11 = .ok (.iload_n 1, 1) := by decide +kernel
theorem d_Ar_copyOfRange_12 : decode c_Ar_copyOfRange 12 = .ok (.iload_n 2, 1) := by decide +kernel
theorem d_Ar_copyOfRange_13 : decode c_Ar_copyOfRange 13 = .ok (.invokestatic 339, 3) := by decide +kernel
theorem d_Ar_copyOfRange_16 : decode c_Ar_copyOfRange 16 = .ok (.areturn, 1) := by decide +kernel
theorem d_Ar_copyOfRange_17 : decode c_Ar_copyOfRange 17 = .ok (.aload_n 0, 1) := by decide +kernel
theorem d_Ar_copyOfRange_18 : decode c_Ar_copyOfRange 18 = .ok (.invokevirtual 310, 3) := by decide +kernel
theorem d_Ar_copyOfRange_21 : decode c_Ar_copyOfRange 21 = .ok (.checkcast 311, 3) := by decide +kernel
theorem d_Ar_copyOfRange_24 : decode c_Ar_copyOfRange 24 = .ok (.areturn, 1) := by decide +kernel
abbrev c_ZA_writeNumber : ByteArray := prog_1_method_21_code
abbrev y_ZA_writeNumber : MethodName := ⟨"ZoneAnswers", "writeNumber", "([BII)V"⟩
theorem d_ZA_writeNumber_0 : decode c_ZA_writeNumber 0 = .ok (.aload_n 0, 1) := by decide +kernel
theorem d_ZA_writeNumber_1 : decode c_ZA_writeNumber 1 = .ok (.iload_n 1, 1) := by decide +kernel
theorem d_ZA_writeNumber_2 : decode c_ZA_writeNumber 2 = .ok (.iload_n 2, 1) := by decide +kernel
theorem d_ZA_writeNumber_3 : decode c_ZA_writeNumber 3 = .ok (.bipush 24, 2) := by decide +kernel
theorem d_ZA_writeNumber_5 : decode c_ZA_writeNumber 5 = .ok (.ishr, 1) := by decide +kernel
theorem d_ZA_writeNumber_6 : decode c_ZA_writeNumber 6 = .ok (.i2b, 1) := by decide +kernel
theorem d_ZA_writeNumber_7 : decode c_ZA_writeNumber 7 = .ok (.bastore, 1) := by decide +kernel
theorem d_ZA_writeNumber_8 : decode c_ZA_writeNumber 8 = .ok (.aload_n 0, 1) := by decide +kernel
theorem d_ZA_writeNumber_9 : decode c_ZA_writeNumber 9 = .ok (.iload_n 1, 1) := by decide +kernel
theorem d_ZA_writeNumber_10 : decode c_ZA_writeNumber 10 = .ok (.iconst 1, 1) := by decide +kernel
theorem d_ZA_writeNumber_11 : decode c_ZA_writeNumber 11 = .ok (.iadd, 1) := by decide +kernel
theorem d_ZA_writeNumber_12 : decode c_ZA_writeNumber 12 = .ok (.iload_n 2, 1) := by decide +kernel
theorem d_ZA_writeNumber_13 : decode c_ZA_writeNumber 13 = .ok (.bipush 16, 2) := by decide +kernel
theorem d_ZA_writeNumber_15 : decode c_ZA_writeNumber 15 = .ok (.ishr, 1) := by decide +kernel
theorem d_ZA_writeNumber_16 : decode c_ZA_writeNumber 16 = .ok (.i2b, 1) := by decide +kernel
theorem d_ZA_writeNumber_17 : decode c_ZA_writeNumber 17 = .ok (.bastore, 1) := by decide +kernel
theorem d_ZA_writeNumber_18 : decode c_ZA_writeNumber 18 = .ok (.aload_n 0, 1) := by decide +kernel
theorem d_ZA_writeNumber_19 : decode c_ZA_writeNumber 19 = .ok (.iload_n 1, 1) := by decide +kernel
theorem d_ZA_writeNumber_20 : decode c_ZA_writeNumber 20 = .ok (.iconst 2, 1) := by decide +kernel
theorem d_ZA_writeNumber_21 : decode c_ZA_writeNumber 21 = .ok (.iadd, 1) := by decide +kernel
theorem d_ZA_writeNumber_22 : decode c_ZA_writeNumber 22 = .ok (.iload_n 2, 1) := by decide +kernel
theorem d_ZA_writeNumber_23 : decode c_ZA_writeNumber 23 = .ok (.bipush 8, 2) := by decide +kernel
theorem d_ZA_writeNumber_25 : decode c_ZA_writeNumber 25 = .ok (.ishr, 1) := by decide +kernel
theorem d_ZA_writeNumber_26 : decode c_ZA_writeNumber 26 = .ok (.i2b, 1) := by decide +kernel
theorem d_ZA_writeNumber_27 : decode c_ZA_writeNumber 27 = .ok (.bastore, 1) := by decide +kernel
theorem d_ZA_writeNumber_28 : decode c_ZA_writeNumber 28 = .ok (.aload_n 0, 1) := by decide +kernel
theorem d_ZA_writeNumber_29 : decode c_ZA_writeNumber 29 = .ok (.iload_n 1, 1) := by decide +kernel
theorem d_ZA_writeNumber_30 : decode c_ZA_writeNumber 30 = .ok (.iconst 3, 1) := by decide +kernel
theorem d_ZA_writeNumber_31 : decode c_ZA_writeNumber 31 = .ok (.iadd, 1) := by decide +kernel
theorem d_ZA_writeNumber_32 : decode c_ZA_writeNumber 32 = .ok (.iload_n 2, 1) := by decide +kernel
theorem d_ZA_writeNumber_33 : decode c_ZA_writeNumber 33 = .ok (.i2b, 1) := by decide +kernel
theorem d_ZA_writeNumber_34 : decode c_ZA_writeNumber 34 = .ok (.bastore, 1) := by decide +kernel
theorem d_ZA_writeNumber_35 : decode c_ZA_writeNumber 35 = .ok (.return_, 1) := by decide +kernel
abbrev rm_Ar_copyOf (m1 : Nat) : Room := { frames := 1, cells := 1, slots := m1, locals := 40 }
set_option maxHeartbeats 4000000 in
set_option maxRecDepth 100000 in
/-- Arrays.copyOf(byte[], int), longer -/
theorem t_Ar_copyOf (l : Launch) (E : zc_E) (G : zg_G) (b0 n0 : Nat) (f0 : Nat → Int32) (h0 : G b0 = some (.inl (E.2.1 0, n0, .inl f0))) (hft : sb_Fit f0) (hn0 : n0 < 2 ^ 24) (m1 : Nat) (hm : n0 < m1) (hm2 : m1 < 2 ^ 26) : zMq l E y_Ar_copyOf c_Ar_copyOf 3 (some (.array .byte)) (rm_Ar_copyOf m1) [.ref b0, .int (nI m1)] G (fun (r : Option Nat) (G2 : zg_G) => ∃ q f2, r = some q ∧ G q = none ∧ zx z0 G G2 ∧ G2 q = some (.inl (E.2.1 0, m1, .inl f2)) ∧ sb_Fit f2 ∧ (∀ j, j < n0 → f2 j = f0 j) ∧ ∀ j, n0 ≤ j → f2 j = 0) := by
  refine zMq.of (by decide) (Nat.le_of_ble_eq_true rfl) ?_
  intro p e s m args below meth c Q hZ hG hret ls hl
  obtain ⟨hx, hb, hr, hts, hown, hlocks, hml, hnm, hbase, hK, hN, hQ⟩ := hZ
  have hl : lv_has ls 3 [(0, .ref b0), (1, .int (nI m1))] := hl
  have hS : zg_S (zc_b E) s.heap s.heap [] := va_S.rf
  have hx0 : zx z0 G G := zx.rf
  refine lv_iload_n hx hb d_Ar_copyOf_0 rfl (lv_at hl 1 rfl) ?_
  refine lv_aload_n hx hb d_Ar_copyOf_1 rfl (lv_at hl 0 rfl) ?_
  refine zg_alen hx hb hK hG 0 h0 rfl (v := nI n0) rfl d_Ar_copyOf_2 ?_
  refine lv_icmp_ne (tgt := 14) hx hb d_Ar_copyOf_3 (by decide) (fun c3 => ?_) (fun c3 => ?_)
  · have b3 : ¬ m1 = n0 := fun q => c3 ((nI_eq (a := m1) (b := n0) (by omega) (by omega)).mpr q)
    refine lv_iload_n hx hb d_Ar_copyOf_14 rfl (lv_at hl 1 rfl) ?_
    refine zg_newp (atype := .byte) (ty := .byte) (N' := m1) (a0 := (m1, .inl (fun _ => 0))) hx hb (hts _ w_58) rfl hK hG hS hbase (fun _ => rfl) (nI_pos (by omega)) (zi_n _ (by omega)) (by show _ * _ ≤ _; simp only [componentBytes]; omega) (by dsimp only; omega) (by dsimp only; omega) d_Ar_copyOf_15 0 rfl (fun _ h => h) (fun q15 H n15 hG hS => ?_)
    obtain ⟨G1, eG1⟩ : ∃ z : zg_G, z = zg_up G q15 (.inl (E.2.1 0, m1, .inl (fun _ => 0))) := ⟨_, rfl⟩
    have hG : zP E G1 H := by rw [eG1]; exact hG
    have hx2 : zx z0 G G1 := hx0.tr (by rw [eG1]; exact zx.nw n15)
    have ne15_b0 : b0 ≠ q15 := zg_fr n15 h0
    have k3 : G1 b0 = some (.inl (E.2.1 0, n0, .inl f0)) := by rw [eG1, zg_up_ne (zg_fr n15 h0)]; exact h0
    have k4 : G1 q15 = some (.inl (E.2.1 0, m1, .inl (fun _ => 0))) := by rw [eG1]; exact zg_up_self _ _ _
    refine lv_astore_n (lv' := [(2, .ref q15), (0, .ref b0), (1, .int (nI m1))]) hx hb d_Ar_copyOf_17 rfl hl (by decide) rfl (fun ls hl => ?_)
    refine lv_aload_n hx hb d_Ar_copyOf_18 rfl (lv_at hl 1 rfl) ?_
    refine lv_iconst (v := 0) hx hb d_Ar_copyOf_19 (by decide) ?_
    refine lv_aload_n hx hb d_Ar_copyOf_20 rfl (lv_at hl 0 rfl) ?_
    refine lv_iconst (v := 0) hx hb d_Ar_copyOf_21 (by decide) ?_
    refine lv_aload_n hx hb d_Ar_copyOf_22 rfl (lv_at hl 1 rfl) ?_
    refine zg_alen hx hb hK hG 0 k3 rfl (v := nI n0) rfl d_Ar_copyOf_23 ?_
    refine lv_iload_n hx hb d_Ar_copyOf_24 rfl (lv_at hl 2 rfl) ?_
    refine va_mmin hx hb (hml.trans hl.1.symm) hown (hts _ w_347) (hts _ w_183) (hts _ w_11) (hts _ w_184) (Nat.le_of_ble_eq_true rfl) (Nat.le_of_ble_eq_true rfl) (by dsimp only; omega) (by dsimp only; omega) d_Ar_copyOf_25 ?_
    refine zi_as (y := nI n0) (by rw [zi_min (by omega) (by omega), Nat.min_eq_left (by omega)]) ?_
    refine zg_copyi hx hb (hml.trans hl.1.symm) hown (hts _ w_348) (hts _ w_350) (hts _ w_349) (hts _ w_23) hK hG hS 0 0 k3 k4 rfl rfl rfl (by decide) (by decide) (nI_pos (by omega)) (by rw [show Int32.toNatClampNeg 0 = 0 from by decide, zi_n n0 (by omega)]; omega) (by rw [show Int32.toNatClampNeg 0 = 0 from by decide, zi_n n0 (by omega)]; omega) (by rw [show Int32.toNatClampNeg 0 = 0 from by decide, zi_n n0 (by omega)]; exact fun i hi => hft _) (Nat.le_of_ble_eq_true rfl) (by show _ ≤ (40 : Nat); decide) d_Ar_copyOf_28 (fun H locs hG hS => ?_)
    rw [show Int32.toNatClampNeg 0 = 0 from by decide, zi_n n0 (by omega)] at hG
    obtain ⟨G5, eG5⟩ : ∃ z : zg_G, z = zg_up G1 q15 (.inl (E.2.1 0, m1, .inl (va_cpy f0 (fun _ => 0) 0 0 n0))) := ⟨_, rfl⟩
    have hG : zP E G5 H := by rw [eG5]; exact hG
    have hx6 : zx z0 G G5 := by rw [eG5]; exact hx2.upn n15
    have k7 : G5 b0 = some (.inl (E.2.1 0, n0, .inl f0)) := by rw [eG5, zg_up_ne (ne15_b0)]; exact k3
    have k8 : G5 q15 = some (.inl (E.2.1 0, m1, .inl (va_cpy f0 (fun _ => 0) 0 0 n0))) := by rw [eG5]; exact zg_up_self _ _ _
    refine lv_aload_n hx hb d_Ar_copyOf_31 rfl (lv_at hl 0 rfl) ?_
    exact hret (some q15) _ _ _ _ _ _ _ _ hr (Or.inr ⟨_, rfl⟩) (⟨q15, _, rfl, n15, hx6, k8, sb_fitC hft zf_fit0, fun j hj => by rw [zf_cp j hj, Nat.zero_add], fun j hj => zf_cpo j (by omega)⟩) hG hS (by dsimp only; omega) (by dsimp only; omega) d_Ar_copyOf_32
  · have b3 : m1 = n0 := (nI_eq (a := m1) (b := n0) (by omega) (by omega)).mp c3
    exact absurd b3 (by omega)
abbrev rm_Ar_checkLength : Room := { frames := 0, cells := 0, slots := 0, locals := 0 }
set_option maxHeartbeats 4000000 in
set_option maxRecDepth 100000 in
theorem t_Ar_checkLength (l : Launch) (E : zc_E) (G : zg_G) (x y : Nat) (h : x ≤ y) (hy : y < 2 ^ 31) : zMv l E y_Ar_checkLength c_Ar_checkLength 2 rm_Ar_checkLength [.int (nI x), .int (nI y)] G (fun (G2 : zg_G) => G2 = G) := by
  refine zMv.of (by decide) (Nat.le_of_ble_eq_true rfl) ?_
  intro p e s m args below meth c Q hZ hG hret ls hl
  obtain ⟨hx, hb, hr, hts, hown, hlocks, hml, hnm, hbase, hK, hN, hQ⟩ := hZ
  have hl : lv_has ls 2 [(0, .int (nI x)), (1, .int (nI y))] := hl
  have hS : zg_S (zc_b E) s.heap s.heap [] := va_S.rf
  refine lv_iload_n hx hb d_Ar_checkLength_0 rfl (lv_at hl 1 rfl) ?_
  refine lv_iload_n hx hb d_Ar_checkLength_1 rfl (lv_at hl 0 rfl) ?_
  refine lv_icmp_ge (tgt := 37) hx hb d_Ar_checkLength_2 (by decide) (fun c2 => ?_) (fun c2 => ?_)
  · have b2 : x ≤ y := (nI_leI (a := x) (b := y) (by omega) (by omega)).mp c2
    exact hret _ _ _ _ _ _ _ (rfl) hG hS (Nat.le_refl _) (Nat.le_refl _) d_Ar_checkLength_37
  · have b2 : ¬ x ≤ y := fun q => c2 ((nI_leI (a := x) (b := y) (by omega) (by omega)).mpr q)
    exact absurd h b2
abbrev rm_Ar_copyOfRangeByte (x y : Nat) : Room := { frames := 1, cells := 1, slots := y - x, locals := 40 }
set_option maxHeartbeats 4000000 in
set_option maxRecDepth 100000 in
theorem t_Ar_copyOfRangeByte (l : Launch) (E : zc_E) (G : zg_G) (b0 n0 : Nat) (f0 : Nat → Int32) (h0 : G b0 = some (.inl (E.2.1 0, n0, .inl f0))) (hft : sb_Fit f0) (hn0 : n0 < 2 ^ 24) (x y : Nat) (hxy : x ≤ y) (hyn : y ≤ n0) : zMq l E y_Ar_copyOfRangeByte c_Ar_copyOfRangeByte 5 (some (.array .byte)) (rm_Ar_copyOfRangeByte x y) [.ref b0, .int (nI x), .int (nI y)] G (fun (r : Option Nat) (G2 : zg_G) => ∃ q f2, r = some q ∧ G q = none ∧ zx z0 G G2 ∧ G2 q = some (.inl (E.2.1 0, y - x, .inl f2)) ∧ sb_Fit f2 ∧ ∀ j, j < y - x → f2 j = f0 (x + j)) := by
  refine zMq.of (by decide) (Nat.le_of_ble_eq_true rfl) ?_
  intro p e s m args below meth c Q hZ hG hret ls hl
  obtain ⟨hx, hb, hr, hts, hown, hlocks, hml, hnm, hbase, hK, hN, hQ⟩ := hZ
  have hl : lv_has ls 5 [(0, .ref b0), (1, .int (nI x)), (2, .int (nI y))] := hl
  have hS : zg_S (zc_b E) s.heap s.heap [] := va_S.rf
  have hx0 : zx z0 G G := zx.rf
  refine lv_iload_n hx hb d_Ar_copyOfRangeByte_0 rfl (lv_at hl 1 rfl) ?_
  refine lv_iload_n hx hb d_Ar_copyOfRangeByte_1 rfl (lv_at hl 2 rfl) ?_
  have hGo2 := hG
  refine zk_v (va_runS (As := [.int (nI x), .int (nI y)]) (rest := []) ⟨hx, hb, hml, hown, hts⟩ (t_Ar_checkLength l E G x y hxy (by omega)) (zcS 2 hts w_484 w_485 w_22 w_486 (by decide +kernel) ⟨Nat.le_of_ble_eq_true rfl, Nat.le_of_ble_eq_true rfl⟩) (zc_pre hbase hK hN hQ hG hS) rfl rfl hl.1 rfl (lv_room (Nat.le_of_ble_eq_true rfl)) d_Ar_copyOfRangeByte_2 ⟨(by dsimp only; omega), (by dsimp only; omega)⟩) hS (fun G2 H locs hp2 hG hS => ?_)
  have hG : zP E G H := hp2 ▸ hG
  refine lv_iload_n hx hb d_Ar_copyOfRangeByte_5 rfl (lv_at hl 2 rfl) ?_
  refine lv_iload_n hx hb d_Ar_copyOfRangeByte_6 rfl (lv_at hl 1 rfl) ?_
  refine lv_isub hx hb d_Ar_copyOfRangeByte_7 ?_
  refine zi_as (y := nI (y - x)) (zi_sub (a := y) (b := x) (by omega)) ?_
  refine lv_istore_n (lv' := [(3, .int (nI (y - x))), (0, .ref b0), (1, .int (nI x)), (2, .int (nI y))]) hx hb d_Ar_copyOfRangeByte_8 rfl hl (by decide) rfl (fun ls hl => ?_)
  refine lv_iload_n hx hb d_Ar_copyOfRangeByte_9 rfl (lv_at hl 0 rfl) ?_
  refine zg_newp (atype := .byte) (ty := .byte) (N' := y - x) (a0 := (y - x, .inl (fun _ => 0))) hx hb (hts _ w_58) rfl hK hG hS hbase (fun _ => rfl) (nI_pos (by omega)) (zi_n _ (by omega)) (by show _ * _ ≤ _; simp only [componentBytes]; omega) (by dsimp only; omega) (by dsimp only; omega) d_Ar_copyOfRangeByte_10 0 rfl (fun _ h => h) (fun q10 H n10 hG hS => ?_)
  obtain ⟨G1, eG1⟩ : ∃ z : zg_G, z = zg_up G q10 (.inl (E.2.1 0, y - x, .inl (fun _ => 0))) := ⟨_, rfl⟩
  have hG : zP E G1 H := by rw [eG1]; exact hG
  have hx2 : zx z0 G G1 := hx0.tr (by rw [eG1]; exact zx.nw n10)
  have ne10_b0 : b0 ≠ q10 := zg_fr n10 h0
  have k3 : G1 b0 = some (.inl (E.2.1 0, n0, .inl f0)) := by rw [eG1, zg_up_ne (zg_fr n10 h0)]; exact h0
  have k4 : G1 q10 = some (.inl (E.2.1 0, y - x, .inl (fun _ => 0))) := by rw [eG1]; exact zg_up_self _ _ _
  refine lv_astore (lv' := [(4, .ref q10), (3, .int (nI (y - x))), (0, .ref b0), (1, .int (nI x)), (2, .int (nI y))]) hx hb d_Ar_copyOfRangeByte_12 hl (by decide) rfl (fun ls hl => ?_)
  refine lv_aload_n hx hb d_Ar_copyOfRangeByte_14 rfl (lv_at hl 2 rfl) ?_
  refine lv_iload_n hx hb d_Ar_copyOfRangeByte_15 rfl (lv_at hl 3 rfl) ?_
  refine lv_aload hx hb d_Ar_copyOfRangeByte_16 (lv_at hl 0 rfl) ?_
  refine lv_iconst (v := 0) hx hb d_Ar_copyOfRangeByte_18 (by decide) ?_
  refine lv_aload_n hx hb d_Ar_copyOfRangeByte_19 rfl (lv_at hl 2 rfl) ?_
  refine zg_alen hx hb hK hG 0 k3 rfl (v := nI n0) rfl d_Ar_copyOfRangeByte_20 ?_
  refine lv_iload_n hx hb d_Ar_copyOfRangeByte_21 rfl (lv_at hl 3 rfl) ?_
  refine lv_isub hx hb d_Ar_copyOfRangeByte_22 ?_
  refine zi_as (y := nI (n0 - x)) (zi_sub (a := n0) (b := x) (by omega)) ?_
  refine lv_iload_n hx hb d_Ar_copyOfRangeByte_23 rfl (lv_at hl 1 rfl) ?_
  refine va_mmin hx hb (hml.trans hl.1.symm) hown (hts _ w_347) (hts _ w_183) (hts _ w_11) (hts _ w_184) (Nat.le_of_ble_eq_true rfl) (Nat.le_of_ble_eq_true rfl) (by dsimp only; omega) (by dsimp only; omega) d_Ar_copyOfRangeByte_24 ?_
  refine zi_as (y := nI (y - x)) (by rw [zi_min (by omega) (by omega), Nat.min_eq_right (by omega)]) ?_
  refine zg_copyi hx hb (hml.trans hl.1.symm) hown (hts _ w_348) (hts _ w_350) (hts _ w_349) (hts _ w_23) hK hG hS 0 0 k3 k4 rfl rfl rfl (nI_pos (by omega)) (by decide) (nI_pos (by omega)) (by rw [zi_n x (by omega), zi_n (y - x) (by omega)]; omega) (by rw [show Int32.toNatClampNeg 0 = 0 from by decide, zi_n (y - x) (by omega)]; omega) (by rw [zi_n x (by omega), zi_n (y - x) (by omega)]; exact fun i hi => hft _) (Nat.le_of_ble_eq_true rfl) (by show _ ≤ (40 : Nat); decide) d_Ar_copyOfRangeByte_27 (fun H locs hG hS => ?_)
  rw [zi_n x (by omega), show Int32.toNatClampNeg 0 = 0 from by decide, zi_n (y - x) (by omega)] at hG
  obtain ⟨G5, eG5⟩ : ∃ z : zg_G, z = zg_up G1 q10 (.inl (E.2.1 0, y - x, .inl (va_cpy f0 (fun _ => 0) x 0 (y - x)))) := ⟨_, rfl⟩
  have hG : zP E G5 H := by rw [eG5]; exact hG
  have hx6 : zx z0 G G5 := by rw [eG5]; exact hx2.upn n10
  have k7 : G5 b0 = some (.inl (E.2.1 0, n0, .inl f0)) := by rw [eG5, zg_up_ne (ne10_b0)]; exact k3
  have k8 : G5 q10 = some (.inl (E.2.1 0, y - x, .inl (va_cpy f0 (fun _ => 0) x 0 (y - x)))) := by rw [eG5]; exact zg_up_self _ _ _
  refine lv_aload hx hb d_Ar_copyOfRangeByte_30 (lv_at hl 0 rfl) ?_
  exact hret (some q10) _ _ _ _ _ _ _ _ hr (Or.inr ⟨_, rfl⟩) (⟨q10, _, rfl, n10, hx6, k8, sb_fitC hft zf_fit0, fun j hj => zf_cp j hj⟩) hG hS (by dsimp only; omega) (by dsimp only; omega) d_Ar_copyOfRangeByte_32
abbrev rm_Ar_copyOfRange (x y : Nat) : Room := { frames := 2, cells := 1, slots := y - x, locals := 70 }
set_option maxHeartbeats 4000000 in
set_option maxRecDepth 100000 in
/-- Arrays.copyOfRange(byte[], x, y) -/
theorem t_Ar_copyOfRange (l : Launch) (E : zc_E) (G : zg_G) (b0 n0 : Nat) (f0 : Nat → Int32) (h0 : G b0 = some (.inl (E.2.1 0, n0, .inl f0))) (hft : sb_Fit f0) (hn0 : n0 < 2 ^ 24) (x y : Nat) (hxy : x ≤ y) (hyn : y ≤ n0) : zMq l E y_Ar_copyOfRange c_Ar_copyOfRange 3 (some (.array .byte)) (rm_Ar_copyOfRange x y) [.ref b0, .int (nI x), .int (nI y)] G (fun (r : Option Nat) (G2 : zg_G) => ∃ q f2, r = some q ∧ G q = none ∧ zx z0 G G2 ∧ G2 q = some (.inl (E.2.1 0, y - x, .inl f2)) ∧ sb_Fit f2 ∧ ∀ j, j < y - x → f2 j = f0 (x + j)) := by
  refine zMq.of (by decide) (Nat.le_of_ble_eq_true rfl) ?_
  intro p e s m args below meth c Q hZ hG hret ls hl
  obtain ⟨hx, hb, hr, hts, hown, hlocks, hml, hnm, hbase, hK, hN, hQ⟩ := hZ
  have hl : lv_has ls 3 [(0, .ref b0), (1, .int (nI x)), (2, .int (nI y))] := hl
  have hS : zg_S (zc_b E) s.heap s.heap [] := va_S.rf
  have hx0 : zx z0 G G := zx.rf
  refine lv_iload_n hx hb d_Ar_copyOfRange_0 rfl (lv_at hl 1 rfl) ?_
  refine lv_if_ne (tgt := 10) hx hb d_Ar_copyOfRange_1 (by decide) (fun c1 => ?_) (fun c1 => ?_)
  · have b1 : ¬ x = 0 := fun q => c1 ((nI_eq (a := x) (b := 0) (by omega) (by omega)).mpr q)
    refine lv_aload_n hx hb d_Ar_copyOfRange_10 rfl (lv_at hl 0 rfl) ?_
    refine lv_iload_n hx hb d_Ar_copyOfRange_11 rfl (lv_at hl 1 rfl) ?_
    refine lv_iload_n hx hb d_Ar_copyOfRange_12 rfl (lv_at hl 2 rfl) ?_
    have hGo13 := hG
    refine zk_q (va_runS (As := [.ref b0, .int (nI x), .int (nI y)]) (rest := []) ⟨hx, hb, hml, hown, hts⟩ (t_Ar_copyOfRangeByte l E G b0 n0 f0 h0 hft hn0 x y hxy hyn) (zcS 3 hts w_481 w_482 w_22 w_483 (by decide +kernel) ⟨Nat.le_of_ble_eq_true rfl, Nat.le_of_ble_eq_true rfl⟩) (zc_pre hbase hK hN hQ hG hS) rfl rfl hl.1 rfl (lv_room (Nat.le_of_ble_eq_true rfl)) d_Ar_copyOfRange_13 ⟨(by dsimp only; omega), (by dsimp only; omega)⟩) hS (fun r13 G13 H locs hp13 hG hS => ?_)
    exact hret _ _ _ _ _ _ _ _ _ hr (Or.inr ⟨_, rfl⟩) (hp13) hG hS (by dsimp only; omega) (by dsimp only; omega) d_Ar_copyOfRange_16
  · have b1 : x = 0 := (nI_eq (a := x) (b := 0) (by omega) (by omega)).mp c1
    refine lv_iload_n hx hb d_Ar_copyOfRange_4 rfl (lv_at hl 2 rfl) ?_
    refine lv_aload_n hx hb d_Ar_copyOfRange_5 rfl (lv_at hl 0 rfl) ?_
    refine zg_alen hx hb hK hG 0 h0 rfl (v := nI n0) rfl d_Ar_copyOfRange_6 ?_
    refine lv_icmp_eq (tgt := 17) hx hb d_Ar_copyOfRange_7 (by decide) (fun c7 => ?_) (fun c7 => ?_)
    · have b7 : y = n0 := (nI_eq (a := y) (b := n0) (by omega) (by omega)).mp c7
      refine lv_aload_n hx hb d_Ar_copyOfRange_17 rfl (lv_at hl 0 rfl) ?_
      refine zg_clone (ad := "[B") hx hb (hml.trans hl.1.symm) hown (hts _ w_340) (hts _ w_341) (hts _ w_342) (hts _ w_343) (hts _ w_344) (zN.at hN (w := .castable "[B" "java/lang/Cloneable") (by decide +kernel)) hK hG hS hbase 0 h0 rfl hQ.2.2.2.2.2.2.1 (zf_fit hft) (Nat.le_of_ble_eq_true rfl) (Nat.le_of_ble_eq_true rfl) (by dsimp only; omega) (by dsimp only; omega) d_Ar_copyOfRange_18 (fun q18 H n18 hG hS => ?_)
      obtain ⟨G1, eG1⟩ : ∃ z : zg_G, z = zg_up G q18 (.inl (E.2.1 0, n0, .inl f0)) := ⟨_, rfl⟩
      have hG : zP E G1 H := by rw [eG1]; exact hG
      have hx2 : zx z0 G G1 := hx0.tr (by rw [eG1]; exact zx.nw n18)
      have ne18_b0 : b0 ≠ q18 := zg_fr n18 h0
      have k3 : G1 b0 = some (.inl (E.2.1 0, n0, .inl f0)) := by rw [eG1, zg_up_ne (zg_fr n18 h0)]; exact h0
      have k4 : G1 q18 = some (.inl (E.2.1 0, n0, .inl f0)) := by rw [eG1]; exact zg_up_self _ _ _
      refine zg_castA hx hb hown (hts _ w_346) hG k4 hQ.2.2.2.2.2.2.1 d_Ar_copyOfRange_21 ?_
      exact hret (some q18) _ _ _ _ _ _ _ _ hr (Or.inr ⟨_, rfl⟩) (⟨q18, f0, rfl, n18, hx2, by rw [show y - x = n0 by omega]; exact k4, hft, fun j hj => by rw [show x = 0 by omega, Nat.zero_add]⟩) hG hS (by dsimp only; omega) (by dsimp only; omega) d_Ar_copyOfRange_24
    · have b7 : ¬ y = n0 := fun q => c7 ((nI_eq (a := y) (b := n0) (by omega) (by omega)).mpr q)
      refine lv_aload_n hx hb d_Ar_copyOfRange_10 rfl (lv_at hl 0 rfl) ?_
      refine lv_iload_n hx hb d_Ar_copyOfRange_11 rfl (lv_at hl 1 rfl) ?_
      refine lv_iload_n hx hb d_Ar_copyOfRange_12 rfl (lv_at hl 2 rfl) ?_
      have hGo13 := hG
      refine zk_q (va_runS (As := [.ref b0, .int (nI x), .int (nI y)]) (rest := []) ⟨hx, hb, hml, hown, hts⟩ (t_Ar_copyOfRangeByte l E G b0 n0 f0 h0 hft hn0 x y hxy hyn) (zcS 3 hts w_481 w_482 w_22 w_483 (by decide +kernel) ⟨Nat.le_of_ble_eq_true rfl, Nat.le_of_ble_eq_true rfl⟩) (zc_pre hbase hK hN hQ hG hS) rfl rfl hl.1 rfl (lv_room (Nat.le_of_ble_eq_true rfl)) d_Ar_copyOfRange_13 ⟨(by dsimp only; omega), (by dsimp only; omega)⟩) hS (fun r13 G13 H locs hp13 hG hS => ?_)
      exact hret _ _ _ _ _ _ _ _ _ hr (Or.inr ⟨_, rfl⟩) (hp13) hG hS (by dsimp only; omega) (by dsimp only; omega) d_Ar_copyOfRange_16
abbrev rm_ZA_writeNumber : Room := { frames := 0, cells := 0, slots := 0, locals := 0 }
set_option maxHeartbeats 4000000 in
set_option maxRecDepth 100000 in
/-- writeNumber(row, at, number) -/
theorem t_ZA_writeNumber (l : Launch) (E : zc_E) (G : zg_G) (b0 n0 : Nat) (f0 : Nat → Int32) (h0 : G b0 = some (.inl (E.2.1 0, n0, .inl f0))) (hft : sb_Fit f0) (hn0 : n0 < 2 ^ 24) (at0 : Nat) (hat : at0 + 4 ≤ n0) (x : Int32) : zMv l E y_ZA_writeNumber c_ZA_writeNumber 3 rm_ZA_writeNumber [.ref b0, .int (nI at0), .int x] G (fun (G2 : zg_G) => G2 = zg_up G b0 (.inl (E.2.1 0, n0, .inl (zw4 f0 at0 x)))) := by
  refine zMv.of (by decide) (Nat.le_of_ble_eq_true rfl) ?_
  intro p e s m args below meth c Q hZ hG hret ls hl
  obtain ⟨hx, hb, hr, hts, hown, hlocks, hml, hnm, hbase, hK, hN, hQ⟩ := hZ
  have hl : lv_has ls 3 [(0, .ref b0), (1, .int (nI at0)), (2, .int x)] := hl
  have hS : zg_S (zc_b E) s.heap s.heap [] := va_S.rf
  refine lv_aload_n hx hb d_ZA_writeNumber_0 rfl (lv_at hl 0 rfl) ?_
  refine lv_iload_n hx hb d_ZA_writeNumber_1 rfl (lv_at hl 1 rfl) ?_
  refine lv_iload_n hx hb d_ZA_writeNumber_2 rfl (lv_at hl 2 rfl) ?_
  refine lv_bipush (v := 24) hx hb d_ZA_writeNumber_3 (by decide) ?_
  refine lv_ishr hx hb d_ZA_writeNumber_5 ?_
  refine lv_i2b hx hb d_ZA_writeNumber_6 rfl ?_
  refine zg_bast hx hb hK hG hS 0 h0 rfl (vp_in_nI (by omega) (by omega)) d_ZA_writeNumber_7 (fun H locs hG hS => ?_)
  rw [zi_n at0 (by omega)] at hG
  obtain ⟨G1, eG1⟩ : ∃ z : zg_G, z = zg_up G b0 (.inl (E.2.1 0, n0, .inl (upd f0 at0 (vp_nar .byte ((x >>> (24 &&& 31)).toInt8.toInt32))))) := ⟨_, rfl⟩
  have hG : zP E G1 H := by rw [eG1]; exact hG
  have k2 : G1 b0 = some (.inl (E.2.1 0, n0, .inl (upd f0 at0 (vp_nar .byte ((x >>> (24 &&& 31)).toInt8.toInt32))))) := by rw [eG1]; exact zg_up_self _ _ _
  refine lv_aload_n hx hb d_ZA_writeNumber_8 rfl (lv_at hl 0 rfl) ?_
  refine lv_iload_n hx hb d_ZA_writeNumber_9 rfl (lv_at hl 1 rfl) ?_
  refine lv_iconst (v := 1) hx hb d_ZA_writeNumber_10 (by decide) ?_
  refine lv_iadd hx hb d_ZA_writeNumber_11 ?_
  refine zi_as (y := nI (at0 + 1)) (nI_add at0 1) ?_
  refine lv_iload_n hx hb d_ZA_writeNumber_12 rfl (lv_at hl 2 rfl) ?_
  refine lv_bipush (v := 16) hx hb d_ZA_writeNumber_13 (by decide) ?_
  refine lv_ishr hx hb d_ZA_writeNumber_15 ?_
  refine lv_i2b hx hb d_ZA_writeNumber_16 rfl ?_
  refine zg_bast hx hb hK hG hS 0 k2 rfl (vp_in_nI (by omega) (by omega)) d_ZA_writeNumber_17 (fun H locs hG hS => ?_)
  rw [zi_n (at0 + 1) (by omega)] at hG
  obtain ⟨G3, eG3⟩ : ∃ z : zg_G, z = zg_up G1 b0 (.inl (E.2.1 0, n0, .inl (upd (upd f0 at0 (vp_nar .byte ((x >>> (24 &&& 31)).toInt8.toInt32))) (at0 + 1) (vp_nar .byte ((x >>> (16 &&& 31)).toInt8.toInt32))))) := ⟨_, rfl⟩
  have hG : zP E G3 H := by rw [eG3]; exact hG
  have k4 : G3 b0 = some (.inl (E.2.1 0, n0, .inl (upd (upd f0 at0 (vp_nar .byte ((x >>> (24 &&& 31)).toInt8.toInt32))) (at0 + 1) (vp_nar .byte ((x >>> (16 &&& 31)).toInt8.toInt32))))) := by rw [eG3]; exact zg_up_self _ _ _
  refine lv_aload_n hx hb d_ZA_writeNumber_18 rfl (lv_at hl 0 rfl) ?_
  refine lv_iload_n hx hb d_ZA_writeNumber_19 rfl (lv_at hl 1 rfl) ?_
  refine lv_iconst (v := 2) hx hb d_ZA_writeNumber_20 (by decide) ?_
  refine lv_iadd hx hb d_ZA_writeNumber_21 ?_
  refine zi_as (y := nI (at0 + 2)) (nI_add at0 2) ?_
  refine lv_iload_n hx hb d_ZA_writeNumber_22 rfl (lv_at hl 2 rfl) ?_
  refine lv_bipush (v := 8) hx hb d_ZA_writeNumber_23 (by decide) ?_
  refine lv_ishr hx hb d_ZA_writeNumber_25 ?_
  refine lv_i2b hx hb d_ZA_writeNumber_26 rfl ?_
  refine zg_bast hx hb hK hG hS 0 k4 rfl (vp_in_nI (by omega) (by omega)) d_ZA_writeNumber_27 (fun H locs hG hS => ?_)
  rw [zi_n (at0 + 2) (by omega)] at hG
  obtain ⟨G5, eG5⟩ : ∃ z : zg_G, z = zg_up G3 b0 (.inl (E.2.1 0, n0, .inl (upd (upd (upd f0 at0 (vp_nar .byte ((x >>> (24 &&& 31)).toInt8.toInt32))) (at0 + 1) (vp_nar .byte ((x >>> (16 &&& 31)).toInt8.toInt32))) (at0 + 2) (vp_nar .byte ((x >>> (8 &&& 31)).toInt8.toInt32))))) := ⟨_, rfl⟩
  have hG : zP E G5 H := by rw [eG5]; exact hG
  have k6 : G5 b0 = some (.inl (E.2.1 0, n0, .inl (upd (upd (upd f0 at0 (vp_nar .byte ((x >>> (24 &&& 31)).toInt8.toInt32))) (at0 + 1) (vp_nar .byte ((x >>> (16 &&& 31)).toInt8.toInt32))) (at0 + 2) (vp_nar .byte ((x >>> (8 &&& 31)).toInt8.toInt32))))) := by rw [eG5]; exact zg_up_self _ _ _
  refine lv_aload_n hx hb d_ZA_writeNumber_28 rfl (lv_at hl 0 rfl) ?_
  refine lv_iload_n hx hb d_ZA_writeNumber_29 rfl (lv_at hl 1 rfl) ?_
  refine lv_iconst (v := 3) hx hb d_ZA_writeNumber_30 (by decide) ?_
  refine lv_iadd hx hb d_ZA_writeNumber_31 ?_
  refine zi_as (y := nI (at0 + 3)) (nI_add at0 3) ?_
  refine lv_iload_n hx hb d_ZA_writeNumber_32 rfl (lv_at hl 2 rfl) ?_
  refine lv_i2b hx hb d_ZA_writeNumber_33 rfl ?_
  refine zg_bast hx hb hK hG hS 0 k6 rfl (vp_in_nI (by omega) (by omega)) d_ZA_writeNumber_34 (fun H locs hG hS => ?_)
  rw [zi_n (at0 + 3) (by omega)] at hG
  obtain ⟨G7, eG7⟩ : ∃ z : zg_G, z = zg_up G5 b0 (.inl (E.2.1 0, n0, .inl (upd (upd (upd (upd f0 at0 (vp_nar .byte ((x >>> (24 &&& 31)).toInt8.toInt32))) (at0 + 1) (vp_nar .byte ((x >>> (16 &&& 31)).toInt8.toInt32))) (at0 + 2) (vp_nar .byte ((x >>> (8 &&& 31)).toInt8.toInt32))) (at0 + 3) (vp_nar .byte x.toInt8.toInt32)))) := ⟨_, rfl⟩
  have hG : zP E G7 H := by rw [eG7]; exact hG
  have k8 : G7 b0 = some (.inl (E.2.1 0, n0, .inl (upd (upd (upd (upd f0 at0 (vp_nar .byte ((x >>> (24 &&& 31)).toInt8.toInt32))) (at0 + 1) (vp_nar .byte ((x >>> (16 &&& 31)).toInt8.toInt32))) (at0 + 2) (vp_nar .byte ((x >>> (8 &&& 31)).toInt8.toInt32))) (at0 + 3) (vp_nar .byte x.toInt8.toInt32)))) := by rw [eG7]; exact zg_up_self _ _ _
  exact hret _ _ _ _ _ _ _ (by rw [eG7, eG5, eG3, eG1, zg_up_up, zg_up_up, zg_up_up]; rfl) hG hS (Nat.le_refl _) (Nat.le_refl _) d_ZA_writeNumber_35
