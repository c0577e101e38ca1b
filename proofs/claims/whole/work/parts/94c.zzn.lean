theorem zf_fitI {f : Nat → Int32} {cA : ClassId} {n : Nat} : ∀ (i : Nat) (v : Value), (vp_cell cA (n, .inl f)).slots[i]? = some v → fits .int v = true := by
  intro i v hv
  rw [vp_cell_i] at hv
  by_cases h : i < n
  · rw [arrV_read _ _ h] at hv
    injection hv with hv
    rw [← hv]; rfl
  · rw [Array.getElem?_eq_none (by rw [arrV_size]; omega)] at hv
    cases hv
/-- whether a set's type counts in its owner's link -/
def zfb (o : zOt) (lo hi : Int32) (s : zSt) : Bool := (decide (¬ oC o = some (oA o)) || decide (sT s = 2) || decide (sT s = 43)) && decide (lo ≤ sT s) && decide (sT s ≤ hi)
def zfl (o : zOt) (lo hi : Int32) (xs : List zSt) : List Int32 := (xs.filter (zfb o lo hi)).map sT
theorem zfl_y {o : zOt} {lo hi : Int32} {i : Nat} (h : i < (oX o).length) (hb : zfb o lo hi (oS o i) = true) : zfl o lo hi ((oX o).take (i + 1)) = zfl o lo hi ((oX o).take i) ++ [sT (oS o i)] := by
  unfold zfl
  rw [List.take_add_one, List.getElem?_eq_getElem h, ← oS_at h, List.filter_append, List.map_append]
  simp [hb]
theorem zfl_n {o : zOt} {lo hi : Int32} {i : Nat} (h : i < (oX o).length) (hb : ¬ zfb o lo hi (oS o i) = true) : zfl o lo hi ((oX o).take (i + 1)) = zfl o lo hi ((oX o).take i) := by
  unfold zfl
  rw [List.take_add_one, List.getElem?_eq_getElem h, ← oS_at h, List.filter_append, List.map_append]
  simp [hb]
theorem zfl_le {o : zOt} {lo hi : Int32} (xs : List zSt) : (zfl o lo hi xs).length ≤ xs.length := by
  unfold zfl
  rw [List.length_map]; exact List.length_filter_le _ _
/-- a row of ints in which a list stands from there on -/
def zup (f0 f2 : Nat → Int32) (fr : Nat) (L : List Int32) : Prop := (∀ j, j < L.length → f2 (fr + j) = L.getD j 0) ∧ ∀ j, (j < fr ∨ fr + L.length ≤ j) → f2 j = f0 j
theorem zup_0 (f : Nat → Int32) (fr : Nat) : zup f f fr [] := ⟨fun j hj => absurd hj (Nat.not_lt_zero _), fun _ _ => rfl⟩
theorem zup_s {f0 f2 : Nat → Int32} {fr : Nat} {L : List Int32} {v : Int32} (h : zup f0 f2 fr L) : zup f0 (upd f2 (fr + L.length) v) fr (L ++ [v]) := by
  refine ⟨fun j hj => ?_, fun j hj => ?_⟩
  · rw [List.length_append] at hj
    have hj : j < L.length + 1 := hj
    unfold upd
    by_cases z : j = L.length
    · rw [if_pos (by omega), z, List.getD_eq_getElem?_getD, List.getElem?_append_right (Nat.le_refl _), Nat.sub_self]; rfl
    · rw [if_neg (by omega), h.1 j (by omega), List.getD_eq_getElem?_getD, List.getD_eq_getElem?_getD, List.getElem?_append_left (by omega)]
  · rw [List.length_append] at hj
    have hj : j < fr ∨ fr + (L.length + 1) ≤ j := hj
    unfold upd
    rw [if_neg (by omega), h.2 j (by omega)]
theorem zup_app {f0 f1 f2 : Nat → Int32} {fr : Nat} {L1 L2 : List Int32} (h1 : zup f0 f1 fr L1) (h2 : zup f1 f2 (fr + L1.length) L2) : zup f0 f2 fr (L1 ++ L2) := by
  refine ⟨fun j hj => ?_, fun j hj => ?_⟩
  · rw [List.length_append] at hj
    rw [List.getD_eq_getElem?_getD]
    by_cases z : j < L1.length
    · rw [h2.2 (fr + j) (by omega), h1.1 j z, List.getElem?_append_left z, List.getD_eq_getElem?_getD]
    · have q := h2.1 (j - L1.length) (by omega)
      rw [show fr + L1.length + (j - L1.length) = fr + j by omega] at q
      rw [q, List.getElem?_append_right (by omega), List.getD_eq_getElem?_getD]
  · rw [List.length_append] at hj
    rw [h2.2 j (by omega), h1.2 j (by omega)]
theorem zup_s1 {f0 : Nat → Int32} {fr : Nat} {v : Int32} : zup f0 (upd f0 fr v) fr [v] := by
  have h := zup_s (v := v) (zup_0 f0 fr)
  exact h
/-- the types of an owner's link -/
def zlk (o : zOt) : List Int32 := zfl o 1 45 (oX o) ++ [46, 47] ++ zfl o 48 65535 (oX o)
theorem zfl_2 {o : zOt} {xs : List zSt} : (zfl o 1 45 xs).length + (zfl o 48 65535 xs).length ≤ xs.length := by
  induction xs with
  | nil => exact Nat.le_refl _
  | cons x xs ih =>
    unfold zfl at ih ⊢
    rw [List.length_map, List.length_map] at ih
    rw [List.length_map, List.length_map, List.filter_cons, List.filter_cons, List.length_cons]
    by_cases h1 : zfb o 1 45 x = true
    · have h2 : ¬ zfb o 48 65535 x = true := by
        intro z
        unfold zfb at h1 z
        simp only [Bool.and_eq_true, decide_eq_true_eq] at h1 z
        exact absurd (Int32.le_trans z.1.2 h1.2) (by decide)
      rw [if_pos h1, if_neg h2, List.length_cons]; omega
    · rw [if_neg h1]
      split
      · rw [List.length_cons]; omega
      · omega
theorem zfbT {o : zOt} {lo hi : Int32} {s : zSt} (h1 : ¬ oC o = some (oA o) ∨ sT s = 2 ∨ sT s = 43) (h2 : ¬ sT s < lo) (h3 : ¬ hi < sT s) : zfb o lo hi s = true := by
  unfold zfb
  rw [decide_eq_true (Int32.not_lt.mp h2), decide_eq_true (Int32.not_lt.mp h3), Bool.and_true, Bool.and_true]
  rcases h1 with h | h | h
  · rw [decide_eq_true h]; rfl
  · rw [decide_eq_true h, Bool.or_true]; rfl
  · rw [decide_eq_true h, Bool.or_true]
theorem zfbF {o : zOt} {lo hi : Int32} {s : zSt} (h : (oC o = some (oA o) ∧ ¬ sT s = 2 ∧ ¬ sT s = 43) ∨ sT s < lo ∨ hi < sT s) : ¬ zfb o lo hi s = true := by
  unfold zfb
  simp only [Bool.and_eq_true, Bool.or_eq_true, decide_eq_true_eq]
  rintro ⟨⟨h1, h2⟩, h3⟩
  rcases h with h | h | h
  · rcases h1 with (h1 | h1) | h1
    · exact h1 h.1
    · exact h.2.1 h1
    · exact h.2.2 h1
  · exact absurd h2 (Int32.not_le.mpr h)
  · exact absurd h3 (Int32.not_le.mpr h)
theorem zfl_lt {o : zOt} {lo hi : Int32} {i : Nat} (h : i < (oX o).length) (hb : zfb o lo hi (oS o i) = true) : (zfl o lo hi ((oX o).take i)).length < (zfl o lo hi (oX o)).length := by
  have e : zfl o lo hi (oX o) = zfl o lo hi ((oX o).take (i + 1)) ++ zfl o lo hi ((oX o).drop (i + 1)) := by
    unfold zfl
    rw [← List.map_append, ← List.filter_append, List.take_append_drop]
  rw [e, zfl_y h hb, List.length_append, List.length_append]
  show _ < _ + 1 + _
  omega
theorem w_1109 : (.methodLink "ZoneAnswers$Owner" 61 ⟨"ZoneAnswers$Owner", "isCut", "()Z"⟩ : Cond) ∈ zw := zw_at 1109 (by decide +kernel) (by decide +kernel)
theorem w_1110 : (.instanceMethod ⟨"ZoneAnswers$Owner", "isCut", "()Z"⟩ : Cond) ∈ zw := zw_at 1110 (by decide +kernel) (by decide +kernel)
theorem w_1111 : (.selects "ZoneAnswers$Owner" ⟨"ZoneAnswers$Owner", "isCut", "()Z"⟩ ⟨"ZoneAnswers$Owner", "isCut", "()Z"⟩ : Cond) ∈ zw := zw_at 1111 (by decide +kernel) (by decide +kernel)
theorem w_1112 : (.code ⟨"ZoneAnswers$Owner", "isCut", "()Z"⟩ prog_5_method_2_code 1 (some .boolean) : Cond) ∈ zw := zw_at 1112 (by decide +kernel) (by decide +kernel)
theorem w_1117 : (.methodLink "java/util/Arrays" 316 ⟨"[I", "clone", "()Ljava/lang/Object;"⟩ : Cond) ∈ zw := zw_at 1117 (by decide +kernel) (by decide +kernel)
theorem w_1118 : (.sameMethod "[I" "java/lang/Object" "clone" "()Ljava/lang/Object;" : Cond) ∈ zw := zw_at 1118 (by decide +kernel) (by decide +kernel)
theorem w_1119 : (.selects "[I" ⟨"[I", "clone", "()Ljava/lang/Object;"⟩ ⟨"java/lang/Object", "clone", "()Ljava/lang/Object;"⟩ : Cond) ∈ zw := zw_at 1119 (by decide +kernel) (by decide +kernel)
theorem w_1121 : (.classLink "java/util/Arrays" 317 "[I" : Cond) ∈ zw := zw_at 1121 (by decide +kernel) (by decide +kernel)
abbrev c_Ow_addTypes : ByteArray := prog_5_method_8_code
abbrev y_Ow_addTypes : MethodName := ⟨"ZoneAnswers$Owner", "addTypes", "([IIII)I"⟩
theorem d_Ow_addTypes_0 : decode c_Ow_addTypes 0 = .ok (.iload_n 2, 1) := by decide +kernel
theorem d_Ow_addTypes_1 : decode c_Ow_addTypes 1 = .ok (.istore 5, 2) := by decide +kernel
theorem d_Ow_addTypes_3 : decode c_Ow_addTypes 3 = .ok (.iconst 0, 1) := by decide +kernel
theorem d_Ow_addTypes_4 : decode c_Ow_addTypes 4 = .ok (.istore 6, 2) := by decide +kernel
theorem d_Ow_addTypes_6 : decode c_Ow_addTypes 6 = .ok (.iload 6, 2) := by decide +kernel
theorem d_Ow_addTypes_8 : decode c_Ow_addTypes 8 = .ok (.aload_n 0, 1) := by decide +kernel
theorem d_Ow_addTypes_9 : decode c_Ow_addTypes 9 = .ok (.getfield 18, 3) := by decide +kernel
theorem d_Ow_addTypes_12 : decode c_Ow_addTypes 12 = .ok (.invokevirtual 26, 3) := by decide +kernel
theorem d_Ow_addTypes_15 : decode c_Ow_addTypes 15 = .ok (.if_icmp .ge 80, 3) := by decide +kernel
theorem d_Ow_addTypes_18 : decode c_Ow_addTypes 18 = .ok (.aload_n 0, 1) := by decide +kernel
theorem d_Ow_addTypes_19 : decode c_Ow_addTypes 19 = .ok (.getfield 18, 3) := by decide +kernel
theorem d_Ow_addTypes_22 : decode c_Ow_addTypes 22 = .ok (.iload 6, 2) := by decide +kernel
theorem d_Ow_addTypes_24 : decode c_Ow_addTypes 24 = .ok (.invokevirtual 30, 3) := by decide +kernel
theorem d_Ow_addTypes_27 : decode c_Ow_addTypes 27 = .ok (.checkcast 34, 3) := by decide +kernel
theorem d_Ow_addTypes_30 : decode c_Ow_addTypes 30 = .ok (.getfield 36, 3) := by decide +kernel
theorem d_Ow_addTypes_33 : decode c_Ow_addTypes 33 = .ok (.istore 7, 2) := by decide +kernel
theorem d_Ow_addTypes_35 : decode c_Ow_addTypes 35 = .ok (.aload_n 0, 1) := by decide +kernel
theorem d_Ow_addTypes_36 : decode c_Ow_addTypes 36 = .ok (.invokevirtual 61, 3) := by decide +kernel
theorem d_Ow_addTypes_39 : decode c_Ow_addTypes 39 = .ok (.ifCond .eq 16, 3) := by decide +kernel
theorem d_Ow_addTypes_42 : decode c_Ow_addTypes 42 = .ok (.iload 7, 2) := by decide +kernel
theorem d_Ow_addTypes_44 : decode c_Ow_addTypes 44 = .ok (.iconst 2, 1) := by decide +kernel
theorem d_Ow_addTypes_45 : decode c_Ow_addTypes 45 = .ok (.if_icmp .eq 10, 3) := by decide +kernel
theorem d_Ow_addTypes_48 : decode c_Ow_addTypes 48 = .ok (.iload 7, 2) := by decide +kernel
theorem d_Ow_addTypes_50 : decode c_Ow_addTypes 50 = .ok (.bipush 43, 2) := by decide +kernel
theorem d_Ow_addTypes_52 : decode c_Ow_addTypes 52 = .ok (.if_icmp .ne 7, 3) := by decide +kernel
theorem d_Ow_addTypes_55 : decode c_Ow_addTypes 55 = .ok (.iconst 1, 1) := by decide +kernel
theorem d_Ow_addTypes_56 : decode c_Ow_addTypes 56 = .ok (.goto 4, 3) := by decide +kernel
theorem d_Ow_addTypes_59 : decode c_Ow_addTypes 59 = .ok (.iconst 0, 1) := by decide +kernel
theorem d_Ow_addTypes_60 : decode c_Ow_addTypes 60 = .ok (.istore 8, 2) := by decide +kernel
theorem d_Ow_addTypes_62 : decode c_Ow_addTypes 62 = .ok (.iload 8, 2) := by decide +kernel
theorem d_Ow_addTypes_64 : decode c_Ow_addTypes 64 = .ok (.ifCond .eq 25, 3) := by decide +kernel
theorem d_Ow_addTypes_67 : decode c_Ow_addTypes 67 = .ok (.iload 7, 2) := by decide +kernel
theorem d_Ow_addTypes_69 : decode c_Ow_addTypes 69 = .ok (.iload_n 3, 1) := by decide +kernel
theorem d_Ow_addTypes_70 : decode c_Ow_addTypes 70 = .ok (.if_icmp .lt 19, 3) := by decide +kernel
theorem d_Ow_addTypes_73 : decode c_Ow_addTypes 73 = .ok (.iload 7, 2) := by decide +kernel
theorem d_Ow_addTypes_75 : decode c_Ow_addTypes 75 = .ok (.iload 4, 2) := by decide +kernel
theorem d_Ow_addTypes_77 : decode c_Ow_addTypes 77 = .ok (.if_icmp .gt 12, 3) := by decide +kernel
theorem d_Ow_addTypes_80 : decode c_Ow_addTypes 80 = .ok (.aload_n 1, 1) := by decide +kernel
theorem d_Ow_addTypes_81 : decode c_Ow_addTypes 81 = .ok (.iload 5, 2) := by decide +kernel
theorem d_Ow_addTypes_83 : decode c_Ow_addTypes 83 = .ok (.iload 7, 2) := by decide +kernel
theorem d_Ow_addTypes_85 : decode c_Ow_addTypes 85 = .ok (.iastore, 1) := by decide +kernel
theorem d_Ow_addTypes_86 : decode c_Ow_addTypes 86 = .ok (.iinc 5 1, 3) := by decide +kernel
theorem d_Ow_addTypes_89 : decode c_Ow_addTypes 89 = .ok (.iinc 6 1, 3) := by decide +kernel
theorem d_Ow_addTypes_92 : decode c_Ow_addTypes 92 = .ok (.goto (-86), 3) := by decide +kernel
theorem d_Ow_addTypes_95 : decode c_Ow_addTypes 95 = .ok (.iload 5, 2) := by decide +kernel
theorem d_Ow_addTypes_97 : decode c_Ow_addTypes 97 = .ok (.ireturn, 1) := by decide +kernel
abbrev c_Ar_copyOf_4 : ByteArray := prog_36_method_123_code
abbrev y_Ar_copyOf_4 : MethodName := ⟨"java/util/Arrays", "copyOf", "([II)[I"⟩
theorem d_Ar_copyOf_4_0 : decode c_Ar_copyOf_4 0 = .ok (.iload_n 1, 1) := by decide +kernel
theorem d_Ar_copyOf_4_1 : decode c_Ar_copyOf_4 1 = .ok (.aload_n 0, 1) := by decide +kernel
theorem d_Ar_copyOf_4_2 : decode c_Ar_copyOf_4 2 = .ok (.arraylength, 1) := by decide +kernel
theorem d_Ar_copyOf_4_3 : decode c_Ar_copyOf_4 3 = .ok (.if_icmp .ne 11, 3) := by decide +kernel
theorem d_Ar_copyOf_4_6 : decode c_Ar_copyOf_4 6 = .ok (.aload_n 0, 1) := by decide +kernel
theorem d_Ar_copyOf_4_7 : decode c_Ar_copyOf_4 7 = .ok (.invokevirtual 316, 3) := by decide +kernel
theorem d_Ar_copyOf_4_10 : decode c_Ar_copyOf_4 10 = .ok (.checkcast 317, 3) := by decide +kernel
theorem d_Ar_copyOf_4_13 : decode c_Ar_copyOf_4 13 = .ok (.areturn, 1) := by decide +kernel
theorem d_Ar_copyOf_4_14 : decode c_Ar_copyOf_4 14 = .ok (.iload_n 1, 1) := by decide +kernel
theorem d_Ar_copyOf_4_15 : decode c_Ar_copyOf_4 15 = .ok (.newarray .int, 2) := by decide +kernel
theorem d_Ar_copyOf_4_17 : decode c_Ar_copyOf_4 17 = .ok (.astore_n 2, 1) := by decide +kernel
theorem d_Ar_copyOf_4_18 : decode c_Ar_copyOf_4 18 = .ok (.aload_n 0, 1) := by decide +kernel
theorem d_Ar_copyOf_4_19 : decode c_Ar_copyOf_4 19 = .ok (.iconst 0, 1) := by decide +kernel
theorem d_Ar_copyOf_4_20 : decode c_Ar_copyOf_4 20 = .ok (.aload_n 2, 1) := by decide +kernel
theorem d_Ar_copyOf_4_21 : decode c_Ar_copyOf_4 21 = .ok (.iconst 0, 1) := by decide +kernel
theorem d_Ar_copyOf_4_22 : decode c_Ar_copyOf_4 22 = .ok (.aload_n 0, 1) := by decide +kernel
theorem d_Ar_copyOf_4_23 : decode c_Ar_copyOf_4 23 = .ok (.arraylength, 1) := by decide +kernel
theorem d_Ar_copyOf_4_24 : decode c_Ar_copyOf_4 24 = .ok (.iload_n 1, 1) := by decide +kernel
theorem d_Ar_copyOf_4_25 : decode c_Ar_copyOf_4 25 = .ok (.invokestatic 304, 3) := by decide +kernel
theorem d_Ar_copyOf_4_28 : decode c_Ar_copyOf_4 28 = .ok (.invokestatic 150, 3) := by decide +kernel
theorem d_Ar_copyOf_4_31 : decode c_Ar_copyOf_4 31 = .ok (.aload_n 2, 1) := by decide +kernel
theorem d_Ar_copyOf_4_32 : decode c_Ar_copyOf_4 32 = .ok (.areturn, 1) := by decide +kernel
abbrev rm_Ow_addTypes : Room := { frames := 3, cells := 0, slots := 0, locals := 80 }
set_option maxHeartbeats 4000000 in
set_option maxRecDepth 100000 in
/-- Owner.addTypes(types, from, least, most) -/
theorem t_Ow_addTypes (l : Launch) (E : zc_E) (G : zg_G) (ro : zRo) (o : zOt) (hO : zOR E G ro o) (hol : (oX o).length < 2000) (ta n0 : Nat) (f0 : Nat → Int32) (hta : G ta = some (.inl (E.2.1 1, n0, .inl f0))) (hrt : ro ta = (30, 0)) (hn0 : n0 < 2 ^ 24) (fr : Nat) (lo hi9 : Int32) (hfit : fr + (zfl o lo hi9 (oX o)).length ≤ n0) : zMi l E y_Ow_addTypes c_Ow_addTypes 9 (some .int) rm_Ow_addTypes [.ref (oA o), .ref ta, .int (nI fr), .int lo, .int hi9] G (fun (r : Int32) (G2 : zg_G) => ∃ f2, r = nI (fr + (zfl o lo hi9 (oX o)).length) ∧ G2 ta = some (.inl (E.2.1 1, n0, .inl f2)) ∧ zx (fun q => q = ta) G G2 ∧ zup f0 f2 fr (zfl o lo hi9 (oX o))) := by
  refine zMi.of (by decide) (Nat.le_of_ble_eq_true rfl) ?_
  intro p e s m args below meth c Q hZ hG hret ls hl
  obtain ⟨hx, hb, hr, hts, hown, hlocks, hml, hnm, hbase, hK, hN, hQ⟩ := hZ
  have hl : lv_has ls 9 [(0, .ref (oA o)), (1, .ref ta), (2, .int (nI fr)), (3, .int lo), (4, .int hi9)] := hl
  have hS : zg_S (zc_b E) s.heap s.heap [] := va_S.rf
  have hx0 : zx (fun q => q = ta) G G := zx.rf
  refine lv_iload_n hx hb d_Ow_addTypes_0 rfl (lv_at hl 2 rfl) ?_
  refine lv_istore (lv' := [(5, .int (nI fr)), (0, .ref (oA o)), (1, .ref ta), (2, .int (nI fr)), (3, .int lo), (4, .int hi9)]) hx hb d_Ow_addTypes_1 hl (by decide) rfl (fun ls hl => ?_)
  refine lv_iconst (v := 0) hx hb d_Ow_addTypes_3 (by decide) ?_
  refine zi_as (y := nI 0) (nI_0.symm) ?_
  refine lv_istore (lv' := [(6, .int (nI 0)), (5, .int (nI fr)), (0, .ref (oA o)), (1, .ref ta), (2, .int (nI fr)), (3, .int lo), (4, .int hi9)]) hx hb d_Ow_addTypes_4 hl (by decide) rfl (fun ls hl => ?_)
  have loop6 : ∀ (N : Nat) (Gv : zg_G) (i : Nat) (us : Nat) (f8 : Nat → Int32) (H : Heap) (locs : List Loc), ((oX o).length - i) < N → (i ≤ (oX o).length) → (us = fr + (zfl o lo hi9 ((oX o).take i)).length) → (zup f0 f8 fr (zfl o lo hi9 ((oX o).take i))) → (Gv ta = some (.inl (E.2.1 1, n0, .inl f8))) → (zx (fun q => q = ta) G Gv) → zP E Gv H → zg_S (zc_b E) s.heap H locs → ∀ (ls : Array Slot), lv_has ls 9 [(0, .ref (oA o)), (1, .ref ta), (2, .int (nI fr)), (3, .int lo), (4, .int hi9), (5, .int (nI us)), (6, .int (nI i))] → W p l e rm_Ow_addTypes s m args below meth c H locs 0 0 Q (F0 m 6 ls []) := by
    intro N
    induction N with
    | zero =>
      intro Gv i us f8 H locs hlt
      exact absurd hlt (Nat.not_lt_zero _)
    | succ N ih =>
      intro Gv i us f8 H locs hlt hi hus hup kk_ta hxl hG hS ls hl
      have hE8 : Gv (E.2.2.2 0) = none := hQ.out hG
      have hf8 : zfr ro (fun k => k = (30, 0)) G ro Gv := zfr.of (zk.of hxl (by rintro q e rfl _; exact hrt)) zro.rf (fun k z => z)
      have hO8 := hO.fr hf8 hE8 (by simp) (fun k z w => by rw [w] at z; rcases z with z | z | z; have := z.2; simp at this; simp at z; simp at z)
      obtain ⟨⟨⟨kl8, hal8⟩, -⟩, -⟩ := id hO8.2.2.2.1
      rw [List.length_map] at hal8
      have hle8 := zfl_le (o := o) (lo := lo) (hi := hi9) ((oX o).take i)
      rw [List.length_take] at hle8
      refine lv_iload hx hb d_Ow_addTypes_6 (lv_at hl 6 rfl) ?_
      refine lv_aload_n hx hb d_Ow_addTypes_8 rfl (lv_at hl 0 rfl) ?_
      refine zg_get (ci := 4) (C := "ZoneAnswers$Owner") (T := T_Ow) (N := 3) hx hb hts zi_Ow hown hK hG hO8.1 rfl 1 (by decide) (hts _ w_207) (fun _ h9 => h9) rfl d_Ow_addTypes_9 ?_
      refine zk_i (va_runV (As := []) (rest := [.int (nI i)]) ⟨hx, hb, hml, hown, hts⟩ (t_AL_size l E Gv (oL o) (.ref (oD o)) (nI ((oX o).length)) kl8 hal8) (zcV 0 hts w_606 w_160 w_161 w_6 w_162 (by decide +kernel) ⟨Nat.le_of_ble_eq_true rfl, Nat.le_of_ble_eq_true rfl⟩) (zc_preV hbase hK hN hQ hG hS hal8 rfl) rfl rfl hl.1 rfl (lv_room (Nat.le_of_ble_eq_true rfl)) d_Ow_addTypes_12 ⟨(by decide), (by decide)⟩) hS (fun r12 G12 H locs hp12 hG hS => ?_)
      have hG : zP E Gv H := hp12.2 ▸ hG
      refine zi_as (y := nI ((oX o).length)) hp12.1 ?_
      refine lv_icmp_ge (tgt := 95) hx hb d_Ow_addTypes_15 (by decide) (fun c15 => ?_) (fun c15 => ?_)
      · have b15 : ((oX o).length) ≤ i := (nI_leI (a := ((oX o).length)) (b := i) (by omega) (by omega)).mp c15
        refine lv_iload hx hb d_Ow_addTypes_95 (lv_at hl 5 rfl) ?_
        exact hret _ _ _ _ _ _ _ _ _ hr (rfl) (⟨f8, by rw [hus, show i = (oX o).length by omega, List.take_length], kk_ta, hxl, by rw [← List.take_length (l := oX o), ← show i = (oX o).length by omega]; exact hup⟩) hG hS (Nat.le_refl _) (Nat.le_refl _) d_Ow_addTypes_97
      · have b15 : ¬ ((oX o).length) ≤ i := fun q => c15 ((nI_leI (a := ((oX o).length)) (b := i) (by omega) (by omega)).mpr q)
        have hin : i < (oX o).length := by omega
        refine lv_aload_n hx hb d_Ow_addTypes_18 rfl (lv_at hl 0 rfl) ?_
        refine zg_get (ci := 4) (C := "ZoneAnswers$Owner") (T := T_Ow) (N := 3) hx hb hts zi_Ow hown hK hG hO8.1 rfl 1 (by decide) (hts _ w_207) (fun _ h9 => h9) rfl d_Ow_addTypes_19 ?_
        refine lv_iload hx hb d_Ow_addTypes_22 (lv_at hl 6 rfl) ?_
        have hGo24 := hG
        refine zk_q (va_runV (As := [.int (nI i)]) (rest := []) ⟨hx, hb, hml, hown, hts⟩ (t_AL_get_u l hO8.2.2.2.1.1 i (by rw [List.length_map]; exact hin)) (zcV 1 hts w_607 w_164 w_165 w_6 w_166 (by decide +kernel) ⟨Nat.le_of_ble_eq_true rfl, Nat.le_of_ble_eq_true rfl⟩) (zc_preV hbase hK hN hQ hG hS hal8 rfl) rfl rfl hl.1 rfl (lv_room (Nat.le_of_ble_eq_true rfl)) d_Ow_addTypes_24 ⟨(by decide), (by decide)⟩) hS (fun r24 G24 H locs hp24 hG hS => ?_)
        have hG : zP E Gv H := hp24.2 ▸ hG
        refine zr_some (a := sA (oS o i)) (hp24.1.trans (oS_m hin)) ?_
        have hSc8 := (hO8.2.2.2.2 _ (oS_mem hin)).1
        refine zg_castY hx hb hown (hts _ w_608) hK hG hSc8 rfl (zN.at hN (w := .castable "ZoneAnswers$Rrset" "ZoneAnswers$Rrset") (by decide +kernel)) d_Ow_addTypes_27 ?_
        refine zg_get (ci := 5) (C := "ZoneAnswers$Rrset") (T := T_Rr) (N := 3) hx hb hts zi_Rr hown hK hG hSc8 rfl 0 (by decide) (hts _ w_617) (fun _ h9 => h9) rfl d_Ow_addTypes_30 ?_
        refine lv_istore (lv' := [(7, .int (sT (oS o i))), (0, .ref (oA o)), (1, .ref ta), (2, .int (nI fr)), (3, .int lo), (4, .int hi9), (5, .int (nI us)), (6, .int (nI i))]) hx hb d_Ow_addTypes_33 hl (by decide) rfl (fun ls hl => ?_)
        refine lv_aload_n hx hb d_Ow_addTypes_35 rfl (lv_at hl 1 rfl) ?_
        refine zk_i (va_runV (As := []) (rest := []) ⟨hx, hb, hml, hown, hts⟩ (t_Ow_isCut l E Gv (oA o) (oN o) (oL o) (oC o) hO8.1) (zcV 0 hts w_1109 w_1110 w_1111 w_12 w_1112 (by decide +kernel) ⟨Nat.le_of_ble_eq_true rfl, Nat.le_of_ble_eq_true rfl⟩) (zc_preV hbase hK hN hQ hG hS hO8.1 rfl) rfl rfl hl.1 rfl (lv_room (Nat.le_of_ble_eq_true rfl)) d_Ow_addTypes_36 ⟨(by decide), (by decide)⟩) hS (fun r36 G36 H locs hp36 hG hS => ?_)
        have hG : zP E Gv H := hp36.2 ▸ hG
        refine lv_if_eq (tgt := 55) hx hb d_Ow_addTypes_39 (by decide) (fun c39 => ?_) (fun c39 => ?_)
        · have hcc : ¬ oC o = some (oA o) ∨ sT (oS o i) = 2 ∨ sT (oS o i) = 43 := Or.inl (hp36.1.z c39)
          refine lv_iconst (v := 1) hx hb d_Ow_addTypes_55 (by decide) ?_
          refine lv_goto (tgt := 60) hx hb d_Ow_addTypes_56 (by decide) ?_
          refine lv_istore (lv' := [(8, .int 1), (7, .int (sT (oS o i))), (0, .ref (oA o)), (1, .ref ta), (2, .int (nI fr)), (3, .int lo), (4, .int hi9), (5, .int (nI us)), (6, .int (nI i))]) hx hb d_Ow_addTypes_60 hl (by decide) rfl (fun ls hl => ?_)
          refine lv_iload hx hb d_Ow_addTypes_62 (lv_at hl 0 rfl) ?_
          refine lv_if_eq (tgt := 89) hx hb d_Ow_addTypes_64 (by decide) (fun c64 => ?_) (fun c64 => ?_)
          · have b64 : 1 = 0 := (nI_eq (a := 1) (b := 0) (by omega) (by omega)).mp c64
            exact absurd b64 (by decide)
          · have b64 : ¬ 1 = 0 := fun q => c64 ((nI_eq (a := 1) (b := 0) (by omega) (by omega)).mpr q)
            refine lv_iload hx hb d_Ow_addTypes_67 (lv_at hl 1 rfl) ?_
            refine lv_iload_n hx hb d_Ow_addTypes_69 rfl (lv_at hl 5 rfl) ?_
            refine lv_icmp_lt (tgt := 89) hx hb d_Ow_addTypes_70 (by decide) (fun c70 => ?_) (fun c70 => ?_)
            · refine lv_iinc (v := nI (i + 1)) (lv' := [(6, .int (nI (i + 1))), (8, .int 1), (7, .int (sT (oS o i))), (0, .ref (oA o)), (1, .ref ta), (2, .int (nI fr)), (3, .int lo), (4, .int hi9), (5, .int (nI us))]) hx hb d_Ow_addTypes_89 hl (k := 8) rfl (nI_add i 1) (by decide) rfl (fun ls hl => ?_)
              refine lv_goto (tgt := 6) hx hb d_Ow_addTypes_92 (by decide) ?_
              have hnx : zfl o lo hi9 ((oX o).take (i + 1)) = zfl o lo hi9 ((oX o).take i) := zfl_n hin (zfbF (by first | exact Or.inl hcd | exact Or.inr (Or.inl c70) | exact Or.inr (Or.inr c77)))
              exact ih Gv (i + 1) us f8 _ _ (by omega) (by omega) (by rw [hnx]; exact hus) (by rw [hnx]; exact hup) (kk_ta) (hxl) hG hS ls (lv_sub hl [3, 4, 5, 6, 7, 8, 0] rfl)
            · refine lv_iload hx hb d_Ow_addTypes_73 (lv_at hl 1 rfl) ?_
              refine lv_iload hx hb d_Ow_addTypes_75 (lv_at hl 6 rfl) ?_
              refine lv_icmp_gt (tgt := 89) hx hb d_Ow_addTypes_77 (by decide) (fun c77 => ?_) (fun c77 => ?_)
              · refine lv_iinc (v := nI (i + 1)) (lv' := [(6, .int (nI (i + 1))), (8, .int 1), (7, .int (sT (oS o i))), (0, .ref (oA o)), (1, .ref ta), (2, .int (nI fr)), (3, .int lo), (4, .int hi9), (5, .int (nI us))]) hx hb d_Ow_addTypes_89 hl (k := 8) rfl (nI_add i 1) (by decide) rfl (fun ls hl => ?_)
                refine lv_goto (tgt := 6) hx hb d_Ow_addTypes_92 (by decide) ?_
                have hnx : zfl o lo hi9 ((oX o).take (i + 1)) = zfl o lo hi9 ((oX o).take i) := zfl_n hin (zfbF (by first | exact Or.inl hcd | exact Or.inr (Or.inl c70) | exact Or.inr (Or.inr c77)))
                exact ih Gv (i + 1) us f8 _ _ (by omega) (by omega) (by rw [hnx]; exact hus) (by rw [hnx]; exact hup) (kk_ta) (hxl) hG hS ls (lv_sub hl [3, 4, 5, 6, 7, 8, 0] rfl)
              · have hlt9 : (zfl o lo hi9 ((oX o).take i)).length < (zfl o lo hi9 (oX o)).length := zfl_lt hin (zfbT hcc c70 c77)
                refine lv_aload_n hx hb d_Ow_addTypes_80 rfl (lv_at hl 3 rfl) ?_
                refine lv_iload hx hb d_Ow_addTypes_81 (lv_at hl 7 rfl) ?_
                refine lv_iload hx hb d_Ow_addTypes_83 (lv_at hl 1 rfl) ?_
                refine zg_iast hx hb hK hG hS 1 kk_ta rfl (vp_in_nI (by omega) (by omega)) d_Ow_addTypes_85 (fun H locs hG hS => ?_)
                rw [zi_n us (by omega)] at hG
                obtain ⟨G1, eG1⟩ : ∃ z : zg_G, z = zg_up Gv ta (.inl (E.2.1 1, n0, .inl (upd f8 us (sT (oS o i))))) := ⟨_, rfl⟩
                have hG : zP E G1 H := by rw [eG1]; exact hG
                have hx2 : zx (fun q => q = ta) G G1 := hxl.tr (by rw [eG1]; exact zx.up (rfl))
                have k3 : G1 ta = some (.inl (E.2.1 1, n0, .inl (upd f8 us (sT (oS o i))))) := by rw [eG1]; exact zg_up_self _ _ _
                refine lv_iinc (v := nI (us + 1)) (lv' := [(5, .int (nI (us + 1))), (8, .int 1), (7, .int (sT (oS o i))), (0, .ref (oA o)), (1, .ref ta), (2, .int (nI fr)), (3, .int lo), (4, .int hi9), (6, .int (nI i))]) hx hb d_Ow_addTypes_86 hl (k := 7) rfl (nI_add us 1) (by decide) rfl (fun ls hl => ?_)
                refine lv_iinc (v := nI (i + 1)) (lv' := [(6, .int (nI (i + 1))), (5, .int (nI (us + 1))), (8, .int 1), (7, .int (sT (oS o i))), (0, .ref (oA o)), (1, .ref ta), (2, .int (nI fr)), (3, .int lo), (4, .int hi9)]) hx hb d_Ow_addTypes_89 hl (k := 8) rfl (nI_add i 1) (by decide) rfl (fun ls hl => ?_)
                refine lv_goto (tgt := 6) hx hb d_Ow_addTypes_92 (by decide) ?_
                have hnx : zfl o lo hi9 ((oX o).take (i + 1)) = zfl o lo hi9 ((oX o).take i) ++ [sT (oS o i)] := zfl_y hin (zfbT hcc c70 c77)
                have hnl : (zfl o lo hi9 ((oX o).take i) ++ [sT (oS o i)]).length = (zfl o lo hi9 ((oX o).take i)).length + 1 := List.length_append
                exact ih G1 (i + 1) (us + 1) (upd f8 us (sT (oS o i))) _ _ (by omega) (by omega) (by rw [hnx, hnl]; omega) (by rw [hnx, hus]; exact zup_s hup) (k3) (hx2) hG hS ls (lv_sub hl [4, 5, 6, 7, 8, 1, 0] rfl)
        · refine lv_iload hx hb d_Ow_addTypes_42 (lv_at hl 0 rfl) ?_
          refine lv_iconst (v := 2) hx hb d_Ow_addTypes_44 (by decide) ?_
          refine lv_icmp_eq (tgt := 55) hx hb d_Ow_addTypes_45 (by decide) (fun c45 => ?_) (fun c45 => ?_)
          · have hcc : ¬ oC o = some (oA o) ∨ sT (oS o i) = 2 ∨ sT (oS o i) = 43 := Or.inr (Or.inl c45)
            refine lv_iconst (v := 1) hx hb d_Ow_addTypes_55 (by decide) ?_
            refine lv_goto (tgt := 60) hx hb d_Ow_addTypes_56 (by decide) ?_
            refine lv_istore (lv' := [(8, .int 1), (7, .int (sT (oS o i))), (0, .ref (oA o)), (1, .ref ta), (2, .int (nI fr)), (3, .int lo), (4, .int hi9), (5, .int (nI us)), (6, .int (nI i))]) hx hb d_Ow_addTypes_60 hl (by decide) rfl (fun ls hl => ?_)
            refine lv_iload hx hb d_Ow_addTypes_62 (lv_at hl 0 rfl) ?_
            refine lv_if_eq (tgt := 89) hx hb d_Ow_addTypes_64 (by decide) (fun c64 => ?_) (fun c64 => ?_)
            · have b64 : 1 = 0 := (nI_eq (a := 1) (b := 0) (by omega) (by omega)).mp c64
              exact absurd b64 (by decide)
            · have b64 : ¬ 1 = 0 := fun q => c64 ((nI_eq (a := 1) (b := 0) (by omega) (by omega)).mpr q)
              refine lv_iload hx hb d_Ow_addTypes_67 (lv_at hl 1 rfl) ?_
              refine lv_iload_n hx hb d_Ow_addTypes_69 rfl (lv_at hl 5 rfl) ?_
              refine lv_icmp_lt (tgt := 89) hx hb d_Ow_addTypes_70 (by decide) (fun c70 => ?_) (fun c70 => ?_)
              · refine lv_iinc (v := nI (i + 1)) (lv' := [(6, .int (nI (i + 1))), (8, .int 1), (7, .int (sT (oS o i))), (0, .ref (oA o)), (1, .ref ta), (2, .int (nI fr)), (3, .int lo), (4, .int hi9), (5, .int (nI us))]) hx hb d_Ow_addTypes_89 hl (k := 8) rfl (nI_add i 1) (by decide) rfl (fun ls hl => ?_)
                refine lv_goto (tgt := 6) hx hb d_Ow_addTypes_92 (by decide) ?_
                have hnx : zfl o lo hi9 ((oX o).take (i + 1)) = zfl o lo hi9 ((oX o).take i) := zfl_n hin (zfbF (by first | exact Or.inl hcd | exact Or.inr (Or.inl c70) | exact Or.inr (Or.inr c77)))
                exact ih Gv (i + 1) us f8 _ _ (by omega) (by omega) (by rw [hnx]; exact hus) (by rw [hnx]; exact hup) (kk_ta) (hxl) hG hS ls (lv_sub hl [3, 4, 5, 6, 7, 8, 0] rfl)
              · refine lv_iload hx hb d_Ow_addTypes_73 (lv_at hl 1 rfl) ?_
                refine lv_iload hx hb d_Ow_addTypes_75 (lv_at hl 6 rfl) ?_
                refine lv_icmp_gt (tgt := 89) hx hb d_Ow_addTypes_77 (by decide) (fun c77 => ?_) (fun c77 => ?_)
                · refine lv_iinc (v := nI (i + 1)) (lv' := [(6, .int (nI (i + 1))), (8, .int 1), (7, .int (sT (oS o i))), (0, .ref (oA o)), (1, .ref ta), (2, .int (nI fr)), (3, .int lo), (4, .int hi9), (5, .int (nI us))]) hx hb d_Ow_addTypes_89 hl (k := 8) rfl (nI_add i 1) (by decide) rfl (fun ls hl => ?_)
                  refine lv_goto (tgt := 6) hx hb d_Ow_addTypes_92 (by decide) ?_
                  have hnx : zfl o lo hi9 ((oX o).take (i + 1)) = zfl o lo hi9 ((oX o).take i) := zfl_n hin (zfbF (by first | exact Or.inl hcd | exact Or.inr (Or.inl c70) | exact Or.inr (Or.inr c77)))
                  exact ih Gv (i + 1) us f8 _ _ (by omega) (by omega) (by rw [hnx]; exact hus) (by rw [hnx]; exact hup) (kk_ta) (hxl) hG hS ls (lv_sub hl [3, 4, 5, 6, 7, 8, 0] rfl)
                · have hlt9 : (zfl o lo hi9 ((oX o).take i)).length < (zfl o lo hi9 (oX o)).length := zfl_lt hin (zfbT hcc c70 c77)
                  refine lv_aload_n hx hb d_Ow_addTypes_80 rfl (lv_at hl 3 rfl) ?_
                  refine lv_iload hx hb d_Ow_addTypes_81 (lv_at hl 7 rfl) ?_
                  refine lv_iload hx hb d_Ow_addTypes_83 (lv_at hl 1 rfl) ?_
                  refine zg_iast hx hb hK hG hS 1 kk_ta rfl (vp_in_nI (by omega) (by omega)) d_Ow_addTypes_85 (fun H locs hG hS => ?_)
                  rw [zi_n us (by omega)] at hG
                  obtain ⟨G4, eG4⟩ : ∃ z : zg_G, z = zg_up Gv ta (.inl (E.2.1 1, n0, .inl (upd f8 us (sT (oS o i))))) := ⟨_, rfl⟩
                  have hG : zP E G4 H := by rw [eG4]; exact hG
                  have hx5 : zx (fun q => q = ta) G G4 := hxl.tr (by rw [eG4]; exact zx.up (rfl))
                  have k6 : G4 ta = some (.inl (E.2.1 1, n0, .inl (upd f8 us (sT (oS o i))))) := by rw [eG4]; exact zg_up_self _ _ _
                  refine lv_iinc (v := nI (us + 1)) (lv' := [(5, .int (nI (us + 1))), (8, .int 1), (7, .int (sT (oS o i))), (0, .ref (oA o)), (1, .ref ta), (2, .int (nI fr)), (3, .int lo), (4, .int hi9), (6, .int (nI i))]) hx hb d_Ow_addTypes_86 hl (k := 7) rfl (nI_add us 1) (by decide) rfl (fun ls hl => ?_)
                  refine lv_iinc (v := nI (i + 1)) (lv' := [(6, .int (nI (i + 1))), (5, .int (nI (us + 1))), (8, .int 1), (7, .int (sT (oS o i))), (0, .ref (oA o)), (1, .ref ta), (2, .int (nI fr)), (3, .int lo), (4, .int hi9)]) hx hb d_Ow_addTypes_89 hl (k := 8) rfl (nI_add i 1) (by decide) rfl (fun ls hl => ?_)
                  refine lv_goto (tgt := 6) hx hb d_Ow_addTypes_92 (by decide) ?_
                  have hnx : zfl o lo hi9 ((oX o).take (i + 1)) = zfl o lo hi9 ((oX o).take i) ++ [sT (oS o i)] := zfl_y hin (zfbT hcc c70 c77)
                  have hnl : (zfl o lo hi9 ((oX o).take i) ++ [sT (oS o i)]).length = (zfl o lo hi9 ((oX o).take i)).length + 1 := List.length_append
                  exact ih G4 (i + 1) (us + 1) (upd f8 us (sT (oS o i))) _ _ (by omega) (by omega) (by rw [hnx, hnl]; omega) (by rw [hnx, hus]; exact zup_s hup) (k6) (hx5) hG hS ls (lv_sub hl [4, 5, 6, 7, 8, 1, 0] rfl)
          · refine lv_iload hx hb d_Ow_addTypes_48 (lv_at hl 0 rfl) ?_
            refine lv_bipush (v := 43) hx hb d_Ow_addTypes_50 (by decide) ?_
            refine lv_icmp_ne (tgt := 59) hx hb d_Ow_addTypes_52 (by decide) (fun c52 => ?_) (fun c52 => ?_)
            · have hcd : oC o = some (oA o) ∧ ¬ sT (oS o i) = 2 ∧ ¬ sT (oS o i) = 43 := ⟨hp36.1.nz c39, c45, c52⟩
              refine lv_iconst (v := 0) hx hb d_Ow_addTypes_59 (by decide) ?_
              refine lv_istore (lv' := [(8, .int 0), (7, .int (sT (oS o i))), (0, .ref (oA o)), (1, .ref ta), (2, .int (nI fr)), (3, .int lo), (4, .int hi9), (5, .int (nI us)), (6, .int (nI i))]) hx hb d_Ow_addTypes_60 hl (by decide) rfl (fun ls hl => ?_)
              refine lv_iload hx hb d_Ow_addTypes_62 (lv_at hl 0 rfl) ?_
              refine lv_if_eq (tgt := 89) hx hb d_Ow_addTypes_64 (by decide) (fun c64 => ?_) (fun c64 => ?_)
              · have b64 : 0 = 0 := (nI_eq (a := 0) (b := 0) (by omega) (by omega)).mp c64
                refine lv_iinc (v := nI (i + 1)) (lv' := [(6, .int (nI (i + 1))), (8, .int 0), (7, .int (sT (oS o i))), (0, .ref (oA o)), (1, .ref ta), (2, .int (nI fr)), (3, .int lo), (4, .int hi9), (5, .int (nI us))]) hx hb d_Ow_addTypes_89 hl (k := 8) rfl (nI_add i 1) (by decide) rfl (fun ls hl => ?_)
                refine lv_goto (tgt := 6) hx hb d_Ow_addTypes_92 (by decide) ?_
                have hnx : zfl o lo hi9 ((oX o).take (i + 1)) = zfl o lo hi9 ((oX o).take i) := zfl_n hin (zfbF (by first | exact Or.inl hcd | exact Or.inr (Or.inl c70) | exact Or.inr (Or.inr c77)))
                exact ih Gv (i + 1) us f8 _ _ (by omega) (by omega) (by rw [hnx]; exact hus) (by rw [hnx]; exact hup) (kk_ta) (hxl) hG hS ls (lv_sub hl [3, 4, 5, 6, 7, 8, 0] rfl)
              · have b64 : ¬ 0 = 0 := fun q => c64 ((nI_eq (a := 0) (b := 0) (by omega) (by omega)).mpr q)
                exact absurd rfl b64
            · have hcc : ¬ oC o = some (oA o) ∨ sT (oS o i) = 2 ∨ sT (oS o i) = 43 := Or.inr (Or.inr c52)
              refine lv_iconst (v := 1) hx hb d_Ow_addTypes_55 (by decide) ?_
              refine lv_goto (tgt := 60) hx hb d_Ow_addTypes_56 (by decide) ?_
              refine lv_istore (lv' := [(8, .int 1), (7, .int (sT (oS o i))), (0, .ref (oA o)), (1, .ref ta), (2, .int (nI fr)), (3, .int lo), (4, .int hi9), (5, .int (nI us)), (6, .int (nI i))]) hx hb d_Ow_addTypes_60 hl (by decide) rfl (fun ls hl => ?_)
              refine lv_iload hx hb d_Ow_addTypes_62 (lv_at hl 0 rfl) ?_
              refine lv_if_eq (tgt := 89) hx hb d_Ow_addTypes_64 (by decide) (fun c64 => ?_) (fun c64 => ?_)
              · have b64 : 1 = 0 := (nI_eq (a := 1) (b := 0) (by omega) (by omega)).mp c64
                exact absurd b64 (by decide)
              · have b64 : ¬ 1 = 0 := fun q => c64 ((nI_eq (a := 1) (b := 0) (by omega) (by omega)).mpr q)
                refine lv_iload hx hb d_Ow_addTypes_67 (lv_at hl 1 rfl) ?_
                refine lv_iload_n hx hb d_Ow_addTypes_69 rfl (lv_at hl 5 rfl) ?_
                refine lv_icmp_lt (tgt := 89) hx hb d_Ow_addTypes_70 (by decide) (fun c70 => ?_) (fun c70 => ?_)
                · refine lv_iinc (v := nI (i + 1)) (lv' := [(6, .int (nI (i + 1))), (8, .int 1), (7, .int (sT (oS o i))), (0, .ref (oA o)), (1, .ref ta), (2, .int (nI fr)), (3, .int lo), (4, .int hi9), (5, .int (nI us))]) hx hb d_Ow_addTypes_89 hl (k := 8) rfl (nI_add i 1) (by decide) rfl (fun ls hl => ?_)
                  refine lv_goto (tgt := 6) hx hb d_Ow_addTypes_92 (by decide) ?_
                  have hnx : zfl o lo hi9 ((oX o).take (i + 1)) = zfl o lo hi9 ((oX o).take i) := zfl_n hin (zfbF (by first | exact Or.inl hcd | exact Or.inr (Or.inl c70) | exact Or.inr (Or.inr c77)))
                  exact ih Gv (i + 1) us f8 _ _ (by omega) (by omega) (by rw [hnx]; exact hus) (by rw [hnx]; exact hup) (kk_ta) (hxl) hG hS ls (lv_sub hl [3, 4, 5, 6, 7, 8, 0] rfl)
                · refine lv_iload hx hb d_Ow_addTypes_73 (lv_at hl 1 rfl) ?_
                  refine lv_iload hx hb d_Ow_addTypes_75 (lv_at hl 6 rfl) ?_
                  refine lv_icmp_gt (tgt := 89) hx hb d_Ow_addTypes_77 (by decide) (fun c77 => ?_) (fun c77 => ?_)
                  · refine lv_iinc (v := nI (i + 1)) (lv' := [(6, .int (nI (i + 1))), (8, .int 1), (7, .int (sT (oS o i))), (0, .ref (oA o)), (1, .ref ta), (2, .int (nI fr)), (3, .int lo), (4, .int hi9), (5, .int (nI us))]) hx hb d_Ow_addTypes_89 hl (k := 8) rfl (nI_add i 1) (by decide) rfl (fun ls hl => ?_)
                    refine lv_goto (tgt := 6) hx hb d_Ow_addTypes_92 (by decide) ?_
                    have hnx : zfl o lo hi9 ((oX o).take (i + 1)) = zfl o lo hi9 ((oX o).take i) := zfl_n hin (zfbF (by first | exact Or.inl hcd | exact Or.inr (Or.inl c70) | exact Or.inr (Or.inr c77)))
                    exact ih Gv (i + 1) us f8 _ _ (by omega) (by omega) (by rw [hnx]; exact hus) (by rw [hnx]; exact hup) (kk_ta) (hxl) hG hS ls (lv_sub hl [3, 4, 5, 6, 7, 8, 0] rfl)
                  · have hlt9 : (zfl o lo hi9 ((oX o).take i)).length < (zfl o lo hi9 (oX o)).length := zfl_lt hin (zfbT hcc c70 c77)
                    refine lv_aload_n hx hb d_Ow_addTypes_80 rfl (lv_at hl 3 rfl) ?_
                    refine lv_iload hx hb d_Ow_addTypes_81 (lv_at hl 7 rfl) ?_
                    refine lv_iload hx hb d_Ow_addTypes_83 (lv_at hl 1 rfl) ?_
                    refine zg_iast hx hb hK hG hS 1 kk_ta rfl (vp_in_nI (by omega) (by omega)) d_Ow_addTypes_85 (fun H locs hG hS => ?_)
                    rw [zi_n us (by omega)] at hG
                    obtain ⟨G7, eG7⟩ : ∃ z : zg_G, z = zg_up Gv ta (.inl (E.2.1 1, n0, .inl (upd f8 us (sT (oS o i))))) := ⟨_, rfl⟩
                    have hG : zP E G7 H := by rw [eG7]; exact hG
                    have hx8 : zx (fun q => q = ta) G G7 := hxl.tr (by rw [eG7]; exact zx.up (rfl))
                    have k9 : G7 ta = some (.inl (E.2.1 1, n0, .inl (upd f8 us (sT (oS o i))))) := by rw [eG7]; exact zg_up_self _ _ _
                    refine lv_iinc (v := nI (us + 1)) (lv' := [(5, .int (nI (us + 1))), (8, .int 1), (7, .int (sT (oS o i))), (0, .ref (oA o)), (1, .ref ta), (2, .int (nI fr)), (3, .int lo), (4, .int hi9), (6, .int (nI i))]) hx hb d_Ow_addTypes_86 hl (k := 7) rfl (nI_add us 1) (by decide) rfl (fun ls hl => ?_)
                    refine lv_iinc (v := nI (i + 1)) (lv' := [(6, .int (nI (i + 1))), (5, .int (nI (us + 1))), (8, .int 1), (7, .int (sT (oS o i))), (0, .ref (oA o)), (1, .ref ta), (2, .int (nI fr)), (3, .int lo), (4, .int hi9)]) hx hb d_Ow_addTypes_89 hl (k := 8) rfl (nI_add i 1) (by decide) rfl (fun ls hl => ?_)
                    refine lv_goto (tgt := 6) hx hb d_Ow_addTypes_92 (by decide) ?_
                    have hnx : zfl o lo hi9 ((oX o).take (i + 1)) = zfl o lo hi9 ((oX o).take i) ++ [sT (oS o i)] := zfl_y hin (zfbT hcc c70 c77)
                    have hnl : (zfl o lo hi9 ((oX o).take i) ++ [sT (oS o i)]).length = (zfl o lo hi9 ((oX o).take i)).length + 1 := List.length_append
                    exact ih G7 (i + 1) (us + 1) (upd f8 us (sT (oS o i))) _ _ (by omega) (by omega) (by rw [hnx, hnl]; omega) (by rw [hnx, hus]; exact zup_s hup) (k9) (hx8) hG hS ls (lv_sub hl [4, 5, 6, 7, 8, 1, 0] rfl)
  exact loop6 _ G 0 fr f0 _ _ (Nat.lt_succ_self _) (Nat.zero_le _) (rfl) (zup_0 _ _) (hta) (hx0) hG hS ls (lv_sub hl [2, 3, 4, 5, 6, 1, 0] rfl)
abbrev rm_Ar_copyOf_4 (m1 : Nat) : Room := { frames := 1, cells := 1, slots := m1, locals := 40 }
set_option maxHeartbeats 4000000 in
set_option maxRecDepth 100000 in
/-- Arrays.copyOf(int[], int), no longer -/
theorem t_Ar_copyOf_4 (l : Launch) (E : zc_E) (G : zg_G) (b0 n0 : Nat) (f0 : Nat → Int32) (h0 : G b0 = some (.inl (E.2.1 1, n0, .inl f0))) (hn0 : n0 < 2 ^ 24) (m1 : Nat) (hm : m1 ≤ n0) : zMq l E y_Ar_copyOf_4 c_Ar_copyOf_4 3 (some (.array .int)) (rm_Ar_copyOf_4 m1) [.ref b0, .int (nI m1)] G (fun (r : Option Nat) (G2 : zg_G) => ∃ q f2, r = some q ∧ G q = none ∧ zx z0 G G2 ∧ G2 q = some (.inl (E.2.1 1, m1, .inl f2)) ∧ ∀ j, j < m1 → f2 j = f0 j) := by
  refine zMq.of (by decide) (Nat.le_of_ble_eq_true rfl) ?_
  intro p e s m args below meth c Q hZ hG hret ls hl
  obtain ⟨hx, hb, hr, hts, hown, hlocks, hml, hnm, hbase, hK, hN, hQ⟩ := hZ
  have hl : lv_has ls 3 [(0, .ref b0), (1, .int (nI m1))] := hl
  have hS : zg_S (zc_b E) s.heap s.heap [] := va_S.rf
  have hx0 : zx z0 G G := zx.rf
  refine lv_iload_n hx hb d_Ar_copyOf_4_0 rfl (lv_at hl 1 rfl) ?_
  refine lv_aload_n hx hb d_Ar_copyOf_4_1 rfl (lv_at hl 0 rfl) ?_
  refine zg_alen hx hb hK hG 1 h0 rfl (v := nI n0) rfl d_Ar_copyOf_4_2 ?_
  refine lv_icmp_ne (tgt := 14) hx hb d_Ar_copyOf_4_3 (by decide) (fun c3 => ?_) (fun c3 => ?_)
  · have b3 : ¬ m1 = n0 := fun q => c3 ((nI_eq (a := m1) (b := n0) (by omega) (by omega)).mpr q)
    refine lv_iload_n hx hb d_Ar_copyOf_4_14 rfl (lv_at hl 1 rfl) ?_
    refine zg_newp (atype := .int) (ty := .int) (N' := m1) (a0 := (m1, .inl (fun _ => 0))) hx hb (hts _ w_1196) rfl hK hG hS hbase (fun _ => rfl) (nI_pos (by omega)) (zi_n _ (by omega)) (by show _ * _ ≤ _; simp only [componentBytes]; omega) (by dsimp only; omega) (by dsimp only; omega) d_Ar_copyOf_4_15 1 rfl (fun _ h => h) (fun q15 H n15 hG hS => ?_)
    obtain ⟨G1, eG1⟩ : ∃ z : zg_G, z = zg_up G q15 (.inl (E.2.1 1, m1, .inl (fun _ => 0))) := ⟨_, rfl⟩
    have hG : zP E G1 H := by rw [eG1]; exact hG
    have hx2 : zx z0 G G1 := hx0.tr (by rw [eG1]; exact zx.nw n15)
    have ne15_b0 : b0 ≠ q15 := zg_fr n15 h0
    have k3 : G1 b0 = some (.inl (E.2.1 1, n0, .inl f0)) := by rw [eG1, zg_up_ne (zg_fr n15 h0)]; exact h0
    have k4 : G1 q15 = some (.inl (E.2.1 1, m1, .inl (fun _ => 0))) := by rw [eG1]; exact zg_up_self _ _ _
    refine lv_astore_n (lv' := [(2, .ref q15), (0, .ref b0), (1, .int (nI m1))]) hx hb d_Ar_copyOf_4_17 rfl hl (by decide) rfl (fun ls hl => ?_)
    refine lv_aload_n hx hb d_Ar_copyOf_4_18 rfl (lv_at hl 1 rfl) ?_
    refine lv_iconst (v := 0) hx hb d_Ar_copyOf_4_19 (by decide) ?_
    refine lv_aload_n hx hb d_Ar_copyOf_4_20 rfl (lv_at hl 0 rfl) ?_
    refine lv_iconst (v := 0) hx hb d_Ar_copyOf_4_21 (by decide) ?_
    refine lv_aload_n hx hb d_Ar_copyOf_4_22 rfl (lv_at hl 1 rfl) ?_
    refine zg_alen hx hb hK hG 1 k3 rfl (v := nI n0) rfl d_Ar_copyOf_4_23 ?_
    refine lv_iload_n hx hb d_Ar_copyOf_4_24 rfl (lv_at hl 2 rfl) ?_
    refine va_mmin hx hb (hml.trans hl.1.symm) hown (hts _ w_347) (hts _ w_183) (hts _ w_11) (hts _ w_184) (Nat.le_of_ble_eq_true rfl) (Nat.le_of_ble_eq_true rfl) (by dsimp only; omega) (by dsimp only; omega) d_Ar_copyOf_4_25 ?_
    refine zi_as (y := nI m1) (by rw [zi_min (by omega) (by omega), Nat.min_eq_right (by omega)]) ?_
    refine zg_copyi hx hb (hml.trans hl.1.symm) hown (hts _ w_348) (hts _ w_350) (hts _ w_349) (hts _ w_23) hK hG hS 1 1 k3 k4 rfl rfl rfl (by decide) (by decide) (nI_pos (by omega)) (by rw [show Int32.toNatClampNeg 0 = 0 from by decide, zi_n m1 (by omega)]; omega) (by rw [show Int32.toNatClampNeg 0 = 0 from by decide, zi_n m1 (by omega)]; omega) (by rw [show Int32.toNatClampNeg 0 = 0 from by decide, zi_n m1 (by omega)]; exact fun i hi => rfl) (Nat.le_of_ble_eq_true rfl) (by show _ ≤ (40 : Nat); decide) d_Ar_copyOf_4_28 (fun H locs hG hS => ?_)
    rw [show Int32.toNatClampNeg 0 = 0 from by decide, zi_n m1 (by omega)] at hG
    obtain ⟨G5, eG5⟩ : ∃ z : zg_G, z = zg_up G1 q15 (.inl (E.2.1 1, m1, .inl (va_cpy f0 (fun _ => 0) 0 0 m1))) := ⟨_, rfl⟩
    have hG : zP E G5 H := by rw [eG5]; exact hG
    have hx6 : zx z0 G G5 := by rw [eG5]; exact hx2.upn n15
    have k7 : G5 b0 = some (.inl (E.2.1 1, n0, .inl f0)) := by rw [eG5, zg_up_ne (ne15_b0)]; exact k3
    have k8 : G5 q15 = some (.inl (E.2.1 1, m1, .inl (va_cpy f0 (fun _ => 0) 0 0 m1))) := by rw [eG5]; exact zg_up_self _ _ _
    refine lv_aload_n hx hb d_Ar_copyOf_4_31 rfl (lv_at hl 0 rfl) ?_
    exact hret (some q15) _ _ _ _ _ _ _ _ hr (Or.inr ⟨_, rfl⟩) (⟨q15, _, rfl, n15, hx6, k8, fun j hj => by rw [zf_cp j hj, Nat.zero_add]⟩) hG hS (by dsimp only; omega) (by dsimp only; omega) d_Ar_copyOf_4_32
  · have b3 : m1 = n0 := (nI_eq (a := m1) (b := n0) (by omega) (by omega)).mp c3
    refine lv_aload_n hx hb d_Ar_copyOf_4_6 rfl (lv_at hl 0 rfl) ?_
    refine zg_clone (ad := "[I") hx hb (hml.trans hl.1.symm) hown (hts _ w_1117) (hts _ w_1118) (hts _ w_342) (hts _ w_343) (hts _ w_1119) (zN.at hN (w := .castable "[I" "java/lang/Cloneable") (by decide +kernel)) hK hG hS hbase 1 h0 rfl hQ.2.2.2.2.2.2.2.1 (zf_fitI) (Nat.le_of_ble_eq_true rfl) (Nat.le_of_ble_eq_true rfl) (by dsimp only; omega) (by dsimp only; omega) d_Ar_copyOf_4_7 (fun q7 H n7 hG hS => ?_)
    obtain ⟨G9, eG9⟩ : ∃ z : zg_G, z = zg_up G q7 (.inl (E.2.1 1, n0, .inl f0)) := ⟨_, rfl⟩
    have hG : zP E G9 H := by rw [eG9]; exact hG
    have hx10 : zx z0 G G9 := hx0.tr (by rw [eG9]; exact zx.nw n7)
    have ne7_b0 : b0 ≠ q7 := zg_fr n7 h0
    have k11 : G9 b0 = some (.inl (E.2.1 1, n0, .inl f0)) := by rw [eG9, zg_up_ne (zg_fr n7 h0)]; exact h0
    have k12 : G9 q7 = some (.inl (E.2.1 1, n0, .inl f0)) := by rw [eG9]; exact zg_up_self _ _ _
    refine zg_castA hx hb hown (hts _ w_1121) hG k12 hQ.2.2.2.2.2.2.2.1 d_Ar_copyOf_4_10 ?_
    exact hret (some q7) _ _ _ _ _ _ _ _ hr (Or.inr ⟨_, rfl⟩) (⟨q7, f0, rfl, n7, hx10, by rw [show m1 = n0 by omega]; exact k12, fun j hj => rfl⟩) hG hS (by dsimp only; omega) (by dsimp only; omega) d_Ar_copyOf_4_13
