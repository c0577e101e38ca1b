theorem w_1395 : (.methodLink "ZoneAnswersModel$Names" 21 ⟨"ZoneAnswersModel$Names", "below", "([B[BI)Z"⟩ : Cond) ∈ zw := zw_at 1395 (by decide +kernel) (by decide +kernel)
theorem w_1396 : (.static ⟨"ZoneAnswersModel$Names", "below", "([B[BI)Z"⟩ : Cond) ∈ zw := zw_at 1396 (by decide +kernel) (by decide +kernel)
theorem w_1397 : (.code ⟨"ZoneAnswersModel$Names", "below", "([B[BI)Z"⟩ prog_13_method_9_code 4 (some .boolean) : Cond) ∈ zw := zw_at 1397 (by decide +kernel) (by decide +kernel)
theorem w_1398 : (.methodLink "ZoneAnswersModel$Names" 17 ⟨"ZoneAnswersModel$Names", "ends", "([BI[BI)Z"⟩ : Cond) ∈ zw := zw_at 1398 (by decide +kernel) (by decide +kernel)
theorem w_1399 : (.static ⟨"ZoneAnswersModel$Names", "ends", "([BI[BI)Z"⟩ : Cond) ∈ zw := zw_at 1399 (by decide +kernel) (by decide +kernel)
theorem w_1400 : (.code ⟨"ZoneAnswersModel$Names", "ends", "([BI[BI)Z"⟩ prog_13_method_8_code 6 (some .boolean) : Cond) ∈ zw := zw_at 1400 (by decide +kernel) (by decide +kernel)
abbrev c_Ns_below_2 : ByteArray := prog_13_method_9_code
abbrev y_Ns_below_2 : MethodName := ⟨"ZoneAnswersModel$Names", "below", "([B[BI)Z"⟩
theorem d_Ns_below_2_0 : decode c_Ns_below_2 0 = .ok (.iconst 0, 1) := by decide +kernel
theorem d_Ns_below_2_1 : decode c_Ns_below_2 1 = .ok (.istore_n 3, 1) := by decide +kernel
theorem d_Ns_below_2_2 : decode c_Ns_below_2 2 = .ok (.aload_n 0, 1) := by decide +kernel
theorem d_Ns_below_2_3 : decode c_Ns_below_2 3 = .ok (.arraylength, 1) := by decide +kernel
theorem d_Ns_below_2_4 : decode c_Ns_below_2 4 = .ok (.iload_n 3, 1) := by decide +kernel
theorem d_Ns_below_2_5 : decode c_Ns_below_2 5 = .ok (.isub, 1) := by decide +kernel
theorem d_Ns_below_2_6 : decode c_Ns_below_2 6 = .ok (.aload_n 1, 1) := by decide +kernel
theorem d_Ns_below_2_7 : decode c_Ns_below_2 7 = .ok (.arraylength, 1) := by decide +kernel
theorem d_Ns_below_2_8 : decode c_Ns_below_2 8 = .ok (.iload_n 2, 1) := by decide +kernel
theorem d_Ns_below_2_9 : decode c_Ns_below_2 9 = .ok (.isub, 1) := by decide +kernel
theorem d_Ns_below_2_10 : decode c_Ns_below_2 10 = .ok (.if_icmp .le 14, 3) := by decide +kernel
theorem d_Ns_below_2_13 : decode c_Ns_below_2 13 = .ok (.iload_n 3, 1) := by decide +kernel
theorem d_Ns_below_2_14 : decode c_Ns_below_2 14 = .ok (.aload_n 0, 1) := by decide +kernel
theorem d_Ns_below_2_15 : decode c_Ns_below_2 15 = .ok (.iload_n 3, 1) := by decide +kernel
theorem d_Ns_below_2_16 : decode c_Ns_below_2 16 = .ok (.baload, 1) := by decide +kernel
theorem d_Ns_below_2_17 : decode c_Ns_below_2 17 = .ok (.iconst 1, 1) := by decide +kernel
theorem d_Ns_below_2_18 : decode c_Ns_below_2 18 = .ok (.iadd, 1) := by decide +kernel
theorem d_Ns_below_2_19 : decode c_Ns_below_2 19 = .ok (.iadd, 1) := by decide +kernel
theorem d_Ns_below_2_20 : decode c_Ns_below_2 20 = .ok (.istore_n 3, 1) := by decide +kernel
theorem d_Ns_below_2_21 : decode c_Ns_below_2 21 = .ok (.goto (-19), 3) := by decide +kernel
theorem d_Ns_below_2_24 : decode c_Ns_below_2 24 = .ok (.aload_n 0, 1) := by decide +kernel
theorem d_Ns_below_2_25 : decode c_Ns_below_2 25 = .ok (.iload_n 3, 1) := by decide +kernel
theorem d_Ns_below_2_26 : decode c_Ns_below_2 26 = .ok (.aload_n 1, 1) := by decide +kernel
theorem d_Ns_below_2_27 : decode c_Ns_below_2 27 = .ok (.iload_n 2, 1) := by decide +kernel
theorem d_Ns_below_2_28 : decode c_Ns_below_2 28 = .ok (.invokestatic 17, 3) := by decide +kernel
theorem d_Ns_below_2_31 : decode c_Ns_below_2 31 = .ok (.ireturn, 1) := by decide +kernel
abbrev c_Ns_below : ByteArray := prog_13_method_10_code
abbrev y_Ns_below : MethodName := ⟨"ZoneAnswersModel$Names", "below", "([B[B)Z"⟩
theorem d_Ns_below_0 : decode c_Ns_below 0 = .ok (.aload_n 0, 1) := by decide +kernel
theorem d_Ns_below_1 : decode c_Ns_below 1 = .ok (.aload_n 1, 1) := by decide +kernel
theorem d_Ns_below_2 : decode c_Ns_below 2 = .ok (.iconst 0, 1) := by decide +kernel
theorem d_Ns_below_3 : decode c_Ns_below 3 = .ok (.invokestatic 21, 3) := by decide +kernel
theorem d_Ns_below_6 : decode c_Ns_below 6 = .ok (.ireturn, 1) := by decide +kernel
abbrev rm_Ns_below_2 : Room := { frames := 1, cells := 0, slots := 0, locals := 30 }
set_option maxHeartbeats 4000000 in
set_option maxRecDepth 100000 in
/-- Names.below(a, b, k) -/
theorem t_Ns_below_2 (l : Launch) (E : zc_E) (G : zg_G) (b0 : Nat) (ls0 : np_N) (f0 : Nat → Int32) (hb0 : G b0 = some (.inl (E.2.1 0, np_len ls0, .inl f0))) (hf0 : np_f ls0 f0) (hg0 : np_g ls0) (b1 : Nat) (ls1 : np_N) (f1 : Nat → Int32) (hb1 : G b1 = some (.inl (E.2.1 0, np_len ls1, .inl f1))) (hf1 : np_f ls1 f1) (hg1 : np_g ls1) (k : Nat) (hk : k ≤ ls1.length) : zMi l E y_Ns_below_2 c_Ns_below_2 4 (some .boolean) rm_Ns_below_2 [.ref b0, .ref b1, .int (nI (np_pos ls1 k))] G (fun (r : Int32) (G2 : zg_G) => zb r (ls1.drop k <:+ ls0) ∧ G2 = G) := by
  refine zMi.of (by decide) (Nat.le_of_ble_eq_true rfl) ?_
  intro p e s m args below meth c Q hZ hG hret ls hl
  obtain ⟨hx, hb, hr, hts, hown, hlocks, hml, hnm, hbase, hK, hN, hQ⟩ := hZ
  have hl : lv_has ls 4 [(0, .ref b0), (1, .ref b1), (2, .int (nI (np_pos ls1 k)))] := hl
  have hS : zg_S (zc_b E) s.heap s.heap [] := va_S.rf
  have zl0 := hg0.2
  have zc0 := hg0.count
  have zl1 := hg1.2
  have zc1 := hg1.count
  have hld1 := np_len_drop ls1 k hk
  have hp1 := np_pos_le ls1 k hk
  refine lv_iconst (v := 0) hx hb d_Ns_below_2_0 (by decide) ?_
  refine lv_istore_n (lv' := [(3, .int 0), (0, .ref b0), (1, .ref b1), (2, .int (nI (np_pos ls1 k)))]) hx hb d_Ns_below_2_1 rfl hl (by decide) rfl (fun ls hl => ?_)
  have loop2 : ∀ (N : Nat) (i : Nat), (ls0.length - i) < N → (i ≤ ls0.length) → (∀ j, j < i → np_len (ls1.drop k) < np_len (ls0.drop j)) → ∀ (ls : Array Slot), lv_has ls 4 [(0, .ref b0), (1, .ref b1), (2, .int (nI (np_pos ls1 k))), (3, .int (nI (np_pos ls0 i)))] → W p l e rm_Ns_below_2 s m args below meth c s.heap [] 0 0 Q (F0 m 2 ls []) := by
    intro N
    induction N with
    | zero =>
      intro i hlt
      exact absurd hlt (Nat.not_lt_zero _)
    | succ N ih =>
      intro i hlt hi h2 ls hl
      have zp := np_pos_le ls0 i hi
      have hld0 := np_len_drop ls0 i hi
      refine lv_aload_n hx hb d_Ns_below_2_2 rfl (lv_at hl 0 rfl) ?_
      refine zg_alen hx hb hK hG 0 hb0 rfl (v := nI (np_len ls0)) rfl d_Ns_below_2_3 ?_
      refine lv_iload_n hx hb d_Ns_below_2_4 rfl (lv_at hl 3 rfl) ?_
      refine lv_isub hx hb d_Ns_below_2_5 ?_
      refine zi_as (y := nI (np_len ls0 - (np_pos ls0 i))) (zi_sub (a := np_len ls0) (b := np_pos ls0 i) (by omega)) ?_
      refine lv_aload_n hx hb d_Ns_below_2_6 rfl (lv_at hl 1 rfl) ?_
      refine zg_alen hx hb hK hG 0 hb1 rfl (v := nI (np_len ls1)) rfl d_Ns_below_2_7 ?_
      refine lv_iload_n hx hb d_Ns_below_2_8 rfl (lv_at hl 2 rfl) ?_
      refine lv_isub hx hb d_Ns_below_2_9 ?_
      refine zi_as (y := nI (np_len ls1 - (np_pos ls1 k))) (zi_sub (a := np_len ls1) (b := np_pos ls1 k) (by omega)) ?_
      refine lv_icmp_le (tgt := 24) hx hb d_Ns_below_2_10 (by decide) (fun c10 => ?_) (fun c10 => ?_)
      · have b10 : (np_len ls0 - (np_pos ls0 i)) ≤ (np_len ls1 - (np_pos ls1 k)) := (nI_leI (a := (np_len ls0 - (np_pos ls0 i))) (b := (np_len ls1 - (np_pos ls1 k))) (by omega) (by omega)).mp c10
        refine lv_aload_n hx hb d_Ns_below_2_24 rfl (lv_at hl 0 rfl) ?_
        refine lv_iload_n hx hb d_Ns_below_2_25 rfl (lv_at hl 3 rfl) ?_
        refine lv_aload_n hx hb d_Ns_below_2_26 rfl (lv_at hl 1 rfl) ?_
        refine lv_iload_n hx hb d_Ns_below_2_27 rfl (lv_at hl 2 rfl) ?_
        refine zk_i (va_runS (As := [.ref b0, .int (nI (np_pos ls0 i)), .ref b1, .int (nI (np_pos ls1 k))]) (rest := []) ⟨hx, hb, hml, hown, hts⟩ (t_Ns_ends l E G b0 (np_len ls0) f0 hb0 b1 (np_len ls1) f1 hb1 (np_pos ls0 i) (np_pos ls1 k) (by omega) (by omega) (by omega) (by omega)) (zcS 4 hts w_1398 w_1399 w_33 w_1400 (by decide +kernel) ⟨Nat.le_of_ble_eq_true rfl, Nat.le_of_ble_eq_true rfl⟩) (zc_pre hbase hK hN hQ hG hS) rfl rfl hl.1 rfl (lv_room (Nat.le_of_ble_eq_true rfl)) d_Ns_below_2_28 ⟨(by decide), (by decide)⟩) hS (fun r28 G28 H locs hp28 hG hS => ?_)
        have hG : zP E G H := hp28.2 ▸ hG
        exact hret _ _ _ _ _ _ _ _ _ hr (hp28.1.nar) (⟨hp28.1.iff ⟨fun q => (np_find hi (by omega) h2).mp ((np_same (hf0.drop hi) (hf1.drop hk) (hg0.drop hi) (hg1.drop hk)).mp ⟨by omega, fun j hj => q.2 j (by omega)⟩), fun q => by have z9 := (np_same (hf0.drop hi) (hf1.drop hk) (hg0.drop hi) (hg1.drop hk)).mpr ((np_find hi (by omega) h2).mpr q); exact ⟨by omega, fun j hj => z9.2 j (by omega)⟩⟩, rfl⟩) hG hS (Nat.le_refl _) (Nat.le_refl _) d_Ns_below_2_31
      · have b10 : ¬ (np_len ls0 - (np_pos ls0 i)) ≤ (np_len ls1 - (np_pos ls1 k)) := fun q => c10 ((nI_leI (a := (np_len ls0 - (np_pos ls0 i))) (b := (np_len ls1 - (np_pos ls1 k))) (by omega) (by omega)).mpr q)
        have hi2 : i < ls0.length := by
          rcases Nat.lt_or_ge i ls0.length with q | q
          · exact q
          · have e9 : np_len (ls0.drop i) = 1 := by rw [List.drop_eq_nil_of_le q]; rfl
            omega
        refine lv_iload_n hx hb d_Ns_below_2_13 rfl (lv_at hl 3 rfl) ?_
        refine lv_aload_n hx hb d_Ns_below_2_14 rfl (lv_at hl 0 rfl) ?_
        refine lv_iload_n hx hb d_Ns_below_2_15 rfl (lv_at hl 3 rfl) ?_
        refine zg_bald hx hb hK hG 0 hb0 rfl (np_in hg0 hi) d_Ns_below_2_16 ?_
        refine zi_as (y := nI (ls0.getD i []).length) (np_rd hf0 hg0 hi2) ?_
        refine lv_iconst (v := 1) hx hb d_Ns_below_2_17 (by decide) ?_
        refine lv_iadd hx hb d_Ns_below_2_18 ?_
        refine lv_iadd hx hb d_Ns_below_2_19 ?_
        refine zi_as (y := nI (np_pos ls0 (i + 1))) (np_step hi2) ?_
        refine lv_istore_n (lv' := [(3, .int (nI (np_pos ls0 (i + 1)))), (0, .ref b0), (1, .ref b1), (2, .int (nI (np_pos ls1 k)))]) hx hb d_Ns_below_2_20 rfl hl (by decide) rfl (fun ls hl => ?_)
        refine lv_goto (tgt := 2) hx hb d_Ns_below_2_21 (by decide) ?_
        exact ih (i + 1) (by omega) (hi2) (fun j hj => by rcases Nat.lt_or_ge j i with q | q; exact h2 j q; rw [show j = i by omega]; omega) ls (lv_sub hl [1, 2, 3, 0] rfl)
  have hl : lv_has ls 4 [(3, .int (nI (np_pos ls0 0))), (0, .ref b0), (1, .ref b1), (2, .int (nI (np_pos ls1 k)))] := by rw [np_pos0]; exact hl
  exact loop2 _ 0 (Nat.lt_succ_self _) (Nat.zero_le _) (fun j h => absurd h (Nat.not_lt_zero j)) ls (lv_sub hl [1, 2, 3, 0] rfl)
abbrev rm_Ns_below : Room := { frames := 2, cells := 0, slots := 0, locals := 60 }
set_option maxHeartbeats 4000000 in
set_option maxRecDepth 100000 in
/-- Names.below(a, b) -/
theorem t_Ns_below (l : Launch) (E : zc_E) (G : zg_G) (b0 : Nat) (ls0 : np_N) (f0 : Nat → Int32) (hb0 : G b0 = some (.inl (E.2.1 0, np_len ls0, .inl f0))) (hf0 : np_f ls0 f0) (hg0 : np_g ls0) (b1 : Nat) (ls1 : np_N) (f1 : Nat → Int32) (hb1 : G b1 = some (.inl (E.2.1 0, np_len ls1, .inl f1))) (hf1 : np_f ls1 f1) (hg1 : np_g ls1) : zMi l E y_Ns_below c_Ns_below 2 (some .boolean) rm_Ns_below [.ref b0, .ref b1] G (fun (r : Int32) (G2 : zg_G) => zb r (ls1 <:+ ls0) ∧ G2 = G) := by
  refine zMi.of (by decide) (Nat.le_of_ble_eq_true rfl) ?_
  intro p e s m args below meth c Q hZ hG hret ls hl
  obtain ⟨hx, hb, hr, hts, hown, hlocks, hml, hnm, hbase, hK, hN, hQ⟩ := hZ
  have hl : lv_has ls 2 [(0, .ref b0), (1, .ref b1)] := hl
  have hS : zg_S (zc_b E) s.heap s.heap [] := va_S.rf
  refine lv_aload_n hx hb d_Ns_below_0 rfl (lv_at hl 0 rfl) ?_
  refine lv_aload_n hx hb d_Ns_below_1 rfl (lv_at hl 1 rfl) ?_
  refine lv_iconst (v := 0) hx hb d_Ns_below_2 (by decide) ?_
  refine zi_as (y := nI (np_pos ls1 0)) (by rw [np_pos0]; rfl) ?_
  refine zk_i (va_runS (As := [.ref b0, .ref b1, .int (nI (np_pos ls1 0))]) (rest := []) ⟨hx, hb, hml, hown, hts⟩ (t_Ns_below_2 l E G b0 ls0 f0 hb0 hf0 hg0 b1 ls1 f1 hb1 hf1 hg1 0 (Nat.zero_le _)) (zcS 3 hts w_1395 w_1396 w_33 w_1397 (by decide +kernel) ⟨Nat.le_of_ble_eq_true rfl, Nat.le_of_ble_eq_true rfl⟩) (zc_pre hbase hK hN hQ hG hS) rfl rfl hl.1 rfl (lv_room (Nat.le_of_ble_eq_true rfl)) d_Ns_below_3 ⟨(by decide), (by decide)⟩) hS (fun r3 G3 H locs hp3 hG hS => ?_)
  have hG : zP E G H := hp3.2 ▸ hG
  exact hret _ _ _ _ _ _ _ _ _ hr (hp3.1.nar) (⟨hp3.1, rfl⟩) hG hS (Nat.le_refl _) (Nat.le_refl _) d_Ns_below_6
