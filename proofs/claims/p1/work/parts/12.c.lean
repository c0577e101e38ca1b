theorem w_33 : (.initialized "ZoneAnswersModel$Names" : Cond) ∈ zw := zw_at 33 (by decide +kernel) (by decide +kernel)
theorem w_1461 : (.static ⟨"ZoneAnswersModel$Names", "labels", "([B)I"⟩ : Cond) ∈ zw := zw_at 1461 (by decide +kernel) (by decide +kernel)
theorem w_1462 : (.code ⟨"ZoneAnswersModel$Names", "labels", "([B)I"⟩ prog_13_method_6_code 3 (some .int) : Cond) ∈ zw := zw_at 1462 (by decide +kernel) (by decide +kernel)
theorem w_1466 : (.methodLink "ZoneAnswersModel$Names" 13 ⟨"ZoneAnswersModel$Names", "labels", "([B)I"⟩ : Cond) ∈ zw := zw_at 1466 (by decide +kernel) (by decide +kernel)
abbrev c_Ns_same : ByteArray := prog_13_method_5_code
abbrev y_Ns_same : MethodName := ⟨"ZoneAnswersModel$Names", "same", "([B[B)Z"⟩
theorem d_Ns_same_0 : decode c_Ns_same 0 = .ok (.aload_n 0, 1) := by decide +kernel
theorem d_Ns_same_1 : decode c_Ns_same 1 = .ok (.arraylength, 1) := by decide +kernel
theorem d_Ns_same_2 : decode c_Ns_same 2 = .ok (.aload_n 1, 1) := by decide +kernel
theorem d_Ns_same_3 : decode c_Ns_same 3 = .ok (.arraylength, 1) := by decide +kernel
theorem d_Ns_same_4 : decode c_Ns_same 4 = .ok (.if_icmp .eq 5, 3) := by decide +kernel
theorem d_Ns_same_7 : decode c_Ns_same 7 = .ok (.iconst 0, 1) := by decide +kernel
theorem d_Ns_same_8 : decode c_Ns_same 8 = .ok (.ireturn, 1) := by decide +kernel
theorem d_Ns_same_9 : decode c_Ns_same 9 = .ok (.iconst 0, 1) := by decide +kernel
theorem d_Ns_same_10 : decode c_Ns_same 10 = .ok (.istore_n 2, 1) := by decide +kernel
theorem d_Ns_same_11 : decode c_Ns_same 11 = .ok (.iload_n 2, 1) := by decide +kernel
theorem d_Ns_same_12 : decode c_Ns_same 12 = .ok (.aload_n 0, 1) := by decide +kernel
theorem d_Ns_same_13 : decode c_Ns_same 13 = .ok (.arraylength, 1) := by decide +kernel
theorem d_Ns_same_14 : decode c_Ns_same 14 = .ok (.if_icmp .ge 20, 3) := by decide +kernel
theorem d_Ns_same_17 : decode c_Ns_same 17 = .ok (.aload_n 0, 1) := by decide +kernel
theorem d_Ns_same_18 : decode c_Ns_same 18 = .ok (.iload_n 2, 1) := by decide +kernel
theorem d_Ns_same_19 : decode c_Ns_same 19 = .ok (.baload, 1) := by decide +kernel
theorem d_Ns_same_20 : decode c_Ns_same 20 = .ok (.aload_n 1, 1) := by decide +kernel
theorem d_Ns_same_21 : decode c_Ns_same 21 = .ok (.iload_n 2, 1) := by decide +kernel
theorem d_Ns_same_22 : decode c_Ns_same 22 = .ok (.baload, 1) := by decide +kernel
theorem d_Ns_same_23 : decode c_Ns_same 23 = .ok (.if_icmp .eq 5, 3) := by decide +kernel
theorem d_Ns_same_26 : decode c_Ns_same 26 = .ok (.iconst 0, 1) := by decide +kernel
theorem d_Ns_same_27 : decode c_Ns_same 27 = .ok (.ireturn, 1) := by decide +kernel
theorem d_Ns_same_28 : decode c_Ns_same 28 = .ok (.iinc 2 1, 3) := by decide +kernel
theorem d_Ns_same_31 : decode c_Ns_same 31 = .ok (.goto (-20), 3) := by decide +kernel
theorem d_Ns_same_34 : decode c_Ns_same 34 = .ok (.iconst 1, 1) := by decide +kernel
theorem d_Ns_same_35 : decode c_Ns_same 35 = .ok (.ireturn, 1) := by decide +kernel
abbrev c_Ns_labels : ByteArray := prog_13_method_6_code
abbrev y_Ns_labels : MethodName := ⟨"ZoneAnswersModel$Names", "labels", "([B)I"⟩
theorem d_Ns_labels_0 : decode c_Ns_labels 0 = .ok (.iconst 0, 1) := by decide +kernel
theorem d_Ns_labels_1 : decode c_Ns_labels 1 = .ok (.istore_n 1, 1) := by decide +kernel
theorem d_Ns_labels_2 : decode c_Ns_labels 2 = .ok (.iconst 0, 1) := by decide +kernel
theorem d_Ns_labels_3 : decode c_Ns_labels 3 = .ok (.istore_n 2, 1) := by decide +kernel
theorem d_Ns_labels_4 : decode c_Ns_labels 4 = .ok (.aload_n 0, 1) := by decide +kernel
theorem d_Ns_labels_5 : decode c_Ns_labels 5 = .ok (.iload_n 2, 1) := by decide +kernel
theorem d_Ns_labels_6 : decode c_Ns_labels 6 = .ok (.baload, 1) := by decide +kernel
theorem d_Ns_labels_7 : decode c_Ns_labels 7 = .ok (.ifCond .eq 17, 3) := by decide +kernel
theorem d_Ns_labels_10 : decode c_Ns_labels 10 = .ok (.iinc 1 1, 3) := by decide +kernel
theorem d_Ns_labels_13 : decode c_Ns_labels 13 = .ok (.iload_n 2, 1) := by decide +kernel
theorem d_Ns_labels_14 : decode c_Ns_labels 14 = .ok (.aload_n 0, 1) := by decide +kernel
theorem d_Ns_labels_15 : decode c_Ns_labels 15 = .ok (.iload_n 2, 1) := by decide +kernel
theorem d_Ns_labels_16 : decode c_Ns_labels 16 = .ok (.baload, 1) := by decide +kernel
theorem d_Ns_labels_17 : decode c_Ns_labels 17 = .ok (.iconst 1, 1) := by decide +kernel
theorem d_Ns_labels_18 : decode c_Ns_labels 18 = .ok (.iadd, 1) := by decide +kernel
theorem d_Ns_labels_19 : decode c_Ns_labels 19 = .ok (.iadd, 1) := by decide +kernel
theorem d_Ns_labels_20 : decode c_Ns_labels 20 = .ok (.istore_n 2, 1) := by decide +kernel
theorem d_Ns_labels_21 : decode c_Ns_labels 21 = .ok (.goto (-17), 3) := by decide +kernel
theorem d_Ns_labels_24 : decode c_Ns_labels 24 = .ok (.iload_n 1, 1) := by decide +kernel
theorem d_Ns_labels_25 : decode c_Ns_labels 25 = .ok (.ireturn, 1) := by decide +kernel
abbrev c_Ns_place : ByteArray := prog_13_method_7_code
abbrev y_Ns_place : MethodName := ⟨"ZoneAnswersModel$Names", "place", "([BI)I"⟩
theorem d_Ns_place_0 : decode c_Ns_place 0 = .ok (.iconst 0, 1) := by decide +kernel
theorem d_Ns_place_1 : decode c_Ns_place 1 = .ok (.istore_n 2, 1) := by decide +kernel
theorem d_Ns_place_2 : decode c_Ns_place 2 = .ok (.aload_n 0, 1) := by decide +kernel
theorem d_Ns_place_3 : decode c_Ns_place 3 = .ok (.invokestatic 13, 3) := by decide +kernel
theorem d_Ns_place_6 : decode c_Ns_place 6 = .ok (.iload_n 1, 1) := by decide +kernel
theorem d_Ns_place_7 : decode c_Ns_place 7 = .ok (.isub, 1) := by decide +kernel
theorem d_Ns_place_8 : decode c_Ns_place 8 = .ok (.istore_n 3, 1) := by decide +kernel
theorem d_Ns_place_9 : decode c_Ns_place 9 = .ok (.iload_n 3, 1) := by decide +kernel
theorem d_Ns_place_10 : decode c_Ns_place 10 = .ok (.ifCond .le 17, 3) := by decide +kernel
theorem d_Ns_place_13 : decode c_Ns_place 13 = .ok (.iload_n 2, 1) := by decide +kernel
theorem d_Ns_place_14 : decode c_Ns_place 14 = .ok (.aload_n 0, 1) := by decide +kernel
theorem d_Ns_place_15 : decode c_Ns_place 15 = .ok (.iload_n 2, 1) := by decide +kernel
theorem d_Ns_place_16 : decode c_Ns_place 16 = .ok (.baload, 1) := by decide +kernel
theorem d_Ns_place_17 : decode c_Ns_place 17 = .ok (.iconst 1, 1) := by decide +kernel
theorem d_Ns_place_18 : decode c_Ns_place 18 = .ok (.iadd, 1) := by decide +kernel
theorem d_Ns_place_19 : decode c_Ns_place 19 = .ok (.iadd, 1) := by decide +kernel
theorem d_Ns_place_20 : decode c_Ns_place 20 = .ok (.istore_n 2, 1) := by decide +kernel
theorem d_Ns_place_21 : decode c_Ns_place 21 = .ok (.iinc 3 (-1), 3) := by decide +kernel
theorem d_Ns_place_24 : decode c_Ns_place 24 = .ok (.goto (-15), 3) := by decide +kernel
theorem d_Ns_place_27 : decode c_Ns_place 27 = .ok (.iload_n 2, 1) := by decide +kernel
theorem d_Ns_place_28 : decode c_Ns_place 28 = .ok (.ireturn, 1) := by decide +kernel
abbrev rm_Ns_same : Room := { frames := 0, cells := 0, slots := 0, locals := 0 }
set_option maxHeartbeats 4000000 in
set_option maxRecDepth 100000 in
/-- Names.same(a, b) -/
theorem t_Ns_same (l : Launch) (E : zc_E) (G : zg_G) (a1 n1 : Nat) (f1 : Nat → Int32) (h1 : G a1 = some (.inl (E.2.1 0, n1, .inl f1))) (a2 n2 : Nat) (f2 : Nat → Int32) (h2 : G a2 = some (.inl (E.2.1 0, n2, .inl f2))) (z1 : n1 < 2 ^ 31) (z2 : n2 < 2 ^ 31) : zMi l E y_Ns_same c_Ns_same 3 (some .boolean) rm_Ns_same [.ref a1, .ref a2] G (fun (r : Int32) (G2 : zg_G) => zb r (n1 = n2 ∧ ∀ j, j < n1 → f1 j = f2 j) ∧ G2 = G) := by
  refine zMi.of (by decide) (Nat.le_of_ble_eq_true rfl) ?_
  intro p e s m args below meth c Q hZ hG hret ls hl
  obtain ⟨hx, hb, hr, hts, hown, hlocks, hml, hnm, hbase, hK, hN, hQ⟩ := hZ
  have hl : lv_has ls 3 [(0, .ref a1), (1, .ref a2)] := hl
  have hS : zg_S (zc_b E) s.heap s.heap [] := va_S.rf
  refine lv_aload_n hx hb d_Ns_same_0 rfl (lv_at hl 0 rfl) ?_
  refine zg_alen hx hb hK hG 0 h1 rfl (v := nI n1) rfl d_Ns_same_1 ?_
  refine lv_aload_n hx hb d_Ns_same_2 rfl (lv_at hl 1 rfl) ?_
  refine zg_alen hx hb hK hG 0 h2 rfl (v := nI n2) rfl d_Ns_same_3 ?_
  refine lv_icmp_eq (tgt := 9) hx hb d_Ns_same_4 (by decide) (fun c4 => ?_) (fun c4 => ?_)
  · have b4 : n1 = n2 := (nI_eq (a := n1) (b := n2) (by omega) (by omega)).mp c4
    refine lv_iconst (v := 0) hx hb d_Ns_same_9 (by decide) ?_
    refine lv_istore_n (lv' := [(2, .int 0), (0, .ref a1), (1, .ref a2)]) hx hb d_Ns_same_10 rfl hl (by decide) rfl (fun ls hl => ?_)
    have loop11 : ∀ (N : Nat) (i : Nat), (n1 - i) < N → (i ≤ n1) → (∀ j, j < i → f1 j = f2 j) → ∀ (ls : Array Slot), lv_has ls 3 [(0, .ref a1), (1, .ref a2), (2, .int (nI i))] → W p l e rm_Ns_same s m args below meth c s.heap [] 0 0 Q (F0 m 11 ls []) := by
      intro N
      induction N with
      | zero =>
        intro i hlt
        exact absurd hlt (Nat.not_lt_zero _)
      | succ N ih =>
        intro i hlt hi hq ls hl
        refine lv_iload_n hx hb d_Ns_same_11 rfl (lv_at hl 2 rfl) ?_
        refine lv_aload_n hx hb d_Ns_same_12 rfl (lv_at hl 0 rfl) ?_
        refine zg_alen hx hb hK hG 0 h1 rfl (v := nI n1) rfl d_Ns_same_13 ?_
        refine lv_icmp_ge (tgt := 34) hx hb d_Ns_same_14 (by decide) (fun c14 => ?_) (fun c14 => ?_)
        · have b14 : n1 ≤ i := (nI_leI (a := n1) (b := i) (by omega) (by omega)).mp c14
          refine lv_iconst (v := 1) hx hb d_Ns_same_34 (by decide) ?_
          exact hret _ _ _ _ _ _ _ _ _ hr (rfl) (⟨zb.t ⟨b4, fun j h => hq j (by omega)⟩, rfl⟩) hG hS (Nat.le_refl _) (Nat.le_refl _) d_Ns_same_35
        · have b14 : ¬ n1 ≤ i := fun q => c14 ((nI_leI (a := n1) (b := i) (by omega) (by omega)).mpr q)
          refine lv_aload_n hx hb d_Ns_same_17 rfl (lv_at hl 0 rfl) ?_
          refine lv_iload_n hx hb d_Ns_same_18 rfl (lv_at hl 2 rfl) ?_
          refine zg_bald hx hb hK hG 0 h1 rfl (vp_in_nI (by omega) (by omega)) d_Ns_same_19 ?_
          refine zi_as (y := f1 i) (by rw [zi_n _ (by omega)]) ?_
          refine lv_aload_n hx hb d_Ns_same_20 rfl (lv_at hl 1 rfl) ?_
          refine lv_iload_n hx hb d_Ns_same_21 rfl (lv_at hl 2 rfl) ?_
          refine zg_bald hx hb hK hG 0 h2 rfl (vp_in_nI (by omega) (by omega)) d_Ns_same_22 ?_
          refine zi_as (y := f2 i) (by rw [zi_n _ (by omega)]) ?_
          refine lv_icmp_eq (tgt := 28) hx hb d_Ns_same_23 (by decide) (fun c23 => ?_) (fun c23 => ?_)
          · refine lv_iinc (v := nI (i + 1)) (lv' := [(2, .int (nI (i + 1))), (0, .ref a1), (1, .ref a2)]) hx hb d_Ns_same_28 hl (k := 2) rfl (nI_add i 1) (by decide) rfl (fun ls hl => ?_)
            refine lv_goto (tgt := 11) hx hb d_Ns_same_31 (by decide) ?_
            exact ih (i + 1) (by omega) (by omega) (lt_s hq c23) ls (lv_sub hl [1, 2, 0] rfl)
          · refine lv_iconst (v := 0) hx hb d_Ns_same_26 (by decide) ?_
            exact hret _ _ _ _ _ _ _ _ _ hr (rfl) (⟨zb.f (fun q => c23 (q.2 i (by omega))), rfl⟩) hG hS (Nat.le_refl _) (Nat.le_refl _) d_Ns_same_27
    exact loop11 _ 0 (Nat.lt_succ_self _) (Nat.zero_le _) (fun j h => absurd h (Nat.not_lt_zero j)) ls (lv_sub hl [1, 2, 0] rfl)
  · have b4 : ¬ n1 = n2 := fun q => c4 ((nI_eq (a := n1) (b := n2) (by omega) (by omega)).mpr q)
    refine lv_iconst (v := 0) hx hb d_Ns_same_7 (by decide) ?_
    exact hret _ _ _ _ _ _ _ _ _ hr (rfl) (⟨zb.f (fun q => b4 q.1), rfl⟩) hG hS (Nat.le_refl _) (Nat.le_refl _) d_Ns_same_8
abbrev rm_Ns_labels : Room := { frames := 0, cells := 0, slots := 0, locals := 0 }
set_option maxHeartbeats 4000000 in
set_option maxRecDepth 100000 in
/-- Names.labels(n) -/
theorem t_Ns_labels (l : Launch) (E : zc_E) (G : zg_G) (b0 : Nat) (ls0 : np_N) (f0 : Nat → Int32) (hb0 : G b0 = some (.inl (E.2.1 0, np_len ls0, .inl f0))) (hf0 : np_f ls0 f0) (hg0 : np_g ls0) : zMi l E y_Ns_labels c_Ns_labels 3 (some .int) rm_Ns_labels [.ref b0] G (fun (r : Int32) (G2 : zg_G) => r = nI ls0.length ∧ G2 = G) := by
  refine zMi.of (by decide) (Nat.le_of_ble_eq_true rfl) ?_
  intro p e s m args below meth c Q hZ hG hret ls hl
  obtain ⟨hx, hb, hr, hts, hown, hlocks, hml, hnm, hbase, hK, hN, hQ⟩ := hZ
  have hl : lv_has ls 3 [(0, .ref b0)] := hl
  have hS : zg_S (zc_b E) s.heap s.heap [] := va_S.rf
  have zl0 := hg0.2
  have zc0 := hg0.count
  refine lv_iconst (v := 0) hx hb d_Ns_labels_0 (by decide) ?_
  refine lv_istore_n (lv' := [(1, .int 0), (0, .ref b0)]) hx hb d_Ns_labels_1 rfl hl (by decide) rfl (fun ls hl => ?_)
  refine lv_iconst (v := 0) hx hb d_Ns_labels_2 (by decide) ?_
  refine lv_istore_n (lv' := [(2, .int 0), (1, .int 0), (0, .ref b0)]) hx hb d_Ns_labels_3 rfl hl (by decide) rfl (fun ls hl => ?_)
  have loop4 : ∀ (N : Nat) (i : Nat), (ls0.length - i) < N → (i ≤ ls0.length) → ∀ (ls : Array Slot), lv_has ls 3 [(0, .ref b0), (1, .int (nI i)), (2, .int (nI (np_pos ls0 i)))] → W p l e rm_Ns_labels s m args below meth c s.heap [] 0 0 Q (F0 m 4 ls []) := by
    intro N
    induction N with
    | zero =>
      intro i hlt
      exact absurd hlt (Nat.not_lt_zero _)
    | succ N ih =>
      intro i hlt hi ls hl
      have zp := np_pos_le ls0 i hi
      refine lv_aload_n hx hb d_Ns_labels_4 rfl (lv_at hl 0 rfl) ?_
      refine lv_iload_n hx hb d_Ns_labels_5 rfl (lv_at hl 2 rfl) ?_
      refine zg_bald hx hb hK hG 0 hb0 rfl (np_in hg0 hi) d_Ns_labels_6 ?_
      refine zi_as (y := f0 (np_pos ls0 i)) (by rw [zi_n _ (by omega)]) ?_
      refine lv_if_eq (tgt := 24) hx hb d_Ns_labels_7 (by decide) (fun c7 => ?_) (fun c7 => ?_)
      · have hi2 := np_fz hf0 hg0 hi c7
        refine lv_iload_n hx hb d_Ns_labels_24 rfl (lv_at hl 1 rfl) ?_
        exact hret _ _ _ _ _ _ _ _ _ hr (rfl) (⟨by rw [hi2], rfl⟩) hG hS (Nat.le_refl _) (Nat.le_refl _) d_Ns_labels_25
      · have hi2 := np_fnz hf0 hi c7
        refine lv_iinc (v := nI (i + 1)) (lv' := [(1, .int (nI (i + 1))), (0, .ref b0), (2, .int (nI (np_pos ls0 i)))]) hx hb d_Ns_labels_10 hl (k := 1) rfl (nI_add i 1) (by decide) rfl (fun ls hl => ?_)
        refine lv_iload_n hx hb d_Ns_labels_13 rfl (lv_at hl 2 rfl) ?_
        refine lv_aload_n hx hb d_Ns_labels_14 rfl (lv_at hl 1 rfl) ?_
        refine lv_iload_n hx hb d_Ns_labels_15 rfl (lv_at hl 2 rfl) ?_
        refine zg_bald hx hb hK hG 0 hb0 rfl (np_in hg0 hi) d_Ns_labels_16 ?_
        refine zi_as (y := nI (ls0.getD i []).length) (np_rd hf0 hg0 hi2) ?_
        refine lv_iconst (v := 1) hx hb d_Ns_labels_17 (by decide) ?_
        refine lv_iadd hx hb d_Ns_labels_18 ?_
        refine lv_iadd hx hb d_Ns_labels_19 ?_
        refine zi_as (y := nI (np_pos ls0 (i + 1))) (np_step hi2) ?_
        refine lv_istore_n (lv' := [(2, .int (nI (np_pos ls0 (i + 1)))), (1, .int (nI (i + 1))), (0, .ref b0)]) hx hb d_Ns_labels_20 rfl hl (by decide) rfl (fun ls hl => ?_)
        refine lv_goto (tgt := 4) hx hb d_Ns_labels_21 (by decide) ?_
        exact ih (i + 1) (by omega) (hi2) ls (lv_sub hl [2, 1, 0] rfl)
  rw [show (0 : Int32) = nI (np_pos ls0 0) by rw [np_pos0]; rfl] at hl
  have hl : lv_has ls 3 [(2, .int (nI (np_pos ls0 0))), (1, .int (nI 0)), (0, .ref b0)] := by rw [np_pos0] at hl ⊢; exact hl
  exact loop4 _ 0 (Nat.lt_succ_self _) (Nat.zero_le _) ls (lv_sub hl [2, 1, 0] rfl)
abbrev rm_Ns_place : Room := { frames := 1, cells := 0, slots := 0, locals := 22 }
set_option maxHeartbeats 4000000 in
set_option maxRecDepth 100000 in
/-- Names.place(n, k) -/
theorem t_Ns_place (l : Launch) (E : zc_E) (G : zg_G) (b0 : Nat) (ls0 : np_N) (f0 : Nat → Int32) (hb0 : G b0 = some (.inl (E.2.1 0, np_len ls0, .inl f0))) (hf0 : np_f ls0 f0) (hg0 : np_g ls0) (k : Nat) (hk : k ≤ ls0.length) : zMi l E y_Ns_place c_Ns_place 4 (some .int) rm_Ns_place [.ref b0, .int (nI k)] G (fun (r : Int32) (G2 : zg_G) => r = nI (np_pos ls0 (ls0.length - k)) ∧ G2 = G) := by
  refine zMi.of (by decide) (Nat.le_of_ble_eq_true rfl) ?_
  intro p e s m args below meth c Q hZ hG hret ls hl
  obtain ⟨hx, hb, hr, hts, hown, hlocks, hml, hnm, hbase, hK, hN, hQ⟩ := hZ
  have hl : lv_has ls 4 [(0, .ref b0), (1, .int (nI k))] := hl
  have hS : zg_S (zc_b E) s.heap s.heap [] := va_S.rf
  have zl0 := hg0.2
  have zc0 := hg0.count
  refine lv_iconst (v := 0) hx hb d_Ns_place_0 (by decide) ?_
  refine lv_istore_n (lv' := [(2, .int 0), (0, .ref b0), (1, .int (nI k))]) hx hb d_Ns_place_1 rfl hl (by decide) rfl (fun ls hl => ?_)
  refine lv_aload_n hx hb d_Ns_place_2 rfl (lv_at hl 1 rfl) ?_
  refine zk_i (va_runS (As := [.ref b0]) (rest := []) ⟨hx, hb, hml, hown, hts⟩ (t_Ns_labels l E G b0 ls0 f0 hb0 hf0 hg0) (zcS 1 hts w_1466 w_1461 w_33 w_1462 (by decide +kernel) ⟨Nat.le_of_ble_eq_true rfl, Nat.le_of_ble_eq_true rfl⟩) (zc_pre hbase hK hN hQ hG hS) rfl rfl hl.1 rfl (lv_room (Nat.le_of_ble_eq_true rfl)) d_Ns_place_3 ⟨(by decide), (by decide)⟩) hS (fun r3 G3 H locs hp3 hG hS => ?_)
  have hG : zP E G H := hp3.2 ▸ hG
  refine zi_as (y := nI ls0.length) hp3.1 ?_
  refine lv_iload_n hx hb d_Ns_place_6 rfl (lv_at hl 2 rfl) ?_
  refine lv_isub hx hb d_Ns_place_7 ?_
  refine zi_as (y := nI (ls0.length - k)) (zi_sub (a := ls0.length) (b := k) (by omega)) ?_
  refine lv_istore_n (lv' := [(3, .int (nI (ls0.length - k))), (2, .int 0), (0, .ref b0), (1, .int (nI k))]) hx hb d_Ns_place_8 rfl hl (by decide) rfl (fun ls hl => ?_)
  have loop9 : ∀ (N : Nat) (i : Nat), (ls0.length - k - i) < N → (i ≤ ls0.length - k) → ∀ (ls : Array Slot), lv_has ls 4 [(0, .ref b0), (1, .int (nI k)), (2, .int (nI (np_pos ls0 i))), (3, .int (nI (ls0.length - k - i)))] → W p l e rm_Ns_place s m args below meth c H locs 0 0 Q (F0 m 9 ls []) := by
    intro N
    induction N with
    | zero =>
      intro i hlt
      exact absurd hlt (Nat.not_lt_zero _)
    | succ N ih =>
      intro i hlt hi ls hl
      have zp := np_pos_le ls0 i (by omega)
      refine lv_iload_n hx hb d_Ns_place_9 rfl (lv_at hl 3 rfl) ?_
      refine lv_if_le (tgt := 27) hx hb d_Ns_place_10 (by decide) (fun c10 => ?_) (fun c10 => ?_)
      · have b10 : (ls0.length - k - i) ≤ 0 := (nI_leI (a := (ls0.length - k - i)) (b := 0) (by omega) (by omega)).mp c10
        refine lv_iload_n hx hb d_Ns_place_27 rfl (lv_at hl 2 rfl) ?_
        exact hret _ _ _ _ _ _ _ _ _ hr (rfl) (⟨by rw [show i = ls0.length - k by omega], rfl⟩) hG hS (Nat.le_refl _) (Nat.le_refl _) d_Ns_place_28
      · have b10 : ¬ (ls0.length - k - i) ≤ 0 := fun q => c10 ((nI_leI (a := (ls0.length - k - i)) (b := 0) (by omega) (by omega)).mpr q)
        refine lv_iload_n hx hb d_Ns_place_13 rfl (lv_at hl 2 rfl) ?_
        refine lv_aload_n hx hb d_Ns_place_14 rfl (lv_at hl 0 rfl) ?_
        refine lv_iload_n hx hb d_Ns_place_15 rfl (lv_at hl 2 rfl) ?_
        refine zg_bald hx hb hK hG 0 hb0 rfl (np_in hg0 (by omega)) d_Ns_place_16 ?_
        refine zi_as (y := nI (ls0.getD i []).length) (np_rd hf0 hg0 (by omega)) ?_
        refine lv_iconst (v := 1) hx hb d_Ns_place_17 (by decide) ?_
        refine lv_iadd hx hb d_Ns_place_18 ?_
        refine lv_iadd hx hb d_Ns_place_19 ?_
        refine zi_as (y := nI (np_pos ls0 (i + 1))) (np_step (by omega)) ?_
        refine lv_istore_n (lv' := [(2, .int (nI (np_pos ls0 (i + 1)))), (0, .ref b0), (1, .int (nI k)), (3, .int (nI (ls0.length - k - i)))]) hx hb d_Ns_place_20 rfl hl (by decide) rfl (fun ls hl => ?_)
        refine lv_iinc (v := nI (ls0.length - k - (i + 1))) (lv' := [(3, .int (nI (ls0.length - k - (i + 1)))), (2, .int (nI (np_pos ls0 (i + 1)))), (0, .ref b0), (1, .int (nI k))]) hx hb d_Ns_place_21 hl (k := 3) rfl (zi_dec (by omega)) (by decide) rfl (fun ls hl => ?_)
        refine lv_goto (tgt := 9) hx hb d_Ns_place_24 (by decide) ?_
        exact ih (i + 1) (by omega) (by omega) ls (lv_sub hl [2, 3, 1, 0] rfl)
  have hl : lv_has ls 4 [(3, .int (nI (ls0.length - k - 0))), (2, .int (nI (np_pos ls0 0))), (0, .ref b0), (1, .int (nI k))] := by rw [np_pos0]; exact hl
  exact loop9 _ 0 (Nat.lt_succ_self _) (Nat.zero_le _) ls (lv_sub hl [2, 3, 1, 0] rfl)
