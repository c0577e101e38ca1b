/-- a name's key -/
def zky (ls : np_N) : nk_K := ls.reverse.map (fun l => l.map (fun v => (v &&& 255).toNatClampNeg))
theorem zky_len {ls : np_N} : (zky ls).length = ls.length := by simp [zky]
theorem zky_at {ls : np_N} {i : Nat} (h : i < ls.length) : (zky ls).getD i [] = (ls.getD (ls.length - (i + 1)) []).map (fun v => (v &&& 255).toNatClampNeg) := by
  unfold zky
  have h2 : ls.length - (i + 1) < ls.length := by omega
  rw [List.getD_eq_getElem?_getD, List.getElem?_map, List.getElem?_reverse h, List.getD_eq_getElem?_getD, show ls.length - 1 - i = ls.length - (i + 1) by omega, List.getElem?_eq_getElem h2]
  rfl
theorem zu_lab {ls : np_N} {f : Nat → Int32} (hf : np_f ls f) {i : Nat} (h : i < ls.length) : zu f (np_pos ls i + 1) (ls.getD i []).length = (ls.getD i []).map (fun v => (v &&& 255).toNatClampNeg) := by
  have h1 := hf.drop (Nat.le_of_lt h)
  have e : ls.getD i [] = ls[i] := by rw [List.getD_eq_getElem?_getD, List.getElem?_eq_getElem h]; rfl
  rw [List.drop_eq_getElem_cons h] at h1
  obtain ⟨-, h2, -⟩ := np_f_cons.mp h1
  rw [e]
  refine List.ext_getElem (by rw [zu_len, List.length_map]) fun j hj hj2 => ?_
  rw [zu_len] at hj
  have h3 : f (np_pos ls i + (1 + j)) = ls[i].getD j 0 := h2 j hj
  rw [List.getD_eq_getElem?_getD, List.getElem?_eq_getElem hj] at h3
  simp only [zu, List.getElem_map, List.getElem_range]
  rw [show np_pos ls i + 1 + j = np_pos ls i + (1 + j) by omega, h3]
  rfl
theorem nk_d_drop : ∀ (i : Nat) {A B : nk_K}, i ≤ A.length → i ≤ B.length → (∀ j, j < i → nk_l (A.getD j []) (B.getD j []) = 0) → nk_d A B = nk_d (A.drop i) (B.drop i) := by
  intro i
  induction i with
  | zero => intro A B _ _ _; rfl
  | succ i ih =>
    intro A B h1 h2 h
    cases A with
    | nil => simp at h1
    | cons a A =>
      cases B with
      | nil => simp at h2
      | cons b B =>
        have e : nk_l a b = 0 := h 0 (by omega)
        show (if nk_l a b = 0 then nk_d A B else _) = nk_d (A.drop i) (B.drop i)
        rw [if_pos e]
        exact ih (by simpa using h1) (by simpa using h2) (fun j hj => by have := h (j + 1) (by omega); simpa using this)
theorem nk_d_at {i : Nat} {A B : nk_K} (h1 : i < A.length) (h2 : i < B.length) (h : ∀ j, j < i → nk_l (A.getD j []) (B.getD j []) = 0) (hn : nk_l (A.getD i []) (B.getD i []) ≠ 0) : nk_d A B = nk_l (A.getD i []) (B.getD i []) := by
  rw [nk_d_drop i (by omega) (by omega) h, List.drop_eq_getElem_cons h1, List.drop_eq_getElem_cons h2]
  have e1 : A.getD i [] = A[i] := by rw [List.getD_eq_getElem?_getD, List.getElem?_eq_getElem h1]; rfl
  have e2 : B.getD i [] = B[i] := by rw [List.getD_eq_getElem?_getD, List.getElem?_eq_getElem h2]; rfl
  rw [e1, e2] at hn ⊢
  show (if nk_l A[i] B[i] = 0 then _ else _) = _
  rw [if_neg hn]
theorem nk_d_end {A B : nk_K} (h : ∀ j, j < min A.length B.length → nk_l (A.getD j []) (B.getD j []) = 0) : nk_d A B = (A.length : Int) - B.length := by
  rw [nk_d_drop (min A.length B.length) (by omega) (by omega) h]
  rcases Nat.le_total A.length B.length with q | q
  · rw [Nat.min_eq_left q, List.drop_length]
    cases e : B.drop A.length with
    | nil =>
      have := List.drop_eq_nil_iff.mp e
      show (0 : Int) = _
      omega
    | cons b y =>
      have := congrArg List.length e
      rw [List.length_drop] at this
      show -((b :: y).length : Int) = _
      omega
  · rw [Nat.min_eq_right q, List.drop_length]
    cases e : A.drop B.length with
    | nil =>
      have := List.drop_eq_nil_iff.mp e
      show (0 : Int) = _
      omega
    | cons b y =>
      have := congrArg List.length e
      rw [List.length_drop] at this
      show ((b :: y).length : Int) = _
      omega
theorem zsg_z {z : Int} : zsg z = 0 ↔ z = 0 := by
  constructor
  · intro h
    unfold zsg at h
    split at h
    · exact absurd h (by decide)
    · split at h
      · assumption
      · exact absurd h (by decide)
  · intro h; exact (zsg_0 h).symm
theorem nk_up {A B : nk_K} {i : Nat} (h : ∀ j, j < i → nk_l (A.getD j []) (B.getD j []) = 0) (e : nk_l (A.getD i []) (B.getD i []) = 0) : ∀ j, j < i + 1 → nk_l (A.getD j []) (B.getD j []) = 0 := by
  intro j hj
  rcases Nat.lt_or_ge j i with q | q
  · exact h j q
  · rw [show j = i by omega]; exact e
theorem w_1464 : (.static ⟨"ZoneAnswersModel$Names", "place", "([BI)I"⟩ : Cond) ∈ zw := zw_at 1464 (by decide +kernel) (by decide +kernel)
theorem w_1465 : (.code ⟨"ZoneAnswersModel$Names", "place", "([BI)I"⟩ prog_13_method_7_code 4 (some .int) : Cond) ∈ zw := zw_at 1465 (by decide +kernel) (by decide +kernel)
theorem w_1508 : (.methodLink "ZoneAnswersModel$Names" 25 ⟨"ZoneAnswersModel$Names", "place", "([BI)I"⟩ : Cond) ∈ zw := zw_at 1508 (by decide +kernel) (by decide +kernel)
theorem w_1509 : (.methodLink "ZoneAnswersModel$Names" 29 ⟨"ZoneAnswersModel$Names", "bytes", "([BII[BII)I"⟩ : Cond) ∈ zw := zw_at 1509 (by decide +kernel) (by decide +kernel)
theorem w_1510 : (.static ⟨"ZoneAnswersModel$Names", "bytes", "([BII[BII)I"⟩ : Cond) ∈ zw := zw_at 1510 (by decide +kernel) (by decide +kernel)
theorem w_1511 : (.code ⟨"ZoneAnswersModel$Names", "bytes", "([BII[BII)I"⟩ prog_13_method_12_code 9 (some .int) : Cond) ∈ zw := zw_at 1511 (by decide +kernel) (by decide +kernel)
abbrev c_Ns_order : ByteArray := prog_13_method_13_code
abbrev y_Ns_order : MethodName := ⟨"ZoneAnswersModel$Names", "order", "([B[B)I"⟩
theorem d_Ns_order_0 : decode c_Ns_order 0 = .ok (.aload_n 0, 1) := by decide +kernel
theorem d_Ns_order_1 : decode c_Ns_order 1 = .ok (.invokestatic 13, 3) := by decide +kernel
theorem d_Ns_order_4 : decode c_Ns_order 4 = .ok (.istore_n 2, 1) := by decide +kernel
theorem d_Ns_order_5 : decode c_Ns_order 5 = .ok (.aload_n 1, 1) := by decide +kernel
theorem d_Ns_order_6 : decode c_Ns_order 6 = .ok (.invokestatic 13, 3) := by decide +kernel
theorem d_Ns_order_9 : decode c_Ns_order 9 = .ok (.istore_n 3, 1) := by decide +kernel
theorem d_Ns_order_10 : decode c_Ns_order 10 = .ok (.iconst 1, 1) := by decide +kernel
theorem d_Ns_order_11 : decode c_Ns_order 11 = .ok (.istore 4, 2) := by decide +kernel
theorem d_Ns_order_13 : decode c_Ns_order 13 = .ok (.iload 4, 2) := by decide +kernel
theorem d_Ns_order_15 : decode c_Ns_order 15 = .ok (.iload_n 2, 1) := by decide +kernel
theorem d_Ns_order_16 : decode c_Ns_order 16 = .ok (.if_icmp .gt 62, 3) := by decide +kernel
theorem d_Ns_order_19 : decode c_Ns_order 19 = .ok (.iload 4, 2) := by decide +kernel
theorem d_Ns_order_21 : decode c_Ns_order 21 = .ok (.iload_n 3, 1) := by decide +kernel
theorem d_Ns_order_22 : decode c_Ns_order 22 = .ok (.if_icmp .gt 56, 3) := by decide +kernel
theorem d_Ns_order_25 : decode c_Ns_order 25 = .ok (.aload_n 0, 1) := by decide +kernel
theorem d_Ns_order_26 : decode c_Ns_order 26 = .ok (.iload 4, 2) := by decide +kernel
theorem d_Ns_order_28 : decode c_Ns_order 28 = .ok (.invokestatic 25, 3) := by decide +kernel
theorem d_Ns_order_31 : decode c_Ns_order 31 = .ok (.istore 5, 2) := by decide +kernel
theorem d_Ns_order_33 : decode c_Ns_order 33 = .ok (.aload_n 1, 1) := by decide +kernel
theorem d_Ns_order_34 : decode c_Ns_order 34 = .ok (.iload 4, 2) := by decide +kernel
theorem d_Ns_order_36 : decode c_Ns_order 36 = .ok (.invokestatic 25, 3) := by decide +kernel
theorem d_Ns_order_39 : decode c_Ns_order 39 = .ok (.istore 6, 2) := by decide +kernel
theorem d_Ns_order_41 : decode c_Ns_order 41 = .ok (.aload_n 0, 1) := by decide +kernel
theorem d_Ns_order_42 : decode c_Ns_order 42 = .ok (.iload 5, 2) := by decide +kernel
theorem d_Ns_order_44 : decode c_Ns_order 44 = .ok (.iconst 1, 1) := by decide +kernel
theorem d_Ns_order_45 : decode c_Ns_order 45 = .ok (.iadd, 1) := by decide +kernel
theorem d_Ns_order_46 : decode c_Ns_order 46 = .ok (.aload_n 0, 1) := by decide +kernel
theorem d_Ns_order_47 : decode c_Ns_order 47 = .ok (.iload 5, 2) := by decide +kernel
theorem d_Ns_order_49 : decode c_Ns_order 49 = .ok (.baload, 1) := by decide +kernel
theorem d_Ns_order_50 : decode c_Ns_order 50 = .ok (.aload_n 1, 1) := by decide +kernel
theorem d_Ns_order_51 : decode c_Ns_order 51 = .ok (.iload 6, 2) := by decide +kernel
theorem d_Ns_order_53 : decode c_Ns_order 53 = .ok (.iconst 1, 1) := by decide +kernel
theorem d_Ns_order_54 : decode c_Ns_order 54 = .ok (.iadd, 1) := by decide +kernel
theorem d_Ns_order_55 : decode c_Ns_order 55 = .ok (.aload_n 1, 1) := by decide +kernel
theorem d_Ns_order_56 : decode c_Ns_order 56 = .ok (.iload 6, 2) := by decide +kernel
theorem d_Ns_order_58 : decode c_Ns_order 58 = .ok (.baload, 1) := by decide +kernel
theorem d_Ns_order_59 : decode c_Ns_order 59 = .ok (.invokestatic 29, 3) := by decide +kernel
theorem d_Ns_order_62 : decode c_Ns_order 62 = .ok (.istore 7, 2) := by decide +kernel
theorem d_Ns_order_64 : decode c_Ns_order 64 = .ok (.iload 7, 2) := by decide +kernel
theorem d_Ns_order_66 : decode c_Ns_order 66 = .ok (.ifCond .eq 6, 3) := by decide +kernel
theorem d_Ns_order_69 : decode c_Ns_order 69 = .ok (.iload 7, 2) := by decide +kernel
theorem d_Ns_order_71 : decode c_Ns_order 71 = .ok (.ireturn, 1) := by decide +kernel
theorem d_Ns_order_72 : decode c_Ns_order 72 = .ok (.iinc 4 1, 3) := by decide +kernel
theorem d_Ns_order_75 : decode c_Ns_order 75 = .ok (.goto (-62), 3) := by decide +kernel
theorem d_Ns_order_78 : decode c_Ns_order 78 = .ok (.iload_n 2, 1) := by decide +kernel
theorem d_Ns_order_79 : decode c_Ns_order 79 = .ok (.iload_n 3, 1) := by decide +kernel
theorem d_Ns_order_80 : decode c_Ns_order 80 = .ok (.if_icmp .ne 7, 3) := by decide +kernel
theorem d_Ns_order_83 : decode c_Ns_order 83 = .ok (.iconst 0, 1) := by decide +kernel
theorem d_Ns_order_84 : decode c_Ns_order 84 = .ok (.goto 13, 3) := by decide +kernel
theorem d_Ns_order_87 : decode c_Ns_order 87 = .ok (.iload_n 2, 1) := by decide +kernel
theorem d_Ns_order_88 : decode c_Ns_order 88 = .ok (.iload_n 3, 1) := by decide +kernel
theorem d_Ns_order_89 : decode c_Ns_order 89 = .ok (.if_icmp .ge 7, 3) := by decide +kernel
theorem d_Ns_order_92 : decode c_Ns_order 92 = .ok (.iconst (-1), 1) := by decide +kernel
theorem d_Ns_order_93 : decode c_Ns_order 93 = .ok (.goto 4, 3) := by decide +kernel
theorem d_Ns_order_96 : decode c_Ns_order 96 = .ok (.iconst 1, 1) := by decide +kernel
theorem d_Ns_order_97 : decode c_Ns_order 97 = .ok (.ireturn, 1) := by decide +kernel
abbrev rm_Ns_order : Room := { frames := 2, cells := 0, slots := 0, locals := 60 }
set_option maxHeartbeats 4000000 in
set_option maxRecDepth 100000 in
/-- Names.order(a, b) -/
theorem t_Ns_order (l : Launch) (E : zc_E) (G : zg_G) (b0 : Nat) (ls0 : np_N) (f0 : Nat → Int32) (hb0 : G b0 = some (.inl (E.2.1 0, np_len ls0, .inl f0))) (hf0 : np_f ls0 f0) (hg0 : np_g ls0) (hft0 : sb_Fit f0) (b1 : Nat) (ls1 : np_N) (f1 : Nat → Int32) (hb1 : G b1 = some (.inl (E.2.1 0, np_len ls1, .inl f1))) (hf1 : np_f ls1 f1) (hg1 : np_g ls1) (hft1 : sb_Fit f1) : zMi l E y_Ns_order c_Ns_order 8 (some .int) rm_Ns_order [.ref b0, .ref b1] G (fun (r : Int32) (G2 : zg_G) => r = zsg (nk_d (zky ls0) (zky ls1)) ∧ G2 = G) := by
  refine zMi.of (by decide) (Nat.le_of_ble_eq_true rfl) ?_
  intro p e s m args below meth c Q hZ hG hret ls hl
  obtain ⟨hx, hb, hr, hts, hown, hlocks, hml, hnm, hbase, hK, hN, hQ⟩ := hZ
  have hl : lv_has ls 8 [(0, .ref b0), (1, .ref b1)] := hl
  have hS : zg_S (zc_b E) s.heap s.heap [] := va_S.rf
  have zl0 := hg0.2
  have zc0 := hg0.count
  have zl1 := hg1.2
  have zc1 := hg1.count
  refine lv_aload_n hx hb d_Ns_order_0 rfl (lv_at hl 0 rfl) ?_
  refine zk_i (va_runS (As := [.ref b0]) (rest := []) ⟨hx, hb, hml, hown, hts⟩ (t_Ns_labels l E G b0 ls0 f0 hb0 hf0 hg0) (zcS 1 hts w_1466 w_1461 w_33 w_1462 (by decide +kernel) ⟨Nat.le_of_ble_eq_true rfl, Nat.le_of_ble_eq_true rfl⟩) (zc_pre hbase hK hN hQ hG hS) rfl rfl hl.1 rfl (lv_room (Nat.le_of_ble_eq_true rfl)) d_Ns_order_1 ⟨(by decide), (by decide)⟩) hS (fun r1 G1 H locs hp1 hG hS => ?_)
  have hG : zP E G H := hp1.2 ▸ hG
  refine zi_as (y := nI ls0.length) hp1.1 ?_
  refine lv_istore_n (lv' := [(2, .int (nI ls0.length)), (0, .ref b0), (1, .ref b1)]) hx hb d_Ns_order_4 rfl hl (by decide) rfl (fun ls hl => ?_)
  refine lv_aload_n hx hb d_Ns_order_5 rfl (lv_at hl 2 rfl) ?_
  refine zk_i (va_runS (As := [.ref b1]) (rest := []) ⟨hx, hb, hml, hown, hts⟩ (t_Ns_labels l E G b1 ls1 f1 hb1 hf1 hg1) (zcS 1 hts w_1466 w_1461 w_33 w_1462 (by decide +kernel) ⟨Nat.le_of_ble_eq_true rfl, Nat.le_of_ble_eq_true rfl⟩) (zc_pre hbase hK hN hQ hG hS) rfl rfl hl.1 rfl (lv_room (Nat.le_of_ble_eq_true rfl)) d_Ns_order_6 ⟨(by decide), (by decide)⟩) hS (fun r6 G6 H locs hp6 hG hS => ?_)
  have hG : zP E G H := hp6.2 ▸ hG
  refine zi_as (y := nI ls1.length) hp6.1 ?_
  refine lv_istore_n (lv' := [(3, .int (nI ls1.length)), (2, .int (nI ls0.length)), (0, .ref b0), (1, .ref b1)]) hx hb d_Ns_order_9 rfl hl (by decide) rfl (fun ls hl => ?_)
  refine lv_iconst (v := 1) hx hb d_Ns_order_10 (by decide) ?_
  refine zi_as (y := nI (0 + 1)) (by decide) ?_
  refine lv_istore (lv' := [(4, .int (nI (0 + 1))), (3, .int (nI ls1.length)), (2, .int (nI ls0.length)), (0, .ref b0), (1, .ref b1)]) hx hb d_Ns_order_11 hl (by decide) rfl (fun ls hl => ?_)
  have loop13 : ∀ (N : Nat) (i : Nat) (H : Heap) (locs : List Loc), (ls0.length - i) < N → (i ≤ ls0.length) → (i ≤ ls1.length) → (∀ j, j < i → nk_l ((zky ls0).getD j []) ((zky ls1).getD j []) = 0) → zP E G H → zg_S (zc_b E) s.heap H locs → ∀ (ls : Array Slot), lv_has ls 8 [(0, .ref b0), (1, .ref b1), (2, .int (nI ls0.length)), (3, .int (nI ls1.length)), (4, .int (nI (i + 1)))] → W p l e rm_Ns_order s m args below meth c H locs 0 0 Q (F0 m 13 ls []) := by
    intro N
    induction N with
    | zero =>
      intro i H locs hlt
      exact absurd hlt (Nat.not_lt_zero _)
    | succ N ih =>
      intro i H locs hlt hi hi2 hq hG hS ls hl
      refine lv_iload hx hb d_Ns_order_13 (lv_at hl 4 rfl) ?_
      refine lv_iload_n hx hb d_Ns_order_15 rfl (lv_at hl 2 rfl) ?_
      refine lv_icmp_gt (tgt := 78) hx hb d_Ns_order_16 (by decide) (fun c16 => ?_) (fun c16 => ?_)
      · have b16 : ls0.length < (i + 1) := (nI_ltI (a := ls0.length) (b := (i + 1)) (by omega) (by omega)).mp c16
        refine lv_iload_n hx hb d_Ns_order_78 rfl (lv_at hl 2 rfl) ?_
        refine lv_iload_n hx hb d_Ns_order_79 rfl (lv_at hl 3 rfl) ?_
        refine lv_icmp_ne (tgt := 87) hx hb d_Ns_order_80 (by decide) (fun c80 => ?_) (fun c80 => ?_)
        · have b80 : ¬ ls0.length = ls1.length := fun q => c80 ((nI_eq (a := ls0.length) (b := ls1.length) (by omega) (by omega)).mpr q)
          refine lv_iload_n hx hb d_Ns_order_87 rfl (lv_at hl 2 rfl) ?_
          refine lv_iload_n hx hb d_Ns_order_88 rfl (lv_at hl 3 rfl) ?_
          refine lv_icmp_ge (tgt := 96) hx hb d_Ns_order_89 (by decide) (fun c89 => ?_) (fun c89 => ?_)
          · have b89 : ls1.length ≤ ls0.length := (nI_leI (a := ls1.length) (b := ls0.length) (by omega) (by omega)).mp c89
            refine lv_iconst (v := 1) hx hb d_Ns_order_96 (by decide) ?_
            exact hret _ _ _ _ _ _ _ _ _ hr (rfl) (⟨by first | exact zsg_0 (by rw [(nk_d_end (A := zky ls0) (B := zky ls1) (fun j hj => hq j (by rw [zky_len, zky_len] at hj; omega))), zky_len, zky_len]; omega) | exact zsg_n (by rw [(nk_d_end (A := zky ls0) (B := zky ls1) (fun j hj => hq j (by rw [zky_len, zky_len] at hj; omega))), zky_len, zky_len]; omega) | exact zsg_p (by rw [(nk_d_end (A := zky ls0) (B := zky ls1) (fun j hj => hq j (by rw [zky_len, zky_len] at hj; omega))), zky_len, zky_len]; omega), rfl⟩) hG hS (Nat.le_refl _) (Nat.le_refl _) d_Ns_order_97
          · have b89 : ¬ ls1.length ≤ ls0.length := fun q => c89 ((nI_leI (a := ls1.length) (b := ls0.length) (by omega) (by omega)).mpr q)
            refine lv_iconst (v := -1) hx hb d_Ns_order_92 (by decide) ?_
            refine lv_goto (tgt := 97) hx hb d_Ns_order_93 (by decide) ?_
            exact hret _ _ _ _ _ _ _ _ _ hr (rfl) (⟨by first | exact zsg_0 (by rw [(nk_d_end (A := zky ls0) (B := zky ls1) (fun j hj => hq j (by rw [zky_len, zky_len] at hj; omega))), zky_len, zky_len]; omega) | exact zsg_n (by rw [(nk_d_end (A := zky ls0) (B := zky ls1) (fun j hj => hq j (by rw [zky_len, zky_len] at hj; omega))), zky_len, zky_len]; omega) | exact zsg_p (by rw [(nk_d_end (A := zky ls0) (B := zky ls1) (fun j hj => hq j (by rw [zky_len, zky_len] at hj; omega))), zky_len, zky_len]; omega), rfl⟩) hG hS (Nat.le_refl _) (Nat.le_refl _) d_Ns_order_97
        · have b80 : ls0.length = ls1.length := (nI_eq (a := ls0.length) (b := ls1.length) (by omega) (by omega)).mp c80
          refine lv_iconst (v := 0) hx hb d_Ns_order_83 (by decide) ?_
          refine lv_goto (tgt := 97) hx hb d_Ns_order_84 (by decide) ?_
          exact hret _ _ _ _ _ _ _ _ _ hr (rfl) (⟨by first | exact zsg_0 (by rw [(nk_d_end (A := zky ls0) (B := zky ls1) (fun j hj => hq j (by rw [zky_len, zky_len] at hj; omega))), zky_len, zky_len]; omega) | exact zsg_n (by rw [(nk_d_end (A := zky ls0) (B := zky ls1) (fun j hj => hq j (by rw [zky_len, zky_len] at hj; omega))), zky_len, zky_len]; omega) | exact zsg_p (by rw [(nk_d_end (A := zky ls0) (B := zky ls1) (fun j hj => hq j (by rw [zky_len, zky_len] at hj; omega))), zky_len, zky_len]; omega), rfl⟩) hG hS (Nat.le_refl _) (Nat.le_refl _) d_Ns_order_97
      · have b16 : ¬ ls0.length < (i + 1) := fun q => c16 ((nI_ltI (a := ls0.length) (b := (i + 1)) (by omega) (by omega)).mpr q)
        refine lv_iload hx hb d_Ns_order_19 (lv_at hl 4 rfl) ?_
        refine lv_iload_n hx hb d_Ns_order_21 rfl (lv_at hl 3 rfl) ?_
        refine lv_icmp_gt (tgt := 78) hx hb d_Ns_order_22 (by decide) (fun c22 => ?_) (fun c22 => ?_)
        · have b22 : ls1.length < (i + 1) := (nI_ltI (a := ls1.length) (b := (i + 1)) (by omega) (by omega)).mp c22
          refine lv_iload_n hx hb d_Ns_order_78 rfl (lv_at hl 2 rfl) ?_
          refine lv_iload_n hx hb d_Ns_order_79 rfl (lv_at hl 3 rfl) ?_
          refine lv_icmp_ne (tgt := 87) hx hb d_Ns_order_80 (by decide) (fun c80 => ?_) (fun c80 => ?_)
          · have b80 : ¬ ls0.length = ls1.length := fun q => c80 ((nI_eq (a := ls0.length) (b := ls1.length) (by omega) (by omega)).mpr q)
            refine lv_iload_n hx hb d_Ns_order_87 rfl (lv_at hl 2 rfl) ?_
            refine lv_iload_n hx hb d_Ns_order_88 rfl (lv_at hl 3 rfl) ?_
            refine lv_icmp_ge (tgt := 96) hx hb d_Ns_order_89 (by decide) (fun c89 => ?_) (fun c89 => ?_)
            · have b89 : ls1.length ≤ ls0.length := (nI_leI (a := ls1.length) (b := ls0.length) (by omega) (by omega)).mp c89
              refine lv_iconst (v := 1) hx hb d_Ns_order_96 (by decide) ?_
              exact hret _ _ _ _ _ _ _ _ _ hr (rfl) (⟨by first | exact zsg_0 (by rw [(nk_d_end (A := zky ls0) (B := zky ls1) (fun j hj => hq j (by rw [zky_len, zky_len] at hj; omega))), zky_len, zky_len]; omega) | exact zsg_n (by rw [(nk_d_end (A := zky ls0) (B := zky ls1) (fun j hj => hq j (by rw [zky_len, zky_len] at hj; omega))), zky_len, zky_len]; omega) | exact zsg_p (by rw [(nk_d_end (A := zky ls0) (B := zky ls1) (fun j hj => hq j (by rw [zky_len, zky_len] at hj; omega))), zky_len, zky_len]; omega), rfl⟩) hG hS (Nat.le_refl _) (Nat.le_refl _) d_Ns_order_97
            · have b89 : ¬ ls1.length ≤ ls0.length := fun q => c89 ((nI_leI (a := ls1.length) (b := ls0.length) (by omega) (by omega)).mpr q)
              refine lv_iconst (v := -1) hx hb d_Ns_order_92 (by decide) ?_
              refine lv_goto (tgt := 97) hx hb d_Ns_order_93 (by decide) ?_
              exact hret _ _ _ _ _ _ _ _ _ hr (rfl) (⟨by first | exact zsg_0 (by rw [(nk_d_end (A := zky ls0) (B := zky ls1) (fun j hj => hq j (by rw [zky_len, zky_len] at hj; omega))), zky_len, zky_len]; omega) | exact zsg_n (by rw [(nk_d_end (A := zky ls0) (B := zky ls1) (fun j hj => hq j (by rw [zky_len, zky_len] at hj; omega))), zky_len, zky_len]; omega) | exact zsg_p (by rw [(nk_d_end (A := zky ls0) (B := zky ls1) (fun j hj => hq j (by rw [zky_len, zky_len] at hj; omega))), zky_len, zky_len]; omega), rfl⟩) hG hS (Nat.le_refl _) (Nat.le_refl _) d_Ns_order_97
          · have b80 : ls0.length = ls1.length := (nI_eq (a := ls0.length) (b := ls1.length) (by omega) (by omega)).mp c80
            refine lv_iconst (v := 0) hx hb d_Ns_order_83 (by decide) ?_
            refine lv_goto (tgt := 97) hx hb d_Ns_order_84 (by decide) ?_
            exact hret _ _ _ _ _ _ _ _ _ hr (rfl) (⟨by first | exact zsg_0 (by rw [(nk_d_end (A := zky ls0) (B := zky ls1) (fun j hj => hq j (by rw [zky_len, zky_len] at hj; omega))), zky_len, zky_len]; omega) | exact zsg_n (by rw [(nk_d_end (A := zky ls0) (B := zky ls1) (fun j hj => hq j (by rw [zky_len, zky_len] at hj; omega))), zky_len, zky_len]; omega) | exact zsg_p (by rw [(nk_d_end (A := zky ls0) (B := zky ls1) (fun j hj => hq j (by rw [zky_len, zky_len] at hj; omega))), zky_len, zky_len]; omega), rfl⟩) hG hS (Nat.le_refl _) (Nat.le_refl _) d_Ns_order_97
        · have b22 : ¬ ls1.length < (i + 1) := fun q => c22 ((nI_ltI (a := ls1.length) (b := (i + 1)) (by omega) (by omega)).mpr q)
          have w0 := np_pos_succ ls0 (ls0.length - (i + 1)) (by omega)
          have w1 := np_pos_succ ls1 (ls1.length - (i + 1)) (by omega)
          have v0 := np_pos_le ls0 (ls0.length - (i + 1) + 1) (by omega)
          have v1 := np_pos_le ls1 (ls1.length - (i + 1) + 1) (by omega)
          refine lv_aload_n hx hb d_Ns_order_25 rfl (lv_at hl 0 rfl) ?_
          refine lv_iload hx hb d_Ns_order_26 (lv_at hl 4 rfl) ?_
          refine zk_i (va_runS (As := [.ref b0, .int (nI (i + 1))]) (rest := []) ⟨hx, hb, hml, hown, hts⟩ (t_Ns_place l E G b0 ls0 f0 hb0 hf0 hg0 (i + 1) (by omega)) (zcS 2 hts w_1508 w_1464 w_33 w_1465 (by decide +kernel) ⟨Nat.le_of_ble_eq_true rfl, Nat.le_of_ble_eq_true rfl⟩) (zc_pre hbase hK hN hQ hG hS) rfl rfl hl.1 rfl (lv_room (Nat.le_of_ble_eq_true rfl)) d_Ns_order_28 ⟨(by decide), (by decide)⟩) hS (fun r28 G28 H locs hp28 hG hS => ?_)
          have hG : zP E G H := hp28.2 ▸ hG
          refine zi_as (y := nI (np_pos ls0 (ls0.length - (i + 1)))) hp28.1 ?_
          refine lv_istore (lv' := [(5, .int (nI (np_pos ls0 (ls0.length - (i + 1))))), (0, .ref b0), (1, .ref b1), (2, .int (nI ls0.length)), (3, .int (nI ls1.length)), (4, .int (nI (i + 1)))]) hx hb d_Ns_order_31 hl (by decide) rfl (fun ls hl => ?_)
          refine lv_aload_n hx hb d_Ns_order_33 rfl (lv_at hl 2 rfl) ?_
          refine lv_iload hx hb d_Ns_order_34 (lv_at hl 5 rfl) ?_
          refine zk_i (va_runS (As := [.ref b1, .int (nI (i + 1))]) (rest := []) ⟨hx, hb, hml, hown, hts⟩ (t_Ns_place l E G b1 ls1 f1 hb1 hf1 hg1 (i + 1) (by omega)) (zcS 2 hts w_1508 w_1464 w_33 w_1465 (by decide +kernel) ⟨Nat.le_of_ble_eq_true rfl, Nat.le_of_ble_eq_true rfl⟩) (zc_pre hbase hK hN hQ hG hS) rfl rfl hl.1 rfl (lv_room (Nat.le_of_ble_eq_true rfl)) d_Ns_order_36 ⟨(by decide), (by decide)⟩) hS (fun r36 G36 H locs hp36 hG hS => ?_)
          have hG : zP E G H := hp36.2 ▸ hG
          refine zi_as (y := nI (np_pos ls1 (ls1.length - (i + 1)))) hp36.1 ?_
          refine lv_istore (lv' := [(6, .int (nI (np_pos ls1 (ls1.length - (i + 1))))), (5, .int (nI (np_pos ls0 (ls0.length - (i + 1))))), (0, .ref b0), (1, .ref b1), (2, .int (nI ls0.length)), (3, .int (nI ls1.length)), (4, .int (nI (i + 1)))]) hx hb d_Ns_order_39 hl (by decide) rfl (fun ls hl => ?_)
          refine lv_aload_n hx hb d_Ns_order_41 rfl (lv_at hl 2 rfl) ?_
          refine lv_iload hx hb d_Ns_order_42 (lv_at hl 1 rfl) ?_
          refine lv_iconst (v := 1) hx hb d_Ns_order_44 (by decide) ?_
          refine lv_iadd hx hb d_Ns_order_45 ?_
          refine zi_as (y := nI (np_pos ls0 (ls0.length - (i + 1)) + 1)) (nI_add (np_pos ls0 (ls0.length - (i + 1))) 1) ?_
          refine lv_aload_n hx hb d_Ns_order_46 rfl (lv_at hl 2 rfl) ?_
          refine lv_iload hx hb d_Ns_order_47 (lv_at hl 1 rfl) ?_
          refine zg_bald hx hb hK hG 0 hb0 rfl (np_in hg0 (by omega)) d_Ns_order_49 ?_
          refine zi_as (y := nI (ls0.getD (ls0.length - (i + 1)) []).length) (np_rd hf0 hg0 (by omega)) ?_
          refine lv_aload_n hx hb d_Ns_order_50 rfl (lv_at hl 3 rfl) ?_
          refine lv_iload hx hb d_Ns_order_51 (lv_at hl 0 rfl) ?_
          refine lv_iconst (v := 1) hx hb d_Ns_order_53 (by decide) ?_
          refine lv_iadd hx hb d_Ns_order_54 ?_
          refine zi_as (y := nI (np_pos ls1 (ls1.length - (i + 1)) + 1)) (nI_add (np_pos ls1 (ls1.length - (i + 1))) 1) ?_
          refine lv_aload_n hx hb d_Ns_order_55 rfl (lv_at hl 3 rfl) ?_
          refine lv_iload hx hb d_Ns_order_56 (lv_at hl 0 rfl) ?_
          refine zg_bald hx hb hK hG 0 hb1 rfl (np_in hg1 (by omega)) d_Ns_order_58 ?_
          refine zi_as (y := nI (ls1.getD (ls1.length - (i + 1)) []).length) (np_rd hf1 hg1 (by omega)) ?_
          refine zk_i (va_runS (As := [.ref b0, .int (nI (np_pos ls0 (ls0.length - (i + 1)) + 1)), .int (nI (ls0.getD (ls0.length - (i + 1)) []).length), .ref b1, .int (nI (np_pos ls1 (ls1.length - (i + 1)) + 1)), .int (nI (ls1.getD (ls1.length - (i + 1)) []).length)]) (rest := []) ⟨hx, hb, hml, hown, hts⟩ (t_Ns_bytes l E G b0 (np_len ls0) f0 hb0 hft0 b1 (np_len ls1) f1 hb1 hft1 (np_pos ls0 (ls0.length - (i + 1)) + 1) (ls0.getD (ls0.length - (i + 1)) []).length (np_pos ls1 (ls1.length - (i + 1)) + 1) (ls1.getD (ls1.length - (i + 1)) []).length (by omega) (by omega) (by omega) (by omega)) (zcS 6 hts w_1509 w_1510 w_33 w_1511 (by decide +kernel) ⟨Nat.le_of_ble_eq_true rfl, Nat.le_of_ble_eq_true rfl⟩) (zc_pre hbase hK hN hQ hG hS) rfl rfl hl.1 rfl (lv_room (Nat.le_of_ble_eq_true rfl)) d_Ns_order_59 ⟨(by decide), (by decide)⟩) hS (fun r59 G59 H locs hp59 hG hS => ?_)
          have hG : zP E G H := hp59.2 ▸ hG
          have hr59 : r59 = zsg (nk_l ((zky ls0).getD i []) ((zky ls1).getD i [])) := by rw [zky_at (by omega), zky_at (by omega), ← zu_lab hf0 (show ls0.length - (i + 1) < ls0.length by omega), ← zu_lab hf1 (show ls1.length - (i + 1) < ls1.length by omega)]; exact hp59.1
          refine lv_istore (lv' := [(7, .int r59), (6, .int (nI (np_pos ls1 (ls1.length - (i + 1))))), (5, .int (nI (np_pos ls0 (ls0.length - (i + 1))))), (0, .ref b0), (1, .ref b1), (2, .int (nI ls0.length)), (3, .int (nI ls1.length)), (4, .int (nI (i + 1)))]) hx hb d_Ns_order_62 hl (by decide) rfl (fun ls hl => ?_)
          refine lv_iload hx hb d_Ns_order_64 (lv_at hl 0 rfl) ?_
          refine lv_if_eq (tgt := 72) hx hb d_Ns_order_66 (by decide) (fun c66 => ?_) (fun c66 => ?_)
          · refine lv_iinc (v := nI (i + 1 + 1)) (lv' := [(4, .int (nI (i + 1 + 1))), (7, .int r59), (6, .int (nI (np_pos ls1 (ls1.length - (i + 1))))), (5, .int (nI (np_pos ls0 (ls0.length - (i + 1))))), (0, .ref b0), (1, .ref b1), (2, .int (nI ls0.length)), (3, .int (nI ls1.length))]) hx hb d_Ns_order_72 hl (k := 7) rfl (nI_add (i + 1) 1) (by decide) rfl (fun ls hl => ?_)
            refine lv_goto (tgt := 13) hx hb d_Ns_order_75 (by decide) ?_
            exact ih (i + 1) _ _ (by omega) (by omega) (by omega) (nk_up hq (zsg_z.mp (hr59.symm.trans c66))) hG hS ls (lv_sub hl [4, 5, 6, 7, 0] rfl)
          · refine lv_iload hx hb d_Ns_order_69 (lv_at hl 0 rfl) ?_
            exact hret _ _ _ _ _ _ _ _ _ hr (rfl) (⟨by rw [nk_d_at (i := i) (by rw [zky_len]; omega) (by rw [zky_len]; omega) hq (fun z => c66 (hr59.trans (zsg_z.mpr z)))]; exact hr59, rfl⟩) hG hS (Nat.le_refl _) (Nat.le_refl _) d_Ns_order_71
  exact loop13 _ 0 _ _ (Nat.lt_succ_self _) (Nat.zero_le _) (Nat.zero_le _) (fun j h => absurd h (Nat.not_lt_zero j)) hG hS ls (lv_sub hl [3, 4, 2, 1, 0] rfl)
