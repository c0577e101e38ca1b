/-- bytes without sign -/
def zu (f : Nat → Int32) (x n : Nat) : List Nat := (List.range n).map (fun j => (f (x + j) &&& 255).toNatClampNeg)
theorem zu_len {f : Nat → Int32} {x n : Nat} : (zu f x n).length = n := by simp [zu]
theorem zu_at {f : Nat → Int32} {x n j c : Nat} (hj : j < n) (hc : c < 256) (h : f (x + j) = sb_b c) : (zu f x n).getD j 0 = c := by
  unfold zu
  rw [List.getD_eq_getElem?_getD]
  simp [hj]
  rw [h, (sb_byte c hc).1]
  exact nI_clamp (by omega)
theorem nk_l_drop : ∀ (i : Nat) {A B : List Nat}, i ≤ A.length → i ≤ B.length → (∀ j, j < i → A.getD j 0 = B.getD j 0) → nk_l A B = nk_l (A.drop i) (B.drop i) := by
  intro i
  induction i with
  | zero => intro A B _ _ _; rfl
  | succ i ih =>
    intro A B h1 h2 h
    cases A with
    | nil => simp at h1
    | cons a A =>
      cases B with
      | nil => simp at h2
      | cons b B =>
        have e : a = b := h 0 (by omega)
        show (if a = b then nk_l A B else _) = nk_l (A.drop i) (B.drop i)
        rw [if_pos e]
        exact ih (by simpa using h1) (by simpa using h2) (fun j hj => by have := h (j + 1) (by omega); simpa using this)
theorem nk_l_at {i : Nat} {A B : List Nat} (h1 : i < A.length) (h2 : i < B.length) (h : ∀ j, j < i → A.getD j 0 = B.getD j 0) (hn : A.getD i 0 ≠ B.getD i 0) : nk_l A B = (A.getD i 0 : Int) - B.getD i 0 := by
  rw [nk_l_drop i (by omega) (by omega) h, List.drop_eq_getElem_cons h1, List.drop_eq_getElem_cons h2]
  have e1 : A.getD i 0 = A[i] := by rw [List.getD_eq_getElem?_getD, List.getElem?_eq_getElem h1]; rfl
  have e2 : B.getD i 0 = B[i] := by rw [List.getD_eq_getElem?_getD, List.getElem?_eq_getElem h2]; rfl
  rw [e1, e2] at hn ⊢
  show (if A[i] = B[i] then _ else _) = _
  rw [if_neg hn]
theorem nk_l_end {A B : List Nat} (h : ∀ j, j < min A.length B.length → A.getD j 0 = B.getD j 0) : nk_l A B = (A.length : Int) - B.length := by
  rw [nk_l_drop (min A.length B.length) (by omega) (by omega) h]
  rcases Nat.le_total A.length B.length with q | q
  · rw [Nat.min_eq_left q, List.drop_length]
    cases e : B.drop A.length with
    | nil =>
      have := List.drop_eq_nil_iff.mp e
      show (0 : Int) = _
      omega
    | cons b y =>
      have := congrArg List.length e
      rw [List.length_drop] at this
      show -((b :: y).length : Int) = _
      omega
  · rw [Nat.min_eq_right q, List.drop_length]
    cases e : A.drop B.length with
    | nil =>
      have := List.drop_eq_nil_iff.mp e
      show (0 : Int) = _
      omega
    | cons b y =>
      have := congrArg List.length e
      rw [List.length_drop] at this
      show ((b :: y).length : Int) = _
      omega
/-- a sign -/
def zsg (z : Int) : Int32 := if z < 0 then -1 else if z = 0 then 0 else 1
theorem zsg_n {z : Int} (h : z < 0) : -1 = zsg z := by unfold zsg; rw [if_pos h]
theorem zsg_0 {z : Int} (h : z = 0) : 0 = zsg z := by unfold zsg; rw [if_neg (by omega), if_pos h]
theorem zsg_p {z : Int} (h : 0 < z) : 1 = zsg z := by unfold zsg; rw [if_neg (by omega), if_neg (by omega)]
theorem zu_up {f1 f2 : Nat → Int32} {x y k1 k2 i : Nat} (h : ∀ j, j < i → (zu f1 x k1).getD j 0 = (zu f2 y k2).getD j 0) (e : (zu f1 x k1).getD i 0 = (zu f2 y k2).getD i 0) : ∀ j, j < i + 1 → (zu f1 x k1).getD j 0 = (zu f2 y k2).getD j 0 := by
  intro j hj
  rcases Nat.lt_or_ge j i with q | q
  · exact h j q
  · rw [show j = i by omega]; exact e
abbrev c_Ns_bytes : ByteArray := prog_13_method_12_code
abbrev y_Ns_bytes : MethodName := ⟨"ZoneAnswersModel$Names", "bytes", "([BII[BII)I"⟩
theorem d_Ns_bytes_0 : decode c_Ns_bytes 0 = .ok (.iconst 0, 1) := by decide +kernel
theorem d_Ns_bytes_1 : decode c_Ns_bytes 1 = .ok (.istore 6, 2) := by decide +kernel
theorem d_Ns_bytes_3 : decode c_Ns_bytes 3 = .ok (.iload 6, 2) := by decide +kernel
theorem d_Ns_bytes_5 : decode c_Ns_bytes 5 = .ok (.iload_n 2, 1) := by decide +kernel
theorem d_Ns_bytes_6 : decode c_Ns_bytes 6 = .ok (.if_icmp .ge 61, 3) := by decide +kernel
theorem d_Ns_bytes_9 : decode c_Ns_bytes 9 = .ok (.iload 6, 2) := by decide +kernel
theorem d_Ns_bytes_11 : decode c_Ns_bytes 11 = .ok (.iload 5, 2) := by decide +kernel
theorem d_Ns_bytes_13 : decode c_Ns_bytes 13 = .ok (.if_icmp .ge 54, 3) := by decide +kernel
theorem d_Ns_bytes_16 : decode c_Ns_bytes 16 = .ok (.aload_n 0, 1) := by decide +kernel
theorem d_Ns_bytes_17 : decode c_Ns_bytes 17 = .ok (.iload_n 1, 1) := by decide +kernel
theorem d_Ns_bytes_18 : decode c_Ns_bytes 18 = .ok (.iload 6, 2) := by decide +kernel
theorem d_Ns_bytes_20 : decode c_Ns_bytes 20 = .ok (.iadd, 1) := by decide +kernel
theorem d_Ns_bytes_21 : decode c_Ns_bytes 21 = .ok (.baload, 1) := by decide +kernel
theorem d_Ns_bytes_22 : decode c_Ns_bytes 22 = .ok (.sipush 255, 3) := by decide +kernel
theorem d_Ns_bytes_25 : decode c_Ns_bytes 25 = .ok (.iand, 1) := by decide +kernel
theorem d_Ns_bytes_26 : decode c_Ns_bytes 26 = .ok (.istore 7, 2) := by decide +kernel
theorem d_Ns_bytes_28 : decode c_Ns_bytes 28 = .ok (.aload_n 3, 1) := by decide +kernel
theorem d_Ns_bytes_29 : decode c_Ns_bytes 29 = .ok (.iload 4, 2) := by decide +kernel
theorem d_Ns_bytes_31 : decode c_Ns_bytes 31 = .ok (.iload 6, 2) := by decide +kernel
theorem d_Ns_bytes_33 : decode c_Ns_bytes 33 = .ok (.iadd, 1) := by decide +kernel
theorem d_Ns_bytes_34 : decode c_Ns_bytes 34 = .ok (.baload, 1) := by decide +kernel
theorem d_Ns_bytes_35 : decode c_Ns_bytes 35 = .ok (.sipush 255, 3) := by decide +kernel
theorem d_Ns_bytes_38 : decode c_Ns_bytes 38 = .ok (.iand, 1) := by decide +kernel
theorem d_Ns_bytes_39 : decode c_Ns_bytes 39 = .ok (.istore 8, 2) := by decide +kernel
theorem d_Ns_bytes_41 : decode c_Ns_bytes 41 = .ok (.iload 7, 2) := by decide +kernel
theorem d_Ns_bytes_43 : decode c_Ns_bytes 43 = .ok (.iload 8, 2) := by decide +kernel
theorem d_Ns_bytes_45 : decode c_Ns_bytes 45 = .ok (.if_icmp .eq 16, 3) := by decide +kernel
theorem d_Ns_bytes_48 : decode c_Ns_bytes 48 = .ok (.iload 7, 2) := by decide +kernel
theorem d_Ns_bytes_50 : decode c_Ns_bytes 50 = .ok (.iload 8, 2) := by decide +kernel
theorem d_Ns_bytes_52 : decode c_Ns_bytes 52 = .ok (.if_icmp .ge 7, 3) := by decide +kernel
theorem d_Ns_bytes_55 : decode c_Ns_bytes 55 = .ok (.iconst (-1), 1) := by decide +kernel
theorem d_Ns_bytes_56 : decode c_Ns_bytes 56 = .ok (.goto 4, 3) := by decide +kernel
theorem d_Ns_bytes_59 : decode c_Ns_bytes 59 = .ok (.iconst 1, 1) := by decide +kernel
theorem d_Ns_bytes_60 : decode c_Ns_bytes 60 = .ok (.ireturn, 1) := by decide +kernel
theorem d_Ns_bytes_61 : decode c_Ns_bytes 61 = .ok (.iinc 6 1, 3) := by decide +kernel
theorem d_Ns_bytes_64 : decode c_Ns_bytes 64 = .ok (.goto (-61), 3) := by decide +kernel
theorem d_Ns_bytes_67 : decode c_Ns_bytes 67 = .ok (.iload_n 2, 1) := by decide +kernel
theorem d_Ns_bytes_68 : decode c_Ns_bytes 68 = .ok (.iload 5, 2) := by decide +kernel
theorem d_Ns_bytes_70 : decode c_Ns_bytes 70 = .ok (.if_icmp .ne 7, 3) := by decide +kernel
theorem d_Ns_bytes_73 : decode c_Ns_bytes 73 = .ok (.iconst 0, 1) := by decide +kernel
theorem d_Ns_bytes_74 : decode c_Ns_bytes 74 = .ok (.goto 14, 3) := by decide +kernel
theorem d_Ns_bytes_77 : decode c_Ns_bytes 77 = .ok (.iload_n 2, 1) := by decide +kernel
theorem d_Ns_bytes_78 : decode c_Ns_bytes 78 = .ok (.iload 5, 2) := by decide +kernel
theorem d_Ns_bytes_80 : decode c_Ns_bytes 80 = .ok (.if_icmp .ge 7, 3) := by decide +kernel
theorem d_Ns_bytes_83 : decode c_Ns_bytes 83 = .ok (.iconst (-1), 1) := by decide +kernel
theorem d_Ns_bytes_84 : decode c_Ns_bytes 84 = .ok (.goto 4, 3) := by decide +kernel
theorem d_Ns_bytes_87 : decode c_Ns_bytes 87 = .ok (.iconst 1, 1) := by decide +kernel
theorem d_Ns_bytes_88 : decode c_Ns_bytes 88 = .ok (.ireturn, 1) := by decide +kernel
abbrev rm_Ns_bytes : Room := { frames := 0, cells := 0, slots := 0, locals := 0 }
set_option maxHeartbeats 4000000 in
set_option maxRecDepth 100000 in
/-- Names.bytes(..): two labels by their bytes -/
theorem t_Ns_bytes (l : Launch) (E : zc_E) (G : zg_G) (a1 n1 : Nat) (f1 : Nat → Int32) (h1 : G a1 = some (.inl (E.2.1 0, n1, .inl f1))) (hft1 : sb_Fit f1) (a2 n2 : Nat) (f2 : Nat → Int32) (h2 : G a2 = some (.inl (E.2.1 0, n2, .inl f2))) (hft2 : sb_Fit f2) (x k1 y k2 : Nat) (z1 : n1 < 2 ^ 30) (z2 : n2 < 2 ^ 30) (hx1 : x + k1 ≤ n1) (hy2 : y + k2 ≤ n2) : zMi l E y_Ns_bytes c_Ns_bytes 9 (some .int) rm_Ns_bytes [.ref a1, .int (nI x), .int (nI k1), .ref a2, .int (nI y), .int (nI k2)] G (fun (r : Int32) (G2 : zg_G) => r = zsg (nk_l (zu f1 x k1) (zu f2 y k2)) ∧ G2 = G) := by
  refine zMi.of (by decide) (Nat.le_of_ble_eq_true rfl) ?_
  intro p e s m args below meth c Q hZ hG hret ls hl
  obtain ⟨hx, hb, hr, hts, hown, hlocks, hml, hnm, hbase, hK, hN, hQ⟩ := hZ
  have hl : lv_has ls 9 [(0, .ref a1), (1, .int (nI x)), (2, .int (nI k1)), (3, .ref a2), (4, .int (nI y)), (5, .int (nI k2))] := hl
  have hS : zg_S (zc_b E) s.heap s.heap [] := va_S.rf
  refine lv_iconst (v := 0) hx hb d_Ns_bytes_0 (by decide) ?_
  refine lv_istore (lv' := [(6, .int 0), (0, .ref a1), (1, .int (nI x)), (2, .int (nI k1)), (3, .ref a2), (4, .int (nI y)), (5, .int (nI k2))]) hx hb d_Ns_bytes_1 hl (by decide) rfl (fun ls hl => ?_)
  have loop3 : ∀ (N : Nat) (i : Nat), (k1 - i) < N → (i ≤ k1) → (i ≤ k2) → (∀ j, j < i → (zu f1 x k1).getD j 0 = (zu f2 y k2).getD j 0) → ∀ (ls : Array Slot), lv_has ls 9 [(0, .ref a1), (1, .int (nI x)), (2, .int (nI k1)), (3, .ref a2), (4, .int (nI y)), (5, .int (nI k2)), (6, .int (nI i))] → W p l e rm_Ns_bytes s m args below meth c s.heap [] 0 0 Q (F0 m 3 ls []) := by
    intro N
    induction N with
    | zero =>
      intro i hlt
      exact absurd hlt (Nat.not_lt_zero _)
    | succ N ih =>
      intro i hlt hi hi2 hq ls hl
      refine lv_iload hx hb d_Ns_bytes_3 (lv_at hl 6 rfl) ?_
      refine lv_iload_n hx hb d_Ns_bytes_5 rfl (lv_at hl 2 rfl) ?_
      refine lv_icmp_ge (tgt := 67) hx hb d_Ns_bytes_6 (by decide) (fun c6 => ?_) (fun c6 => ?_)
      · have b6 : k1 ≤ i := (nI_leI (a := k1) (b := i) (by omega) (by omega)).mp c6
        refine lv_iload_n hx hb d_Ns_bytes_67 rfl (lv_at hl 2 rfl) ?_
        refine lv_iload hx hb d_Ns_bytes_68 (lv_at hl 5 rfl) ?_
        refine lv_icmp_ne (tgt := 77) hx hb d_Ns_bytes_70 (by decide) (fun c70 => ?_) (fun c70 => ?_)
        · have b70 : ¬ k1 = k2 := fun q => c70 ((nI_eq (a := k1) (b := k2) (by omega) (by omega)).mpr q)
          refine lv_iload_n hx hb d_Ns_bytes_77 rfl (lv_at hl 2 rfl) ?_
          refine lv_iload hx hb d_Ns_bytes_78 (lv_at hl 5 rfl) ?_
          refine lv_icmp_ge (tgt := 87) hx hb d_Ns_bytes_80 (by decide) (fun c80 => ?_) (fun c80 => ?_)
          · have b80 : k2 ≤ k1 := (nI_leI (a := k2) (b := k1) (by omega) (by omega)).mp c80
            refine lv_iconst (v := 1) hx hb d_Ns_bytes_87 (by decide) ?_
            exact hret _ _ _ _ _ _ _ _ _ hr (rfl) (⟨by first | exact zsg_0 (by rw [(nk_l_end (A := zu f1 x k1) (B := zu f2 y k2) (fun j hj => hq j (by rw [zu_len, zu_len] at hj; omega))), zu_len, zu_len]; omega) | exact zsg_n (by rw [(nk_l_end (A := zu f1 x k1) (B := zu f2 y k2) (fun j hj => hq j (by rw [zu_len, zu_len] at hj; omega))), zu_len, zu_len]; omega) | exact zsg_p (by rw [(nk_l_end (A := zu f1 x k1) (B := zu f2 y k2) (fun j hj => hq j (by rw [zu_len, zu_len] at hj; omega))), zu_len, zu_len]; omega), rfl⟩) hG hS (Nat.le_refl _) (Nat.le_refl _) d_Ns_bytes_88
          · have b80 : ¬ k2 ≤ k1 := fun q => c80 ((nI_leI (a := k2) (b := k1) (by omega) (by omega)).mpr q)
            refine lv_iconst (v := -1) hx hb d_Ns_bytes_83 (by decide) ?_
            refine lv_goto (tgt := 88) hx hb d_Ns_bytes_84 (by decide) ?_
            exact hret _ _ _ _ _ _ _ _ _ hr (rfl) (⟨by first | exact zsg_0 (by rw [(nk_l_end (A := zu f1 x k1) (B := zu f2 y k2) (fun j hj => hq j (by rw [zu_len, zu_len] at hj; omega))), zu_len, zu_len]; omega) | exact zsg_n (by rw [(nk_l_end (A := zu f1 x k1) (B := zu f2 y k2) (fun j hj => hq j (by rw [zu_len, zu_len] at hj; omega))), zu_len, zu_len]; omega) | exact zsg_p (by rw [(nk_l_end (A := zu f1 x k1) (B := zu f2 y k2) (fun j hj => hq j (by rw [zu_len, zu_len] at hj; omega))), zu_len, zu_len]; omega), rfl⟩) hG hS (Nat.le_refl _) (Nat.le_refl _) d_Ns_bytes_88
        · have b70 : k1 = k2 := (nI_eq (a := k1) (b := k2) (by omega) (by omega)).mp c70
          refine lv_iconst (v := 0) hx hb d_Ns_bytes_73 (by decide) ?_
          refine lv_goto (tgt := 88) hx hb d_Ns_bytes_74 (by decide) ?_
          exact hret _ _ _ _ _ _ _ _ _ hr (rfl) (⟨by first | exact zsg_0 (by rw [(nk_l_end (A := zu f1 x k1) (B := zu f2 y k2) (fun j hj => hq j (by rw [zu_len, zu_len] at hj; omega))), zu_len, zu_len]; omega) | exact zsg_n (by rw [(nk_l_end (A := zu f1 x k1) (B := zu f2 y k2) (fun j hj => hq j (by rw [zu_len, zu_len] at hj; omega))), zu_len, zu_len]; omega) | exact zsg_p (by rw [(nk_l_end (A := zu f1 x k1) (B := zu f2 y k2) (fun j hj => hq j (by rw [zu_len, zu_len] at hj; omega))), zu_len, zu_len]; omega), rfl⟩) hG hS (Nat.le_refl _) (Nat.le_refl _) d_Ns_bytes_88
      · have b6 : ¬ k1 ≤ i := fun q => c6 ((nI_leI (a := k1) (b := i) (by omega) (by omega)).mpr q)
        refine lv_iload hx hb d_Ns_bytes_9 (lv_at hl 6 rfl) ?_
        refine lv_iload hx hb d_Ns_bytes_11 (lv_at hl 5 rfl) ?_
        refine lv_icmp_ge (tgt := 67) hx hb d_Ns_bytes_13 (by decide) (fun c13 => ?_) (fun c13 => ?_)
        · have b13 : k2 ≤ i := (nI_leI (a := k2) (b := i) (by omega) (by omega)).mp c13
          refine lv_iload_n hx hb d_Ns_bytes_67 rfl (lv_at hl 2 rfl) ?_
          refine lv_iload hx hb d_Ns_bytes_68 (lv_at hl 5 rfl) ?_
          refine lv_icmp_ne (tgt := 77) hx hb d_Ns_bytes_70 (by decide) (fun c70 => ?_) (fun c70 => ?_)
          · have b70 : ¬ k1 = k2 := fun q => c70 ((nI_eq (a := k1) (b := k2) (by omega) (by omega)).mpr q)
            refine lv_iload_n hx hb d_Ns_bytes_77 rfl (lv_at hl 2 rfl) ?_
            refine lv_iload hx hb d_Ns_bytes_78 (lv_at hl 5 rfl) ?_
            refine lv_icmp_ge (tgt := 87) hx hb d_Ns_bytes_80 (by decide) (fun c80 => ?_) (fun c80 => ?_)
            · have b80 : k2 ≤ k1 := (nI_leI (a := k2) (b := k1) (by omega) (by omega)).mp c80
              refine lv_iconst (v := 1) hx hb d_Ns_bytes_87 (by decide) ?_
              exact hret _ _ _ _ _ _ _ _ _ hr (rfl) (⟨by first | exact zsg_0 (by rw [(nk_l_end (A := zu f1 x k1) (B := zu f2 y k2) (fun j hj => hq j (by rw [zu_len, zu_len] at hj; omega))), zu_len, zu_len]; omega) | exact zsg_n (by rw [(nk_l_end (A := zu f1 x k1) (B := zu f2 y k2) (fun j hj => hq j (by rw [zu_len, zu_len] at hj; omega))), zu_len, zu_len]; omega) | exact zsg_p (by rw [(nk_l_end (A := zu f1 x k1) (B := zu f2 y k2) (fun j hj => hq j (by rw [zu_len, zu_len] at hj; omega))), zu_len, zu_len]; omega), rfl⟩) hG hS (Nat.le_refl _) (Nat.le_refl _) d_Ns_bytes_88
            · have b80 : ¬ k2 ≤ k1 := fun q => c80 ((nI_leI (a := k2) (b := k1) (by omega) (by omega)).mpr q)
              refine lv_iconst (v := -1) hx hb d_Ns_bytes_83 (by decide) ?_
              refine lv_goto (tgt := 88) hx hb d_Ns_bytes_84 (by decide) ?_
              exact hret _ _ _ _ _ _ _ _ _ hr (rfl) (⟨by first | exact zsg_0 (by rw [(nk_l_end (A := zu f1 x k1) (B := zu f2 y k2) (fun j hj => hq j (by rw [zu_len, zu_len] at hj; omega))), zu_len, zu_len]; omega) | exact zsg_n (by rw [(nk_l_end (A := zu f1 x k1) (B := zu f2 y k2) (fun j hj => hq j (by rw [zu_len, zu_len] at hj; omega))), zu_len, zu_len]; omega) | exact zsg_p (by rw [(nk_l_end (A := zu f1 x k1) (B := zu f2 y k2) (fun j hj => hq j (by rw [zu_len, zu_len] at hj; omega))), zu_len, zu_len]; omega), rfl⟩) hG hS (Nat.le_refl _) (Nat.le_refl _) d_Ns_bytes_88
          · have b70 : k1 = k2 := (nI_eq (a := k1) (b := k2) (by omega) (by omega)).mp c70
            refine lv_iconst (v := 0) hx hb d_Ns_bytes_73 (by decide) ?_
            refine lv_goto (tgt := 88) hx hb d_Ns_bytes_74 (by decide) ?_
            exact hret _ _ _ _ _ _ _ _ _ hr (rfl) (⟨by first | exact zsg_0 (by rw [(nk_l_end (A := zu f1 x k1) (B := zu f2 y k2) (fun j hj => hq j (by rw [zu_len, zu_len] at hj; omega))), zu_len, zu_len]; omega) | exact zsg_n (by rw [(nk_l_end (A := zu f1 x k1) (B := zu f2 y k2) (fun j hj => hq j (by rw [zu_len, zu_len] at hj; omega))), zu_len, zu_len]; omega) | exact zsg_p (by rw [(nk_l_end (A := zu f1 x k1) (B := zu f2 y k2) (fun j hj => hq j (by rw [zu_len, zu_len] at hj; omega))), zu_len, zu_len]; omega), rfl⟩) hG hS (Nat.le_refl _) (Nat.le_refl _) d_Ns_bytes_88
        · have b13 : ¬ k2 ≤ i := fun q => c13 ((nI_leI (a := k2) (b := i) (by omega) (by omega)).mpr q)
          obtain ⟨c1, h11, h12⟩ := zu8 (hft1 (x + i))
          obtain ⟨c2, h21, h22⟩ := zu8 (hft2 (y + i))
          have u1 : (zu f1 x k1).getD i 0 = c1 := zu_at (by omega) h11 h12
          have u2 : (zu f2 y k2).getD i 0 = c2 := zu_at (by omega) h21 h22
          refine lv_aload_n hx hb d_Ns_bytes_16 rfl (lv_at hl 0 rfl) ?_
          refine lv_iload_n hx hb d_Ns_bytes_17 rfl (lv_at hl 1 rfl) ?_
          refine lv_iload hx hb d_Ns_bytes_18 (lv_at hl 6 rfl) ?_
          refine lv_iadd hx hb d_Ns_bytes_20 ?_
          refine zi_as (y := nI (x + i)) (nI_add x i) ?_
          refine zg_bald hx hb hK hG 0 h1 rfl (vp_in_nI (by omega) (by omega)) d_Ns_bytes_21 ?_
          refine zi_as (y := f1 (x + i)) (by rw [zi_n _ (by omega)]) ?_
          refine lv_sipush (v := 255) hx hb d_Ns_bytes_22 (by decide) ?_
          refine lv_iand hx hb d_Ns_bytes_25 ?_
          refine zi_as (y := nI c1) (by rw [h12]; exact (sb_byte c1 h11).1) ?_
          refine lv_istore (lv' := [(7, .int (nI c1)), (0, .ref a1), (1, .int (nI x)), (2, .int (nI k1)), (3, .ref a2), (4, .int (nI y)), (5, .int (nI k2)), (6, .int (nI i))]) hx hb d_Ns_bytes_26 hl (by decide) rfl (fun ls hl => ?_)
          refine lv_aload_n hx hb d_Ns_bytes_28 rfl (lv_at hl 4 rfl) ?_
          refine lv_iload hx hb d_Ns_bytes_29 (lv_at hl 5 rfl) ?_
          refine lv_iload hx hb d_Ns_bytes_31 (lv_at hl 7 rfl) ?_
          refine lv_iadd hx hb d_Ns_bytes_33 ?_
          refine zi_as (y := nI (y + i)) (nI_add y i) ?_
          refine zg_bald hx hb hK hG 0 h2 rfl (vp_in_nI (by omega) (by omega)) d_Ns_bytes_34 ?_
          refine zi_as (y := f2 (y + i)) (by rw [zi_n _ (by omega)]) ?_
          refine lv_sipush (v := 255) hx hb d_Ns_bytes_35 (by decide) ?_
          refine lv_iand hx hb d_Ns_bytes_38 ?_
          refine zi_as (y := nI c2) (by rw [h22]; exact (sb_byte c2 h21).1) ?_
          refine lv_istore (lv' := [(8, .int (nI c2)), (7, .int (nI c1)), (0, .ref a1), (1, .int (nI x)), (2, .int (nI k1)), (3, .ref a2), (4, .int (nI y)), (5, .int (nI k2)), (6, .int (nI i))]) hx hb d_Ns_bytes_39 hl (by decide) rfl (fun ls hl => ?_)
          refine lv_iload hx hb d_Ns_bytes_41 (lv_at hl 1 rfl) ?_
          refine lv_iload hx hb d_Ns_bytes_43 (lv_at hl 0 rfl) ?_
          refine lv_icmp_eq (tgt := 61) hx hb d_Ns_bytes_45 (by decide) (fun c45 => ?_) (fun c45 => ?_)
          · have b45 : c1 = c2 := (nI_eq (a := c1) (b := c2) (by omega) (by omega)).mp c45
            refine lv_iinc (v := nI (i + 1)) (lv' := [(6, .int (nI (i + 1))), (8, .int (nI c2)), (7, .int (nI c1)), (0, .ref a1), (1, .int (nI x)), (2, .int (nI k1)), (3, .ref a2), (4, .int (nI y)), (5, .int (nI k2))]) hx hb d_Ns_bytes_61 hl (k := 8) rfl (nI_add i 1) (by decide) rfl (fun ls hl => ?_)
            refine lv_goto (tgt := 3) hx hb d_Ns_bytes_64 (by decide) ?_
            exact ih (i + 1) (by omega) (by omega) (by omega) (zu_up hq (by rw [u1, u2]; exact b45)) ls (lv_sub hl [3, 4, 5, 6, 7, 8, 0] rfl)
          · have b45 : ¬ c1 = c2 := fun q => c45 ((nI_eq (a := c1) (b := c2) (by omega) (by omega)).mpr q)
            refine lv_iload hx hb d_Ns_bytes_48 (lv_at hl 1 rfl) ?_
            refine lv_iload hx hb d_Ns_bytes_50 (lv_at hl 0 rfl) ?_
            refine lv_icmp_ge (tgt := 59) hx hb d_Ns_bytes_52 (by decide) (fun c52 => ?_) (fun c52 => ?_)
            · have b52 : c2 ≤ c1 := (nI_leI (a := c2) (b := c1) (by omega) (by omega)).mp c52
              refine lv_iconst (v := 1) hx hb d_Ns_bytes_59 (by decide) ?_
              exact hret _ _ _ _ _ _ _ _ _ hr (rfl) (⟨by first | exact zsg_n (by rw [(nk_l_at (A := zu f1 x k1) (B := zu f2 y k2) (i := i) (by rw [zu_len]; omega) (by rw [zu_len]; omega) hq (by rw [u1, u2]; exact b45)), u1, u2]; omega) | exact zsg_p (by rw [(nk_l_at (A := zu f1 x k1) (B := zu f2 y k2) (i := i) (by rw [zu_len]; omega) (by rw [zu_len]; omega) hq (by rw [u1, u2]; exact b45)), u1, u2]; omega), rfl⟩) hG hS (Nat.le_refl _) (Nat.le_refl _) d_Ns_bytes_60
            · have b52 : ¬ c2 ≤ c1 := fun q => c52 ((nI_leI (a := c2) (b := c1) (by omega) (by omega)).mpr q)
              refine lv_iconst (v := -1) hx hb d_Ns_bytes_55 (by decide) ?_
              refine lv_goto (tgt := 60) hx hb d_Ns_bytes_56 (by decide) ?_
              exact hret _ _ _ _ _ _ _ _ _ hr (rfl) (⟨by first | exact zsg_n (by rw [(nk_l_at (A := zu f1 x k1) (B := zu f2 y k2) (i := i) (by rw [zu_len]; omega) (by rw [zu_len]; omega) hq (by rw [u1, u2]; exact b45)), u1, u2]; omega) | exact zsg_p (by rw [(nk_l_at (A := zu f1 x k1) (B := zu f2 y k2) (i := i) (by rw [zu_len]; omega) (by rw [zu_len]; omega) hq (by rw [u1, u2]; exact b45)), u1, u2]; omega), rfl⟩) hG hS (Nat.le_refl _) (Nat.le_refl _) d_Ns_bytes_60
  exact loop3 _ 0 (Nat.lt_succ_self _) (Nat.zero_le _) (Nat.zero_le _) (fun j h => absurd h (Nat.not_lt_zero j)) ls (lv_sub hl [1, 2, 3, 4, 5, 6, 0] rfl)
