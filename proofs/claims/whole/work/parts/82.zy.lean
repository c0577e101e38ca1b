/-! the reference's answers as a list: section, name's row, name, type, time, row of the data, where it begins, its size -/
abbrev zAt : Type := Int32 × Nat × np_N × Int32 × Int32 × Option Nat × Nat × Nat
def aS (e : zAt) : Int32 := e.1
def aN (e : zAt) : Nat := e.2.1
def aM (e : zAt) : np_N := e.2.2.1
def aT (e : zAt) : Int32 := e.2.2.2.1
def aU (e : zAt) : Int32 := e.2.2.2.2.1
def aR (e : zAt) : Option Nat := e.2.2.2.2.2.1
def aI (e : zAt) : Nat := e.2.2.2.2.2.2.1
def aZ (e : zAt) : Nat := e.2.2.2.2.2.2.2
def ae (an : List zAt) (i : Nat) : zAt := an.getD i (0, 0, [], 0, 0, none, 0, 0)
theorem ae_at {an : List zAt} {i : Nat} (h : i < an.length) : ae an i = an[i] := by
  unfold ae
  rw [List.getD_eq_getElem?_getD, List.getElem?_eq_getElem h]
  rfl
theorem ae_mem {an : List zAt} {i : Nat} (h : i < an.length) : ae an i ∈ an := by rw [ae_at h]; exact List.getElem_mem h
theorem ae_ex {an : List zAt} {P : zAt → Prop} {i : Nat} (h : i = an.length) (hq : ∀ j, j < i → ¬ P (ae an j)) : ¬ ∃ e ∈ an, P e := by
  rintro ⟨e, he, hp⟩
  obtain ⟨j, hj, rfl⟩ := List.getElem_of_mem he
  exact hq j (by omega) (by rw [ae_at hj]; exact hp)
theorem ae_step {P : Nat → Prop} {i : Nat} (h : ∀ j, j < i → ¬ P j) (hi : ¬ P i) : ∀ j, j < i + 1 → ¬ P j := by
  intro j hj
  rcases Nat.lt_or_ge j i with q | q
  · exact h j q
  · rw [show j = i by omega]; exact hi
/-- the reference's rows of answers -/
def zAN (E : zc_E) (G : zg_G) (m6 m7 m8 m9 m10 m11 m12 cap : Nat) (an : List zAt) : Prop := an.length ≤ cap ∧ cap ≤ 2 ^ 20 ∧ ∃ f6 f7 f8 f9 f10 f11 f12, G m6 = some (.inl (E.2.1 1, cap, .inl f6)) ∧ G m7 = some (.inl (E.2.1 1, cap, .inl f7)) ∧ G m8 = some (.inl (E.2.1 1, cap, .inl f8)) ∧ G m9 = some (.inl (E.2.1 1, cap, .inl f9)) ∧ G m10 = some (.inl (E.2.1 1, cap, .inl f10)) ∧ G m11 = some (.inl (E.2.1 5, cap, .inr (.inr (.inr (.inr f11))))) ∧ G m12 = some (.inl (E.2.1 5, cap, .inr (.inr (.inr (.inr f12))))) ∧
  (∀ i, i < an.length → f6 i = aS (ae an i) ∧ f7 i = aT (ae an i) ∧ f8 i = aU (ae an i) ∧ f9 i = nI (aI (ae an i)) ∧ f10 i = nI (aZ (ae an i)) ∧ f11 i = some (aN (ae an i)) ∧ f12 i = aR (ae an i) ∧ ∃ fn, G (aN (ae an i)) = some (.inl (E.2.1 0, np_len (aM (ae an i)), .inl fn)) ∧ np_f (aM (ae an i)) fn ∧ np_g (aM (ae an i)) ∧ sb_Fit fn) ∧
  (∀ j v, f11 j = some v → ∃ (nx : Nat) (fx : Nat → Int32), G v = some (.inl (E.2.1 0, nx, .inl fx))) ∧ (∀ j v, f12 j = some v → ∃ (nx : Nat) (fx : Nat → Int32), G v = some (.inl (E.2.1 0, nx, .inl fx)))
/-- how many of the first i answers are of that section -/
def zas (an : List zAt) (y : Int32) : Nat → Nat
  | 0 => 0
  | i + 1 => zas an y i + (if aS (ae an i) = y then 1 else 0)
theorem zas_y {an : List zAt} {y : Int32} {i : Nat} (h : aS (ae an i) = y) : zas an y (i + 1) = zas an y i + 1 := by
  show zas an y i + _ = _
  rw [if_pos h]
theorem zas_n {an : List zAt} {y : Int32} {i : Nat} (h : ¬ aS (ae an i) = y) : zas an y (i + 1) = zas an y i := by
  show zas an y i + _ = _
  rw [if_neg h]
  rfl
theorem zas_le {an : List zAt} {y : Int32} : ∀ i, zas an y i ≤ i := by
  intro i
  induction i with
  | zero => exact Nat.le_refl _
  | succ i ih =>
    show zas an y i + _ ≤ _
    split <;> omega
abbrev c_Mo_shown : ByteArray := prog_12_method_21_code
abbrev y_Mo_shown : MethodName := ⟨"ZoneAnswersModel", "shown", "(I[BI)Z"⟩
theorem d_Mo_shown_0 : decode c_Mo_shown 0 = .ok (.iconst 0, 1) := by decide +kernel
theorem d_Mo_shown_1 : decode c_Mo_shown 1 = .ok (.istore 4, 2) := by decide +kernel
theorem d_Mo_shown_3 : decode c_Mo_shown 3 = .ok (.iload 4, 2) := by decide +kernel
theorem d_Mo_shown_5 : decode c_Mo_shown 5 = .ok (.aload_n 0, 1) := by decide +kernel
theorem d_Mo_shown_6 : decode c_Mo_shown 6 = .ok (.getfield 140, 3) := by decide +kernel
theorem d_Mo_shown_9 : decode c_Mo_shown 9 = .ok (.if_icmp .ge 47, 3) := by decide +kernel
theorem d_Mo_shown_12 : decode c_Mo_shown 12 = .ok (.aload_n 0, 1) := by decide +kernel
theorem d_Mo_shown_13 : decode c_Mo_shown 13 = .ok (.getfield 23, 3) := by decide +kernel
theorem d_Mo_shown_16 : decode c_Mo_shown 16 = .ok (.iload 4, 2) := by decide +kernel
theorem d_Mo_shown_18 : decode c_Mo_shown 18 = .ok (.iaload, 1) := by decide +kernel
theorem d_Mo_shown_19 : decode c_Mo_shown 19 = .ok (.iload_n 1, 1) := by decide +kernel
theorem d_Mo_shown_20 : decode c_Mo_shown 20 = .ok (.if_icmp .ne 30, 3) := by decide +kernel
theorem d_Mo_shown_23 : decode c_Mo_shown 23 = .ok (.aload_n 0, 1) := by decide +kernel
theorem d_Mo_shown_24 : decode c_Mo_shown 24 = .ok (.getfield 27, 3) := by decide +kernel
theorem d_Mo_shown_27 : decode c_Mo_shown 27 = .ok (.iload 4, 2) := by decide +kernel
theorem d_Mo_shown_29 : decode c_Mo_shown 29 = .ok (.iaload, 1) := by decide +kernel
theorem d_Mo_shown_30 : decode c_Mo_shown 30 = .ok (.iload_n 3, 1) := by decide +kernel
theorem d_Mo_shown_31 : decode c_Mo_shown 31 = .ok (.if_icmp .ne 19, 3) := by decide +kernel
theorem d_Mo_shown_34 : decode c_Mo_shown 34 = .ok (.aload_n 0, 1) := by decide +kernel
theorem d_Mo_shown_35 : decode c_Mo_shown 35 = .ok (.getfield 40, 3) := by decide +kernel
theorem d_Mo_shown_38 : decode c_Mo_shown 38 = .ok (.iload 4, 2) := by decide +kernel
theorem d_Mo_shown_40 : decode c_Mo_shown 40 = .ok (.aaload, 1) := by decide +kernel
theorem d_Mo_shown_41 : decode c_Mo_shown 41 = .ok (.aload_n 2, 1) := by decide +kernel
theorem d_Mo_shown_42 : decode c_Mo_shown 42 = .ok (.invokestatic 80, 3) := by decide +kernel
theorem d_Mo_shown_45 : decode c_Mo_shown 45 = .ok (.ifCond .eq 5, 3) := by decide +kernel
theorem d_Mo_shown_48 : decode c_Mo_shown 48 = .ok (.iconst 1, 1) := by decide +kernel
theorem d_Mo_shown_49 : decode c_Mo_shown 49 = .ok (.ireturn, 1) := by decide +kernel
theorem d_Mo_shown_50 : decode c_Mo_shown 50 = .ok (.iinc 4 1, 3) := by decide +kernel
theorem d_Mo_shown_53 : decode c_Mo_shown 53 = .ok (.goto (-50), 3) := by decide +kernel
theorem d_Mo_shown_56 : decode c_Mo_shown 56 = .ok (.iconst 0, 1) := by decide +kernel
theorem d_Mo_shown_57 : decode c_Mo_shown 57 = .ok (.ireturn, 1) := by decide +kernel
abbrev c_Mo_own : ByteArray := prog_12_method_28_code
abbrev y_Mo_own : MethodName := ⟨"ZoneAnswersModel", "own", "([BI)Z"⟩
theorem d_Mo_own_0 : decode c_Mo_own 0 = .ok (.iconst 0, 1) := by decide +kernel
theorem d_Mo_own_1 : decode c_Mo_own 1 = .ok (.istore_n 3, 1) := by decide +kernel
theorem d_Mo_own_2 : decode c_Mo_own 2 = .ok (.iload_n 3, 1) := by decide +kernel
theorem d_Mo_own_3 : decode c_Mo_own 3 = .ok (.aload_n 0, 1) := by decide +kernel
theorem d_Mo_own_4 : decode c_Mo_own 4 = .ok (.getfield 140, 3) := by decide +kernel
theorem d_Mo_own_7 : decode c_Mo_own 7 = .ok (.if_icmp .ge 58, 3) := by decide +kernel
theorem d_Mo_own_10 : decode c_Mo_own 10 = .ok (.aload_n 0, 1) := by decide +kernel
theorem d_Mo_own_11 : decode c_Mo_own 11 = .ok (.getfield 23, 3) := by decide +kernel
theorem d_Mo_own_14 : decode c_Mo_own 14 = .ok (.iload_n 3, 1) := by decide +kernel
theorem d_Mo_own_15 : decode c_Mo_own 15 = .ok (.iaload, 1) := by decide +kernel
theorem d_Mo_own_16 : decode c_Mo_own 16 = .ok (.iconst 1, 1) := by decide +kernel
theorem d_Mo_own_17 : decode c_Mo_own 17 = .ok (.if_icmp .ne 42, 3) := by decide +kernel
theorem d_Mo_own_20 : decode c_Mo_own 20 = .ok (.aload_n 0, 1) := by decide +kernel
theorem d_Mo_own_21 : decode c_Mo_own 21 = .ok (.getfield 27, 3) := by decide +kernel
theorem d_Mo_own_24 : decode c_Mo_own 24 = .ok (.iload_n 3, 1) := by decide +kernel
theorem d_Mo_own_25 : decode c_Mo_own 25 = .ok (.iaload, 1) := by decide +kernel
theorem d_Mo_own_26 : decode c_Mo_own 26 = .ok (.iload_n 2, 1) := by decide +kernel
theorem d_Mo_own_27 : decode c_Mo_own 27 = .ok (.if_icmp .ne 32, 3) := by decide +kernel
theorem d_Mo_own_30 : decode c_Mo_own 30 = .ok (.aload_n 0, 1) := by decide +kernel
theorem d_Mo_own_31 : decode c_Mo_own 31 = .ok (.getfield 40, 3) := by decide +kernel
theorem d_Mo_own_34 : decode c_Mo_own 34 = .ok (.iload_n 3, 1) := by decide +kernel
theorem d_Mo_own_35 : decode c_Mo_own 35 = .ok (.aaload, 1) := by decide +kernel
theorem d_Mo_own_36 : decode c_Mo_own 36 = .ok (.aload_n 1, 1) := by decide +kernel
theorem d_Mo_own_37 : decode c_Mo_own 37 = .ok (.invokestatic 80, 3) := by decide +kernel
theorem d_Mo_own_40 : decode c_Mo_own 40 = .ok (.ifCond .eq 19, 3) := by decide +kernel
theorem d_Mo_own_43 : decode c_Mo_own 43 = .ok (.aload_n 0, 1) := by decide +kernel
theorem d_Mo_own_44 : decode c_Mo_own 44 = .ok (.getfield 50, 3) := by decide +kernel
theorem d_Mo_own_47 : decode c_Mo_own 47 = .ok (.iload_n 3, 1) := by decide +kernel
theorem d_Mo_own_48 : decode c_Mo_own 48 = .ok (.sipush 4095, 3) := by decide +kernel
theorem d_Mo_own_51 : decode c_Mo_own 51 = .ok (.iand, 1) := by decide +kernel
theorem d_Mo_own_52 : decode c_Mo_own 52 = .ok (.baload, 1) := by decide +kernel
theorem d_Mo_own_53 : decode c_Mo_own 53 = .ok (.iconst 1, 1) := by decide +kernel
theorem d_Mo_own_54 : decode c_Mo_own 54 = .ok (.if_icmp .ne 5, 3) := by decide +kernel
theorem d_Mo_own_57 : decode c_Mo_own 57 = .ok (.iconst 1, 1) := by decide +kernel
theorem d_Mo_own_58 : decode c_Mo_own 58 = .ok (.ireturn, 1) := by decide +kernel
theorem d_Mo_own_59 : decode c_Mo_own 59 = .ok (.iinc 3 1, 3) := by decide +kernel
theorem d_Mo_own_62 : decode c_Mo_own 62 = .ok (.goto (-60), 3) := by decide +kernel
theorem d_Mo_own_65 : decode c_Mo_own 65 = .ok (.iconst 0, 1) := by decide +kernel
theorem d_Mo_own_66 : decode c_Mo_own 66 = .ok (.ireturn, 1) := by decide +kernel
abbrev rm_Mo_shown : Room := { frames := 2, cells := 0, slots := 0, locals := 40 }
set_option maxHeartbeats 4000000 in
set_option maxRecDepth 100000 in
/-- shown(s, x, t), of the reference -/
theorem t_Mo_shown (l : Launch) (E : zc_E) (G : zg_G) (an : List zAt) (cap : Nat) (a m1 m3 m4 m6 m7 m8 m9 m10 m11 m12 m15 m18 : Nat) (th tn m5 m14 m16 m17 : Int32) (m19 m20 : Value) (ha : G a = some (.inr (11, [.int th, .ref m1, .int tn, .ref m3, .ref m4, .int m5, .ref m6, .ref m7, .ref m8, .ref m9, .ref m10, .ref m11, .ref m12, .int (nI an.length), .int m14, .ref m15, .int m16, .int m17, .ref m18, m19, m20]))) (hAN : zAN E G m6 m7 m8 m9 m10 m11 m12 cap an) (y t : Int32) (b1 : Nat) (ls1 : np_N) (f1 : Nat → Int32) (hb1 : G b1 = some (.inl (E.2.1 0, np_len ls1, .inl f1))) (hf1 : np_f ls1 f1) (hg1 : np_g ls1) : zMi l E y_Mo_shown c_Mo_shown 5 (some .boolean) rm_Mo_shown [.ref a, .int y, .ref b1, .int t] G (fun (r : Int32) (G2 : zg_G) => zb r (∃ e ∈ an, aS e = y ∧ aT e = t ∧ aM e = ls1) ∧ G2 = G) := by
  refine zMi.of (by decide) (Nat.le_of_ble_eq_true rfl) ?_
  intro p e s m args below meth c Q hZ hG hret ls hl
  obtain ⟨hx, hb, hr, hts, hown, hlocks, hml, hnm, hbase, hK, hN, hQ⟩ := hZ
  have hl : lv_has ls 5 [(0, .ref a), (1, .int y), (2, .ref b1), (3, .int t)] := hl
  have hS : zg_S (zc_b E) s.heap s.heap [] := va_S.rf
  obtain ⟨hA1, hA2, f6, f7, f8, f9, f10, f11, f12, hA6, hA7, hA8, hA9, hA10, hA11, hA12, hAe, hAr1, hAr2⟩ := id hAN
  have sm1 := hg1.2
  refine lv_iconst (v := 0) hx hb d_Mo_shown_0 (by decide) ?_
  refine zi_as (y := nI 0) (nI_0.symm) ?_
  refine lv_istore (lv' := [(4, .int (nI 0)), (0, .ref a), (1, .int y), (2, .ref b1), (3, .int t)]) hx hb d_Mo_shown_1 hl (by decide) rfl (fun ls hl => ?_)
  have loop3 : ∀ (N : Nat) (i : Nat) (H : Heap) (locs : List Loc), (an.length - i) < N → (i ≤ an.length) → (∀ j, j < i → ¬ (fun j => aS (ae an j) = y ∧ aT (ae an j) = t ∧ aM (ae an j) = ls1) j) → zP E G H → zg_S (zc_b E) s.heap H locs → ∀ (ls : Array Slot), lv_has ls 5 [(0, .ref a), (1, .int y), (2, .ref b1), (3, .int t), (4, .int (nI i))] → W p l e rm_Mo_shown s m args below meth c H locs 0 0 Q (F0 m 3 ls []) := by
    intro N
    induction N with
    | zero =>
      intro i H locs hlt
      exact absurd hlt (Nat.not_lt_zero _)
    | succ N ih =>
      intro i H locs hlt hi hq hG hS ls hl
      refine lv_iload hx hb d_Mo_shown_3 (lv_at hl 4 rfl) ?_
      refine lv_aload_n hx hb d_Mo_shown_5 rfl (lv_at hl 0 rfl) ?_
      refine zg_get (ci := 11) (C := "ZoneAnswersModel") (T := T_Mo) (N := 21) hx hb hts zi_Mo hown hK hG ha rfl 13 (by decide) (hts _ w_1294) (fun _ h9 => h9) rfl d_Mo_shown_6 ?_
      refine lv_icmp_ge (tgt := 56) hx hb d_Mo_shown_9 (by decide) (fun c9 => ?_) (fun c9 => ?_)
      · have b9 : an.length ≤ i := (nI_leI (a := an.length) (b := i) (by omega) (by omega)).mp c9
        refine lv_iconst (v := 0) hx hb d_Mo_shown_56 (by decide) ?_
        exact hret _ _ _ _ _ _ _ _ _ hr (rfl) (⟨zb.f (ae_ex (P := fun e => aS e = y ∧ aT e = t ∧ aM e = ls1) (by omega) hq), rfl⟩) hG hS (Nat.le_refl _) (Nat.le_refl _) d_Mo_shown_57
      · have b9 : ¬ an.length ≤ i := fun q => c9 ((nI_leI (a := an.length) (b := i) (by omega) (by omega)).mpr q)
        have hin : i < an.length := by omega
        obtain ⟨e6, e7, e8, e9, e10, e11, e12, fn, hn1, hn2, hn3, hn4⟩ := hAe i hin
        have sm := hn3.2
        refine lv_aload_n hx hb d_Mo_shown_12 rfl (lv_at hl 0 rfl) ?_
        refine zg_get (ci := 11) (C := "ZoneAnswersModel") (T := T_Mo) (N := 21) hx hb hts zi_Mo hown hK hG ha rfl 6 (by decide) (hts _ w_1287) (fun _ h9 => h9) rfl d_Mo_shown_13 ?_
        refine lv_iload hx hb d_Mo_shown_16 (lv_at hl 4 rfl) ?_
        refine zg_iald hx hb hK hG 1 hA6 rfl (vp_in_nI (by omega) (by omega)) d_Mo_shown_18 ?_
        refine zi_as (y := aS (ae an i)) (by rw [zi_n _ (by omega)]; exact e6) ?_
        refine lv_iload_n hx hb d_Mo_shown_19 rfl (lv_at hl 1 rfl) ?_
        refine lv_icmp_ne (tgt := 50) hx hb d_Mo_shown_20 (by decide) (fun c20 => ?_) (fun c20 => ?_)
        · refine lv_iinc (v := nI (i + 1)) (lv' := [(4, .int (nI (i + 1))), (0, .ref a), (1, .int y), (2, .ref b1), (3, .int t)]) hx hb d_Mo_shown_50 hl (k := 4) rfl (nI_add i 1) (by decide) rfl (fun ls hl => ?_)
          refine lv_goto (tgt := 3) hx hb d_Mo_shown_53 (by decide) ?_
          exact ih (i + 1) _ _ (by omega) (by omega) (ae_step (P := (fun j => aS (ae an j) = y ∧ aT (ae an j) = t ∧ aM (ae an j) = ls1)) hq (by first | exact fun z => c20 z.1 | exact fun z => c31 z.2.1 | exact fun z => hp42.1.z c45 ((zsm_n hn2 hf1 hn3 hg1).mpr z.2.2))) hG hS ls (lv_sub hl [1, 2, 3, 4, 0] rfl)
        · refine lv_aload_n hx hb d_Mo_shown_23 rfl (lv_at hl 0 rfl) ?_
          refine zg_get (ci := 11) (C := "ZoneAnswersModel") (T := T_Mo) (N := 21) hx hb hts zi_Mo hown hK hG ha rfl 7 (by decide) (hts _ w_1288) (fun _ h9 => h9) rfl d_Mo_shown_24 ?_
          refine lv_iload hx hb d_Mo_shown_27 (lv_at hl 4 rfl) ?_
          refine zg_iald hx hb hK hG 1 hA7 rfl (vp_in_nI (by omega) (by omega)) d_Mo_shown_29 ?_
          refine zi_as (y := aT (ae an i)) (by rw [zi_n _ (by omega)]; exact e7) ?_
          refine lv_iload_n hx hb d_Mo_shown_30 rfl (lv_at hl 3 rfl) ?_
          refine lv_icmp_ne (tgt := 50) hx hb d_Mo_shown_31 (by decide) (fun c31 => ?_) (fun c31 => ?_)
          · refine lv_iinc (v := nI (i + 1)) (lv' := [(4, .int (nI (i + 1))), (0, .ref a), (1, .int y), (2, .ref b1), (3, .int t)]) hx hb d_Mo_shown_50 hl (k := 4) rfl (nI_add i 1) (by decide) rfl (fun ls hl => ?_)
            refine lv_goto (tgt := 3) hx hb d_Mo_shown_53 (by decide) ?_
            exact ih (i + 1) _ _ (by omega) (by omega) (ae_step (P := (fun j => aS (ae an j) = y ∧ aT (ae an j) = t ∧ aM (ae an j) = ls1)) hq (by first | exact fun z => c20 z.1 | exact fun z => c31 z.2.1 | exact fun z => hp42.1.z c45 ((zsm_n hn2 hf1 hn3 hg1).mpr z.2.2))) hG hS ls (lv_sub hl [1, 2, 3, 4, 0] rfl)
          · refine lv_aload_n hx hb d_Mo_shown_34 rfl (lv_at hl 0 rfl) ?_
            refine zg_get (ci := 11) (C := "ZoneAnswersModel") (T := T_Mo) (N := 21) hx hb hts zi_Mo hown hK hG ha rfl 11 (by decide) (hts _ w_1292) (fun _ h9 => h9) rfl d_Mo_shown_35 ?_
            refine lv_iload hx hb d_Mo_shown_38 (lv_at hl 4 rfl) ?_
            refine zg_aldA hx hb hK hG 5 hA11 rfl (vp_in_nI (by omega) (by omega)) d_Mo_shown_40 ?_
            refine zr_as (y := f11 i) (by rw [zi_n _ (by omega)]) ?_
            refine zr_some (a := aN (ae an i)) (e11) ?_
            refine lv_aload_n hx hb d_Mo_shown_41 rfl (lv_at hl 2 rfl) ?_
            refine zk_i (va_runS (As := [.ref (aN (ae an i)), .ref b1]) (rest := []) ⟨hx, hb, hml, hown, hts⟩ (t_Ns_same l E G (aN (ae an i)) (np_len (aM (ae an i))) fn hn1 b1 (np_len ls1) f1 hb1 (by omega) (by omega)) (zcS 2 hts w_1405 w_1406 w_33 w_1407 (by decide +kernel) ⟨Nat.le_of_ble_eq_true rfl, Nat.le_of_ble_eq_true rfl⟩) (zc_pre hbase hK hN hQ hG hS) rfl rfl hl.1 rfl (lv_room (Nat.le_of_ble_eq_true rfl)) d_Mo_shown_42 ⟨(by decide), (by decide)⟩) hS (fun r42 G42 H locs hp42 hG hS => ?_)
            have hG : zP E G H := hp42.2 ▸ hG
            refine lv_if_eq (tgt := 50) hx hb d_Mo_shown_45 (by decide) (fun c45 => ?_) (fun c45 => ?_)
            · refine lv_iinc (v := nI (i + 1)) (lv' := [(4, .int (nI (i + 1))), (0, .ref a), (1, .int y), (2, .ref b1), (3, .int t)]) hx hb d_Mo_shown_50 hl (k := 4) rfl (nI_add i 1) (by decide) rfl (fun ls hl => ?_)
              refine lv_goto (tgt := 3) hx hb d_Mo_shown_53 (by decide) ?_
              exact ih (i + 1) _ _ (by omega) (by omega) (ae_step (P := (fun j => aS (ae an j) = y ∧ aT (ae an j) = t ∧ aM (ae an j) = ls1)) hq (by first | exact fun z => c20 z.1 | exact fun z => c31 z.2.1 | exact fun z => hp42.1.z c45 ((zsm_n hn2 hf1 hn3 hg1).mpr z.2.2))) hG hS ls (lv_sub hl [1, 2, 3, 4, 0] rfl)
            · refine lv_iconst (v := 1) hx hb d_Mo_shown_48 (by decide) ?_
              exact hret _ _ _ _ _ _ _ _ _ hr (rfl) (⟨zb.t ⟨_, ae_mem hin, c20, c31, (zsm_n hn2 hf1 hn3 hg1).mp (hp42.1.nz c45)⟩, rfl⟩) hG hS (Nat.le_refl _) (Nat.le_refl _) d_Mo_shown_49
  exact loop3 _ 0 _ _ (Nat.lt_succ_self _) (Nat.zero_le _) (fun j h => absurd h (Nat.not_lt_zero j)) hG hS ls (lv_sub hl [1, 2, 3, 4, 0] rfl)
abbrev rm_Mo_own : Room := { frames := 2, cells := 0, slots := 0, locals := 40 }
set_option maxHeartbeats 4000000 in
set_option maxRecDepth 100000 in
/-- own(x, t), of the reference -/
theorem t_Mo_own (l : Launch) (E : zc_E) (G : zg_G) (an : List zAt) (cap : Nat) (a m1 m3 m4 m6 m7 m8 m9 m10 m11 m12 m15 m18 : Nat) (th tn m5 m14 m16 m17 : Int32) (m19 m20 : Value) (ha : G a = some (.inr (11, [.int th, .ref m1, .int tn, .ref m3, .ref m4, .int m5, .ref m6, .ref m7, .ref m8, .ref m9, .ref m10, .ref m11, .ref m12, .int (nI an.length), .int m14, .ref m15, .int m16, .int m17, .ref m18, m19, m20]))) (hAN : zAN E G m6 m7 m8 m9 m10 m11 m12 cap an) (ff : Nat → Int32) (hm18 : G m18 = some (.inl (E.2.1 0, 4096, .inl ff))) (hal : an.length ≤ 4096) (t : Int32) (b1 : Nat) (ls1 : np_N) (f1 : Nat → Int32) (hb1 : G b1 = some (.inl (E.2.1 0, np_len ls1, .inl f1))) (hf1 : np_f ls1 f1) (hg1 : np_g ls1) : zMi l E y_Mo_own c_Mo_own 4 (some .boolean) rm_Mo_own [.ref a, .ref b1, .int t] G (fun (r : Int32) (G2 : zg_G) => zb r (∃ i, i < an.length ∧ (fun j => aS (ae an j) = 1 ∧ aT (ae an j) = t ∧ aM (ae an j) = ls1 ∧ ff j = 1) i) ∧ G2 = G) := by
  refine zMi.of (by decide) (Nat.le_of_ble_eq_true rfl) ?_
  intro p e s m args below meth c Q hZ hG hret ls hl
  obtain ⟨hx, hb, hr, hts, hown, hlocks, hml, hnm, hbase, hK, hN, hQ⟩ := hZ
  have hl : lv_has ls 4 [(0, .ref a), (1, .ref b1), (2, .int t)] := hl
  have hS : zg_S (zc_b E) s.heap s.heap [] := va_S.rf
  obtain ⟨hA1, hA2, f6, f7, f8, f9, f10, f11, f12, hA6, hA7, hA8, hA9, hA10, hA11, hA12, hAe, hAr1, hAr2⟩ := id hAN
  have sm1 := hg1.2
  refine lv_iconst (v := 0) hx hb d_Mo_own_0 (by decide) ?_
  refine zi_as (y := nI 0) (nI_0.symm) ?_
  refine lv_istore_n (lv' := [(3, .int (nI 0)), (0, .ref a), (1, .ref b1), (2, .int t)]) hx hb d_Mo_own_1 rfl hl (by decide) rfl (fun ls hl => ?_)
  have loop2 : ∀ (N : Nat) (i : Nat) (H : Heap) (locs : List Loc), (an.length - i) < N → (i ≤ an.length) → (∀ j, j < i → ¬ (fun j => aS (ae an j) = 1 ∧ aT (ae an j) = t ∧ aM (ae an j) = ls1 ∧ ff j = 1) j) → zP E G H → zg_S (zc_b E) s.heap H locs → ∀ (ls : Array Slot), lv_has ls 4 [(0, .ref a), (1, .ref b1), (2, .int t), (3, .int (nI i))] → W p l e rm_Mo_own s m args below meth c H locs 0 0 Q (F0 m 2 ls []) := by
    intro N
    induction N with
    | zero =>
      intro i H locs hlt
      exact absurd hlt (Nat.not_lt_zero _)
    | succ N ih =>
      intro i H locs hlt hi hq hG hS ls hl
      refine lv_iload_n hx hb d_Mo_own_2 rfl (lv_at hl 3 rfl) ?_
      refine lv_aload_n hx hb d_Mo_own_3 rfl (lv_at hl 0 rfl) ?_
      refine zg_get (ci := 11) (C := "ZoneAnswersModel") (T := T_Mo) (N := 21) hx hb hts zi_Mo hown hK hG ha rfl 13 (by decide) (hts _ w_1294) (fun _ h9 => h9) rfl d_Mo_own_4 ?_
      refine lv_icmp_ge (tgt := 65) hx hb d_Mo_own_7 (by decide) (fun c7 => ?_) (fun c7 => ?_)
      · have b7 : an.length ≤ i := (nI_leI (a := an.length) (b := i) (by omega) (by omega)).mp c7
        refine lv_iconst (v := 0) hx hb d_Mo_own_65 (by decide) ?_
        exact hret _ _ _ _ _ _ _ _ _ hr (rfl) (⟨zb.f (fun ⟨j, q1, q2⟩ => hq j (by omega) q2), rfl⟩) hG hS (Nat.le_refl _) (Nat.le_refl _) d_Mo_own_66
      · have b7 : ¬ an.length ≤ i := fun q => c7 ((nI_leI (a := an.length) (b := i) (by omega) (by omega)).mpr q)
        have hin : i < an.length := by omega
        obtain ⟨e6, e7, e8, e9, e10, e11, e12, fn, hn1, hn2, hn3, hn4⟩ := hAe i hin
        have sm := hn3.2
        refine lv_aload_n hx hb d_Mo_own_10 rfl (lv_at hl 0 rfl) ?_
        refine zg_get (ci := 11) (C := "ZoneAnswersModel") (T := T_Mo) (N := 21) hx hb hts zi_Mo hown hK hG ha rfl 6 (by decide) (hts _ w_1287) (fun _ h9 => h9) rfl d_Mo_own_11 ?_
        refine lv_iload_n hx hb d_Mo_own_14 rfl (lv_at hl 3 rfl) ?_
        refine zg_iald hx hb hK hG 1 hA6 rfl (vp_in_nI (by omega) (by omega)) d_Mo_own_15 ?_
        refine zi_as (y := aS (ae an i)) (by rw [zi_n _ (by omega)]; exact e6) ?_
        refine lv_iconst (v := 1) hx hb d_Mo_own_16 (by decide) ?_
        refine lv_icmp_ne (tgt := 59) hx hb d_Mo_own_17 (by decide) (fun c17 => ?_) (fun c17 => ?_)
        · refine lv_iinc (v := nI (i + 1)) (lv' := [(3, .int (nI (i + 1))), (0, .ref a), (1, .ref b1), (2, .int t)]) hx hb d_Mo_own_59 hl (k := 3) rfl (nI_add i 1) (by decide) rfl (fun ls hl => ?_)
          refine lv_goto (tgt := 2) hx hb d_Mo_own_62 (by decide) ?_
          exact ih (i + 1) _ _ (by omega) (by omega) (ae_step (P := (fun j => aS (ae an j) = 1 ∧ aT (ae an j) = t ∧ aM (ae an j) = ls1 ∧ ff j = 1)) hq (by first | exact fun z => c17 z.1 | exact fun z => c27 z.2.1 | exact fun z => hp37.1.z c40 ((zsm_n hn2 hf1 hn3 hg1).mpr z.2.2.1) | exact fun z => c54 z.2.2.2)) hG hS ls (lv_sub hl [1, 2, 3, 0] rfl)
        · refine lv_aload_n hx hb d_Mo_own_20 rfl (lv_at hl 0 rfl) ?_
          refine zg_get (ci := 11) (C := "ZoneAnswersModel") (T := T_Mo) (N := 21) hx hb hts zi_Mo hown hK hG ha rfl 7 (by decide) (hts _ w_1288) (fun _ h9 => h9) rfl d_Mo_own_21 ?_
          refine lv_iload_n hx hb d_Mo_own_24 rfl (lv_at hl 3 rfl) ?_
          refine zg_iald hx hb hK hG 1 hA7 rfl (vp_in_nI (by omega) (by omega)) d_Mo_own_25 ?_
          refine zi_as (y := aT (ae an i)) (by rw [zi_n _ (by omega)]; exact e7) ?_
          refine lv_iload_n hx hb d_Mo_own_26 rfl (lv_at hl 2 rfl) ?_
          refine lv_icmp_ne (tgt := 59) hx hb d_Mo_own_27 (by decide) (fun c27 => ?_) (fun c27 => ?_)
          · refine lv_iinc (v := nI (i + 1)) (lv' := [(3, .int (nI (i + 1))), (0, .ref a), (1, .ref b1), (2, .int t)]) hx hb d_Mo_own_59 hl (k := 3) rfl (nI_add i 1) (by decide) rfl (fun ls hl => ?_)
            refine lv_goto (tgt := 2) hx hb d_Mo_own_62 (by decide) ?_
            exact ih (i + 1) _ _ (by omega) (by omega) (ae_step (P := (fun j => aS (ae an j) = 1 ∧ aT (ae an j) = t ∧ aM (ae an j) = ls1 ∧ ff j = 1)) hq (by first | exact fun z => c17 z.1 | exact fun z => c27 z.2.1 | exact fun z => hp37.1.z c40 ((zsm_n hn2 hf1 hn3 hg1).mpr z.2.2.1) | exact fun z => c54 z.2.2.2)) hG hS ls (lv_sub hl [1, 2, 3, 0] rfl)
          · refine lv_aload_n hx hb d_Mo_own_30 rfl (lv_at hl 0 rfl) ?_
            refine zg_get (ci := 11) (C := "ZoneAnswersModel") (T := T_Mo) (N := 21) hx hb hts zi_Mo hown hK hG ha rfl 11 (by decide) (hts _ w_1292) (fun _ h9 => h9) rfl d_Mo_own_31 ?_
            refine lv_iload_n hx hb d_Mo_own_34 rfl (lv_at hl 3 rfl) ?_
            refine zg_aldA hx hb hK hG 5 hA11 rfl (vp_in_nI (by omega) (by omega)) d_Mo_own_35 ?_
            refine zr_as (y := f11 i) (by rw [zi_n _ (by omega)]) ?_
            refine zr_some (a := aN (ae an i)) (e11) ?_
            refine lv_aload_n hx hb d_Mo_own_36 rfl (lv_at hl 1 rfl) ?_
            refine zk_i (va_runS (As := [.ref (aN (ae an i)), .ref b1]) (rest := []) ⟨hx, hb, hml, hown, hts⟩ (t_Ns_same l E G (aN (ae an i)) (np_len (aM (ae an i))) fn hn1 b1 (np_len ls1) f1 hb1 (by omega) (by omega)) (zcS 2 hts w_1405 w_1406 w_33 w_1407 (by decide +kernel) ⟨Nat.le_of_ble_eq_true rfl, Nat.le_of_ble_eq_true rfl⟩) (zc_pre hbase hK hN hQ hG hS) rfl rfl hl.1 rfl (lv_room (Nat.le_of_ble_eq_true rfl)) d_Mo_own_37 ⟨(by decide), (by decide)⟩) hS (fun r37 G37 H locs hp37 hG hS => ?_)
            have hG : zP E G H := hp37.2 ▸ hG
            refine lv_if_eq (tgt := 59) hx hb d_Mo_own_40 (by decide) (fun c40 => ?_) (fun c40 => ?_)
            · refine lv_iinc (v := nI (i + 1)) (lv' := [(3, .int (nI (i + 1))), (0, .ref a), (1, .ref b1), (2, .int t)]) hx hb d_Mo_own_59 hl (k := 3) rfl (nI_add i 1) (by decide) rfl (fun ls hl => ?_)
              refine lv_goto (tgt := 2) hx hb d_Mo_own_62 (by decide) ?_
              exact ih (i + 1) _ _ (by omega) (by omega) (ae_step (P := (fun j => aS (ae an j) = 1 ∧ aT (ae an j) = t ∧ aM (ae an j) = ls1 ∧ ff j = 1)) hq (by first | exact fun z => c17 z.1 | exact fun z => c27 z.2.1 | exact fun z => hp37.1.z c40 ((zsm_n hn2 hf1 hn3 hg1).mpr z.2.2.1) | exact fun z => c54 z.2.2.2)) hG hS ls (lv_sub hl [1, 2, 3, 0] rfl)
            · refine lv_aload_n hx hb d_Mo_own_43 rfl (lv_at hl 0 rfl) ?_
              refine zg_get (ci := 11) (C := "ZoneAnswersModel") (T := T_Mo) (N := 21) hx hb hts zi_Mo hown hK hG ha rfl 18 (by decide) (hts _ w_1299) (fun _ h9 => h9) rfl d_Mo_own_44 ?_
              refine lv_iload_n hx hb d_Mo_own_47 rfl (lv_at hl 3 rfl) ?_
              refine lv_sipush (v := 4095) hx hb d_Mo_own_48 (by decide) ?_
              refine lv_iand hx hb d_Mo_own_51 ?_
              refine zi_as (y := nI i) (by rw [pk_andN (by omega) 12 (by decide), Nat.mod_eq_of_lt (by omega)]) ?_
              refine zg_bald hx hb hK hG 0 hm18 rfl (vp_in_nI (by omega) (by omega)) d_Mo_own_52 ?_
              refine zi_as (y := ff i) (by rw [zi_n _ (by omega)]) ?_
              refine lv_iconst (v := 1) hx hb d_Mo_own_53 (by decide) ?_
              refine lv_icmp_ne (tgt := 59) hx hb d_Mo_own_54 (by decide) (fun c54 => ?_) (fun c54 => ?_)
              · refine lv_iinc (v := nI (i + 1)) (lv' := [(3, .int (nI (i + 1))), (0, .ref a), (1, .ref b1), (2, .int t)]) hx hb d_Mo_own_59 hl (k := 3) rfl (nI_add i 1) (by decide) rfl (fun ls hl => ?_)
                refine lv_goto (tgt := 2) hx hb d_Mo_own_62 (by decide) ?_
                exact ih (i + 1) _ _ (by omega) (by omega) (ae_step (P := (fun j => aS (ae an j) = 1 ∧ aT (ae an j) = t ∧ aM (ae an j) = ls1 ∧ ff j = 1)) hq (by first | exact fun z => c17 z.1 | exact fun z => c27 z.2.1 | exact fun z => hp37.1.z c40 ((zsm_n hn2 hf1 hn3 hg1).mpr z.2.2.1) | exact fun z => c54 z.2.2.2)) hG hS ls (lv_sub hl [1, 2, 3, 0] rfl)
              · refine lv_iconst (v := 1) hx hb d_Mo_own_57 (by decide) ?_
                exact hret _ _ _ _ _ _ _ _ _ hr (rfl) (⟨zb.t ⟨i, hin, c17, c27, (zsm_n hn2 hf1 hn3 hg1).mp (hp37.1.nz c40), c54⟩, rfl⟩) hG hS (Nat.le_refl _) (Nat.le_refl _) d_Mo_own_58
  exact loop2 _ 0 _ _ (Nat.lt_succ_self _) (Nat.zero_le _) (fun j h => absurd h (Nat.not_lt_zero j)) hG hS ls (lv_sub hl [1, 2, 3, 0] rfl)
abbrev rm_Mo_place : Room := { frames := 1, cells := 0, slots := 0, locals := 30 }
set_option maxHeartbeats 4000000 in
set_option maxRecDepth 100000 in
/-- place(s, k), of the reference -/
theorem t_Mo_place (l : Launch) (E : zc_E) (G : zg_G) (an : List zAt) (cap : Nat) (a m1 m3 m4 m6 m7 m8 m9 m10 m11 m12 m15 m18 : Nat) (th tn m5 m14 m16 m17 : Int32) (m19 m20 : Value) (ha : G a = some (.inr (11, [.int th, .ref m1, .int tn, .ref m3, .ref m4, .int m5, .ref m6, .ref m7, .ref m8, .ref m9, .ref m10, .ref m11, .ref m12, .int (nI an.length), .int m14, .ref m15, .int m16, .int m17, .ref m18, m19, m20]))) (hAN : zAN E G m6 m7 m8 m9 m10 m11 m12 cap an) (y z : Int32) : zMi l E y_Mo_place c_Mo_place 5 (some .int) rm_Mo_place [.ref a, .int y, .int z] G (fun (r : Int32) (G2 : zg_G) => ((∃ i, i < an.length ∧ aS (ae an i) = y ∧ z = nI (zas an y i) ∧ (y = 1 ∨ y = 2 ∨ y = 3) ∧ r = nI i) ∨ ((z < 0 ∨ (¬ y = 1 ∧ ¬ y = 2 ∧ ¬ y = 3) ∨ nI (zas an y an.length) ≤ z) ∧ r = -1)) ∧ G2 = G) := by
  refine zMi.of (by decide) (Nat.le_of_ble_eq_true rfl) ?_
  intro p e s m args below meth c Q hZ hG hret ls hl
  obtain ⟨hx, hb, hr, hts, hown, hlocks, hml, hnm, hbase, hK, hN, hQ⟩ := hZ
  have hl : lv_has ls 5 [(0, .ref a), (1, .int y), (2, .int z)] := hl
  have hS : zg_S (zc_b E) s.heap s.heap [] := va_S.rf
  obtain ⟨hA1, hA2, f6, f7, f8, f9, f10, f11, f12, hA6, hA7, hA8, hA9, hA10, hA11, hA12, hAe, hAr1, hAr2⟩ := id hAN
  refine lv_iload_n hx hb d_Mo_place_0 rfl (lv_at hl 2 rfl) ?_
  refine lv_istore_n (lv' := [(3, .int z), (0, .ref a), (1, .int y), (2, .int z)]) hx hb d_Mo_place_1 rfl hl (by decide) rfl (fun ls hl => ?_)
  refine lv_iload_n hx hb d_Mo_place_2 rfl (lv_at hl 3 rfl) ?_
  refine lv_if_lt (tgt := 16) hx hb d_Mo_place_3 (by decide) (fun c3 => ?_) (fun c3 => ?_)
  · refine lv_iconst (v := -1) hx hb d_Mo_place_16 (by decide) ?_
    exact hret _ _ _ _ _ _ _ _ _ hr (rfl) (⟨Or.inr ⟨by first | exact Or.inl c3 | exact Or.inr (Or.inl (zsec4 (Or.inl c8))) | exact Or.inr (Or.inl (zsec4 (Or.inr c13))), rfl⟩, rfl⟩) hG hS (Nat.le_refl _) (Nat.le_refl _) d_Mo_place_17
  · obtain ⟨kk, hkk, ekk⟩ := nI_of c3
    subst ekk
    refine lv_iload_n hx hb d_Mo_place_6 rfl (lv_at hl 2 rfl) ?_
    refine lv_iconst (v := 1) hx hb d_Mo_place_7 (by decide) ?_
    refine lv_icmp_lt (tgt := 16) hx hb d_Mo_place_8 (by decide) (fun c8 => ?_) (fun c8 => ?_)
    · refine lv_iconst (v := -1) hx hb d_Mo_place_16 (by decide) ?_
      exact hret _ _ _ _ _ _ _ _ _ hr (rfl) (⟨Or.inr ⟨by first | exact Or.inl c3 | exact Or.inr (Or.inl (zsec4 (Or.inl c8))) | exact Or.inr (Or.inl (zsec4 (Or.inr c13))), rfl⟩, rfl⟩) hG hS (Nat.le_refl _) (Nat.le_refl _) d_Mo_place_17
    · refine lv_iload_n hx hb d_Mo_place_11 rfl (lv_at hl 2 rfl) ?_
      refine lv_iconst (v := 3) hx hb d_Mo_place_12 (by decide) ?_
      refine lv_icmp_le (tgt := 18) hx hb d_Mo_place_13 (by decide) (fun c13 => ?_) (fun c13 => ?_)
      · refine lv_iconst (v := 0) hx hb d_Mo_place_18 (by decide) ?_
        refine zi_as (y := nI 0) (nI_0.symm) ?_
        refine lv_istore (lv' := [(4, .int (nI 0)), (3, .int (nI kk)), (0, .ref a), (1, .int y), (2, .int (nI kk))]) hx hb d_Mo_place_19 hl (by decide) rfl (fun ls hl => ?_)
        have loop21 : ∀ (N : Nat) (i : Nat) (lf : Nat) (H : Heap) (locs : List Loc), (an.length - i) < N → (i ≤ an.length) → (lf + zas an y i = kk) → zP E G H → zg_S (zc_b E) s.heap H locs → ∀ (ls : Array Slot), lv_has ls 5 [(0, .ref a), (1, .int y), (2, .int (nI kk)), (3, .int (nI lf)), (4, .int (nI i))] → W p l e rm_Mo_place s m args below meth c H locs 0 0 Q (F0 m 21 ls []) := by
          intro N
          induction N with
          | zero =>
            intro i lf H locs hlt
            exact absurd hlt (Nat.not_lt_zero _)
          | succ N ih =>
            intro i lf H locs hlt hi hq hG hS ls hl
            refine lv_iload hx hb d_Mo_place_21 (lv_at hl 4 rfl) ?_
            refine lv_aload_n hx hb d_Mo_place_23 rfl (lv_at hl 0 rfl) ?_
            refine zg_get (ci := 11) (C := "ZoneAnswersModel") (T := T_Mo) (N := 21) hx hb hts zi_Mo hown hK hG ha rfl 13 (by decide) (hts _ w_1294) (fun _ h9 => h9) rfl d_Mo_place_24 ?_
            refine lv_icmp_ge (tgt := 60) hx hb d_Mo_place_27 (by decide) (fun c27 => ?_) (fun c27 => ?_)
            · have b27 : an.length ≤ i := (nI_leI (a := an.length) (b := i) (by omega) (by omega)).mp c27
              refine lv_iconst (v := -1) hx hb d_Mo_place_60 (by decide) ?_
              exact hret _ _ _ _ _ _ _ _ _ hr (rfl) (⟨Or.inr ⟨Or.inr (Or.inr ((nI_leI (by have := zas_le (an := an) (y := y) an.length; omega) hkk).mpr (by rw [← show i = an.length by omega]; omega))), rfl⟩, rfl⟩) hG hS (Nat.le_refl _) (Nat.le_refl _) d_Mo_place_61
            · have b27 : ¬ an.length ≤ i := fun q => c27 ((nI_leI (a := an.length) (b := i) (by omega) (by omega)).mpr q)
              have hin : i < an.length := by omega
              obtain ⟨e6, e7, e8, e9, e10, e11, e12, fn, hn1, hn2, hn3, hn4⟩ := hAe i hin
              have sm := hn3.2
              refine lv_aload_n hx hb d_Mo_place_30 rfl (lv_at hl 0 rfl) ?_
              refine zg_get (ci := 11) (C := "ZoneAnswersModel") (T := T_Mo) (N := 21) hx hb hts zi_Mo hown hK hG ha rfl 6 (by decide) (hts _ w_1287) (fun _ h9 => h9) rfl d_Mo_place_31 ?_
              refine lv_iload hx hb d_Mo_place_34 (lv_at hl 4 rfl) ?_
              refine zg_iald hx hb hK hG 1 hA6 rfl (vp_in_nI (by omega) (by omega)) d_Mo_place_36 ?_
              refine zi_as (y := aS (ae an i)) (by rw [zi_n _ (by omega)]; exact e6) ?_
              refine lv_iload_n hx hb d_Mo_place_37 rfl (lv_at hl 1 rfl) ?_
              refine lv_icmp_eq (tgt := 44) hx hb d_Mo_place_38 (by decide) (fun c38 => ?_) (fun c38 => ?_)
              · have hz9 := zas_y (an := an) c38
                refine lv_iload_n hx hb d_Mo_place_44 rfl (lv_at hl 3 rfl) ?_
                refine lv_if_ne (tgt := 51) hx hb d_Mo_place_45 (by decide) (fun c45 => ?_) (fun c45 => ?_)
                · have b45 : ¬ lf = 0 := fun q => c45 ((nI_eq (a := lf) (b := 0) (by omega) (by omega)).mpr q)
                  refine lv_iinc (v := nI (lf - 1)) (lv' := [(3, .int (nI (lf - 1))), (0, .ref a), (1, .int y), (2, .int (nI kk)), (4, .int (nI i))]) hx hb d_Mo_place_51 hl (k := 3) rfl (zi_dec (by omega)) (by decide) rfl (fun ls hl => ?_)
                  refine lv_iinc (v := nI (i + 1)) (lv' := [(4, .int (nI (i + 1))), (3, .int (nI (lf - 1))), (0, .ref a), (1, .int y), (2, .int (nI kk))]) hx hb d_Mo_place_54 hl (k := 4) rfl (nI_add i 1) (by decide) rfl (fun ls hl => ?_)
                  refine lv_goto (tgt := 21) hx hb d_Mo_place_57 (by decide) ?_
                  exact ih (i + 1) (lf - 1) _ _ (by omega) (by omega) (by omega) hG hS ls (lv_sub hl [2, 3, 4, 1, 0] rfl)
                · have b45 : lf = 0 := (nI_eq (a := lf) (b := 0) (by omega) (by omega)).mp c45
                  refine lv_iload hx hb d_Mo_place_48 (lv_at hl 4 rfl) ?_
                  exact hret _ _ _ _ _ _ _ _ _ hr (rfl) (⟨Or.inl ⟨i, hin, c38, by congr 1; omega, zsec3 c8 c13, rfl⟩, rfl⟩) hG hS (Nat.le_refl _) (Nat.le_refl _) d_Mo_place_50
              · have hz9 := zas_n (an := an) c38
                refine lv_goto (tgt := 54) hx hb d_Mo_place_41 (by decide) ?_
                refine lv_iinc (v := nI (i + 1)) (lv' := [(4, .int (nI (i + 1))), (0, .ref a), (1, .int y), (2, .int (nI kk)), (3, .int (nI lf))]) hx hb d_Mo_place_54 hl (k := 4) rfl (nI_add i 1) (by decide) rfl (fun ls hl => ?_)
                refine lv_goto (tgt := 21) hx hb d_Mo_place_57 (by decide) ?_
                exact ih (i + 1) lf _ _ (by omega) (by omega) (by omega) hG hS ls (lv_sub hl [1, 2, 3, 4, 0] rfl)
        exact loop21 _ 0 kk _ _ (Nat.lt_succ_self _) (Nat.zero_le _) (rfl) hG hS ls (lv_sub hl [2, 3, 4, 1, 0] rfl)
      · refine lv_iconst (v := -1) hx hb d_Mo_place_16 (by decide) ?_
        exact hret _ _ _ _ _ _ _ _ _ hr (rfl) (⟨Or.inr ⟨by first | exact Or.inl c3 | exact Or.inr (Or.inl (zsec4 (Or.inl c8))) | exact Or.inr (Or.inl (zsec4 (Or.inr c13))), rfl⟩, rfl⟩) hG hS (Nat.le_refl _) (Nat.le_refl _) d_Mo_place_17
