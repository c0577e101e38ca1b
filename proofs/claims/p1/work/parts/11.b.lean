theorem w_113 : (.fieldLink "ZoneAnswers$Name" 9 "ZoneAnswers$Name" "bytes" "[B" : Cond) ∈ zw := zw_at 113 (by decide +kernel) (by decide +kernel)
theorem w_116 : (.fieldLink "ZoneAnswers$Name" 15 "ZoneAnswers$Name" "labels" "I" : Cond) ∈ zw := zw_at 116 (by decide +kernel) (by decide +kernel)
abbrev c_Na_tail : ByteArray := prog_4_method_3_code
abbrev y_Na_tail : MethodName := ⟨"ZoneAnswers$Name", "tail", "(I)I"⟩
theorem d_Na_tail_0 : decode c_Na_tail 0 = .ok (.iconst 0, 1) := by decide +kernel
theorem d_Na_tail_1 : decode c_Na_tail 1 = .ok (.istore_n 2, 1) := by decide +kernel
theorem d_Na_tail_2 : decode c_Na_tail 2 = .ok (.aload_n 0, 1) := by decide +kernel
theorem d_Na_tail_3 : decode c_Na_tail 3 = .ok (.getfield 15, 3) := by decide +kernel
theorem d_Na_tail_6 : decode c_Na_tail 6 = .ok (.iload_n 1, 1) := by decide +kernel
theorem d_Na_tail_7 : decode c_Na_tail 7 = .ok (.isub, 1) := by decide +kernel
theorem d_Na_tail_8 : decode c_Na_tail 8 = .ok (.istore_n 3, 1) := by decide +kernel
theorem d_Na_tail_9 : decode c_Na_tail 9 = .ok (.iload_n 3, 1) := by decide +kernel
theorem d_Na_tail_10 : decode c_Na_tail 10 = .ok (.ifCond .le 20, 3) := by decide +kernel
theorem d_Na_tail_13 : decode c_Na_tail 13 = .ok (.iload_n 2, 1) := by decide +kernel
theorem d_Na_tail_14 : decode c_Na_tail 14 = .ok (.aload_n 0, 1) := by decide +kernel
theorem d_Na_tail_15 : decode c_Na_tail 15 = .ok (.getfield 9, 3) := by decide +kernel
theorem d_Na_tail_18 : decode c_Na_tail 18 = .ok (.iload_n 2, 1) := by decide +kernel
theorem d_Na_tail_19 : decode c_Na_tail 19 = .ok (.baload, 1) := by decide +kernel
theorem d_Na_tail_20 : decode c_Na_tail 20 = .ok (.iconst 1, 1) := by decide +kernel
theorem d_Na_tail_21 : decode c_Na_tail 21 = .ok (.iadd, 1) := by decide +kernel
theorem d_Na_tail_22 : decode c_Na_tail 22 = .ok (.iadd, 1) := by decide +kernel
theorem d_Na_tail_23 : decode c_Na_tail 23 = .ok (.istore_n 2, 1) := by decide +kernel
theorem d_Na_tail_24 : decode c_Na_tail 24 = .ok (.iinc 3 (-1), 3) := by decide +kernel
theorem d_Na_tail_27 : decode c_Na_tail 27 = .ok (.goto (-18), 3) := by decide +kernel
theorem d_Na_tail_30 : decode c_Na_tail 30 = .ok (.iload_n 2, 1) := by decide +kernel
theorem d_Na_tail_31 : decode c_Na_tail 31 = .ok (.ireturn, 1) := by decide +kernel
abbrev rm_Na_tail : Room := { frames := 0, cells := 0, slots := 0, locals := 0 }
set_option maxHeartbeats 4000000 in
set_option maxRecDepth 100000 in
/-- Name.tail(k) -/
theorem t_Na_tail (l : Launch) (E : zc_E) (G : zg_G) (a b : Nat) (ls0 : np_N) (f : Nat → Int32) (ha : G a = some (.inr (3, [.ref b, .int (nI ls0.length)]))) (hbb : G b = some (.inl (E.2.1 0, np_len ls0, .inl f))) (hf : np_f ls0 f) (hg : np_g ls0) (k : Nat) (hk : k ≤ ls0.length) : zMi l E y_Na_tail c_Na_tail 4 (some .int) rm_Na_tail [.ref a, .int (nI k)] G (fun (r : Int32) (G2 : zg_G) => r = nI (np_pos ls0 (ls0.length - k)) ∧ G2 = G) := by
  refine zMi.of (by decide) (Nat.le_of_ble_eq_true rfl) ?_
  intro p e s m args below meth c Q hZ hG hret ls hl
  obtain ⟨hx, hb, hr, hts, hown, hlocks, hml, hnm, hbase, hK, hN, hQ⟩ := hZ
  have hl : lv_has ls 4 [(0, .ref a), (1, .int (nI k))] := hl
  have hS : zg_S (zc_b E) s.heap s.heap [] := va_S.rf
  have zl := hg.2
  have zc := hg.count
  refine lv_iconst (v := 0) hx hb d_Na_tail_0 (by decide) ?_
  refine lv_istore_n (lv' := [(2, .int 0), (0, .ref a), (1, .int (nI k))]) hx hb d_Na_tail_1 rfl hl (by decide) rfl (fun ls hl => ?_)
  refine lv_aload_n hx hb d_Na_tail_2 rfl (lv_at hl 1 rfl) ?_
  refine zg_get (ci := 3) (C := "ZoneAnswers$Name") (T := T_Na) (N := 2) hx hb hts zi_Na hown hK hG ha rfl 1 (by decide) (hts _ w_116) (fun _ h9 => h9) rfl d_Na_tail_3 ?_
  refine lv_iload_n hx hb d_Na_tail_6 rfl (lv_at hl 2 rfl) ?_
  refine lv_isub hx hb d_Na_tail_7 ?_
  refine zi_as (y := nI (ls0.length - k)) (zi_sub (a := ls0.length) (b := k) (by omega)) ?_
  refine lv_istore_n (lv' := [(3, .int (nI (ls0.length - k))), (2, .int 0), (0, .ref a), (1, .int (nI k))]) hx hb d_Na_tail_8 rfl hl (by decide) rfl (fun ls hl => ?_)
  have loop9 : ∀ (N : Nat) (i : Nat), (ls0.length - k - i) < N → (i ≤ ls0.length - k) → ∀ (ls : Array Slot), lv_has ls 4 [(0, .ref a), (1, .int (nI k)), (2, .int (nI (np_pos ls0 i))), (3, .int (nI (ls0.length - k - i)))] → W p l e rm_Na_tail s m args below meth c s.heap [] 0 0 Q (F0 m 9 ls []) := by
    intro N
    induction N with
    | zero =>
      intro i hlt
      exact absurd hlt (Nat.not_lt_zero _)
    | succ N ih =>
      intro i hlt hi ls hl
      refine lv_iload_n hx hb d_Na_tail_9 rfl (lv_at hl 3 rfl) ?_
      refine lv_if_le (tgt := 30) hx hb d_Na_tail_10 (by decide) (fun c10 => ?_) (fun c10 => ?_)
      · have b10 : (ls0.length - k - i) ≤ 0 := (nI_leI (a := (ls0.length - k - i)) (b := 0) (by omega) (by omega)).mp c10
        refine lv_iload_n hx hb d_Na_tail_30 rfl (lv_at hl 2 rfl) ?_
        exact hret _ _ _ _ _ _ _ _ _ hr (rfl) (⟨by rw [show i = ls0.length - k by omega], rfl⟩) hG hS (Nat.le_refl _) (Nat.le_refl _) d_Na_tail_31
      · have b10 : ¬ (ls0.length - k - i) ≤ 0 := fun q => c10 ((nI_leI (a := (ls0.length - k - i)) (b := 0) (by omega) (by omega)).mpr q)
        refine lv_iload_n hx hb d_Na_tail_13 rfl (lv_at hl 2 rfl) ?_
        refine lv_aload_n hx hb d_Na_tail_14 rfl (lv_at hl 0 rfl) ?_
        refine zg_get (ci := 3) (C := "ZoneAnswers$Name") (T := T_Na) (N := 2) hx hb hts zi_Na hown hK hG ha rfl 0 (by decide) (hts _ w_113) (fun _ h9 => h9) rfl d_Na_tail_15 ?_
        refine lv_iload_n hx hb d_Na_tail_18 rfl (lv_at hl 2 rfl) ?_
        refine zg_bald hx hb hK hG 0 hbb rfl (np_in hg (by omega)) d_Na_tail_19 ?_
        refine zi_as (y := nI (ls0.getD i []).length) (np_rd hf hg (by omega)) ?_
        refine lv_iconst (v := 1) hx hb d_Na_tail_20 (by decide) ?_
        refine lv_iadd hx hb d_Na_tail_21 ?_
        refine lv_iadd hx hb d_Na_tail_22 ?_
        refine zi_as (y := nI (np_pos ls0 (i + 1))) (np_step (by omega)) ?_
        refine lv_istore_n (lv' := [(2, .int (nI (np_pos ls0 (i + 1)))), (0, .ref a), (1, .int (nI k)), (3, .int (nI (ls0.length - k - i)))]) hx hb d_Na_tail_23 rfl hl (by decide) rfl (fun ls hl => ?_)
        refine lv_iinc (v := nI (ls0.length - k - (i + 1))) (lv' := [(3, .int (nI (ls0.length - k - (i + 1)))), (2, .int (nI (np_pos ls0 (i + 1)))), (0, .ref a), (1, .int (nI k))]) hx hb d_Na_tail_24 hl (k := 3) rfl (zi_dec (by omega)) (by decide) rfl (fun ls hl => ?_)
        refine lv_goto (tgt := 9) hx hb d_Na_tail_27 (by decide) ?_
        exact ih (i + 1) (by omega) (by omega) ls (lv_sub hl [2, 3, 1, 0] rfl)
  have hl : lv_has ls 4 [(3, .int (nI (ls0.length - k - 0))), (2, .int (nI (np_pos ls0 0))), (0, .ref a), (1, .int (nI k))] := by rw [np_pos0]; exact hl
  exact loop9 _ 0 (Nat.lt_succ_self _) (Nat.zero_le _) ls (lv_sub hl [2, 3, 1, 0] rfl)
