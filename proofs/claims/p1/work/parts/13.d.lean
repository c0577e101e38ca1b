theorem w_7 : (.initialized "ZoneAnswers$Name" : Cond) ∈ zw := zw_at 7 (by decide +kernel) (by decide +kernel)
theorem w_185 : (.methodLink "ZoneAnswers$Name" 19 ⟨"ZoneAnswers$Name", "tail", "(I)I"⟩ : Cond) ∈ zw := zw_at 185 (by decide +kernel) (by decide +kernel)
theorem w_187 : (.instanceMethod ⟨"ZoneAnswers$Name", "tail", "(I)I"⟩ : Cond) ∈ zw := zw_at 187 (by decide +kernel) (by decide +kernel)
theorem w_188 : (.code ⟨"ZoneAnswers$Name", "tail", "(I)I"⟩ prog_4_method_3_code 4 (some .int) : Cond) ∈ zw := zw_at 188 (by decide +kernel) (by decide +kernel)
theorem wp_1 : (.selects "ZoneAnswers$Name" ⟨"ZoneAnswers$Name", "tail", "(I)I"⟩ ⟨"ZoneAnswers$Name", "tail", "(I)I"⟩ : Cond) ∈ zw := zw_pv 1 (y := ⟨"ZoneAnswers$Name", "tail", "(I)I"⟩) rfl (by decide +kernel)
abbrev c_Na_length : ByteArray := prog_4_method_2_code
abbrev y_Na_length : MethodName := ⟨"ZoneAnswers$Name", "length", "()I"⟩
theorem d_Na_length_0 : decode c_Na_length 0 = .ok (.aload_n 0, 1) := by decide +kernel
theorem d_Na_length_1 : decode c_Na_length 1 = .ok (.getfield 9, 3) := by decide +kernel
theorem d_Na_length_4 : decode c_Na_length 4 = .ok (.arraylength, 1) := by decide +kernel
theorem d_Na_length_5 : decode c_Na_length 5 = .ok (.ireturn, 1) := by decide +kernel
abbrev c_Na_isSame : ByteArray := prog_4_method_5_code
abbrev y_Na_isSame : MethodName := ⟨"ZoneAnswers$Name", "isSame", "(LZoneAnswers$Name;)Z"⟩
theorem d_Na_isSame_0 : decode c_Na_isSame 0 = .ok (.aload_n 0, 1) := by decide +kernel
theorem d_Na_isSame_1 : decode c_Na_isSame 1 = .ok (.getfield 9, 3) := by decide +kernel
theorem d_Na_isSame_4 : decode c_Na_isSame 4 = .ok (.arraylength, 1) := by decide +kernel
theorem d_Na_isSame_5 : decode c_Na_isSame 5 = .ok (.aload_n 1, 1) := by decide +kernel
theorem d_Na_isSame_6 : decode c_Na_isSame 6 = .ok (.getfield 9, 3) := by decide +kernel
theorem d_Na_isSame_9 : decode c_Na_isSame 9 = .ok (.arraylength, 1) := by decide +kernel
theorem d_Na_isSame_10 : decode c_Na_isSame 10 = .ok (.if_icmp .ne 7, 3) := by decide +kernel
theorem d_Na_isSame_13 : decode c_Na_isSame 13 = .ok (.iconst 1, 1) := by decide +kernel
theorem d_Na_isSame_14 : decode c_Na_isSame 14 = .ok (.goto 4, 3) := by decide +kernel
theorem d_Na_isSame_17 : decode c_Na_isSame 17 = .ok (.iconst 0, 1) := by decide +kernel
theorem d_Na_isSame_18 : decode c_Na_isSame 18 = .ok (.istore_n 2, 1) := by decide +kernel
theorem d_Na_isSame_19 : decode c_Na_isSame 19 = .ok (.iconst 0, 1) := by decide +kernel
theorem d_Na_isSame_20 : decode c_Na_isSame 20 = .ok (.istore_n 3, 1) := by decide +kernel
theorem d_Na_isSame_21 : decode c_Na_isSame 21 = .ok (.iload_n 2, 1) := by decide +kernel
theorem d_Na_isSame_22 : decode c_Na_isSame 22 = .ok (.ifCond .eq 39, 3) := by decide +kernel
theorem d_Na_isSame_25 : decode c_Na_isSame 25 = .ok (.iload_n 3, 1) := by decide +kernel
theorem d_Na_isSame_26 : decode c_Na_isSame 26 = .ok (.aload_n 0, 1) := by decide +kernel
theorem d_Na_isSame_27 : decode c_Na_isSame 27 = .ok (.getfield 9, 3) := by decide +kernel
theorem d_Na_isSame_30 : decode c_Na_isSame 30 = .ok (.arraylength, 1) := by decide +kernel
theorem d_Na_isSame_31 : decode c_Na_isSame 31 = .ok (.if_icmp .ge 30, 3) := by decide +kernel
theorem d_Na_isSame_34 : decode c_Na_isSame 34 = .ok (.aload_n 0, 1) := by decide +kernel
theorem d_Na_isSame_35 : decode c_Na_isSame 35 = .ok (.getfield 9, 3) := by decide +kernel
theorem d_Na_isSame_38 : decode c_Na_isSame 38 = .ok (.iload_n 3, 1) := by decide +kernel
theorem d_Na_isSame_39 : decode c_Na_isSame 39 = .ok (.baload, 1) := by decide +kernel
theorem d_Na_isSame_40 : decode c_Na_isSame 40 = .ok (.aload_n 1, 1) := by decide +kernel
theorem d_Na_isSame_41 : decode c_Na_isSame 41 = .ok (.getfield 9, 3) := by decide +kernel
theorem d_Na_isSame_44 : decode c_Na_isSame 44 = .ok (.iload_n 3, 1) := by decide +kernel
theorem d_Na_isSame_45 : decode c_Na_isSame 45 = .ok (.baload, 1) := by decide +kernel
theorem d_Na_isSame_46 : decode c_Na_isSame 46 = .ok (.if_icmp .ne 7, 3) := by decide +kernel
theorem d_Na_isSame_49 : decode c_Na_isSame 49 = .ok (.iconst 1, 1) := by decide +kernel
theorem d_Na_isSame_50 : decode c_Na_isSame 50 = .ok (.goto 4, 3) := by decide +kernel
theorem d_Na_isSame_53 : decode c_Na_isSame 53 = .ok (.iconst 0, 1) := by decide +kernel
theorem d_Na_isSame_54 : decode c_Na_isSame 54 = .ok (.istore_n 2, 1) := by decide +kernel
theorem d_Na_isSame_55 : decode c_Na_isSame 55 = .ok (.iinc 3 1, 3) := by decide +kernel
theorem d_Na_isSame_58 : decode c_Na_isSame 58 = .ok (.goto (-37), 3) := by decide +kernel
theorem d_Na_isSame_61 : decode c_Na_isSame 61 = .ok (.iload_n 2, 1) := by decide +kernel
theorem d_Na_isSame_62 : decode c_Na_isSame 62 = .ok (.ireturn, 1) := by decide +kernel
abbrev c_Na_isAtOrBelow : ByteArray := prog_4_method_4_code
abbrev y_Na_isAtOrBelow : MethodName := ⟨"ZoneAnswers$Name", "isAtOrBelow", "(LZoneAnswers$Name;)Z"⟩
theorem d_Na_isAtOrBelow_0 : decode c_Na_isAtOrBelow 0 = .ok (.aload_n 0, 1) := by decide +kernel
theorem d_Na_isAtOrBelow_1 : decode c_Na_isAtOrBelow 1 = .ok (.getfield 15, 3) := by decide +kernel
theorem d_Na_isAtOrBelow_4 : decode c_Na_isAtOrBelow 4 = .ok (.aload_n 1, 1) := by decide +kernel
theorem d_Na_isAtOrBelow_5 : decode c_Na_isAtOrBelow 5 = .ok (.getfield 15, 3) := by decide +kernel
theorem d_Na_isAtOrBelow_8 : decode c_Na_isAtOrBelow 8 = .ok (.if_icmp .ge 5, 3) := by decide +kernel
theorem d_Na_isAtOrBelow_11 : decode c_Na_isAtOrBelow 11 = .ok (.iconst 0, 1) := by decide +kernel
theorem d_Na_isAtOrBelow_12 : decode c_Na_isAtOrBelow 12 = .ok (.ireturn, 1) := by decide +kernel
theorem d_Na_isAtOrBelow_13 : decode c_Na_isAtOrBelow 13 = .ok (.aload_n 0, 1) := by decide +kernel
theorem d_Na_isAtOrBelow_14 : decode c_Na_isAtOrBelow 14 = .ok (.aload_n 1, 1) := by decide +kernel
theorem d_Na_isAtOrBelow_15 : decode c_Na_isAtOrBelow 15 = .ok (.getfield 15, 3) := by decide +kernel
theorem d_Na_isAtOrBelow_18 : decode c_Na_isAtOrBelow 18 = .ok (.invokevirtual 19, 3) := by decide +kernel
theorem d_Na_isAtOrBelow_21 : decode c_Na_isAtOrBelow 21 = .ok (.istore_n 2, 1) := by decide +kernel
theorem d_Na_isAtOrBelow_22 : decode c_Na_isAtOrBelow 22 = .ok (.aload_n 0, 1) := by decide +kernel
theorem d_Na_isAtOrBelow_23 : decode c_Na_isAtOrBelow 23 = .ok (.getfield 9, 3) := by decide +kernel
theorem d_Na_isAtOrBelow_26 : decode c_Na_isAtOrBelow 26 = .ok (.arraylength, 1) := by decide +kernel
theorem d_Na_isAtOrBelow_27 : decode c_Na_isAtOrBelow 27 = .ok (.iload_n 2, 1) := by decide +kernel
theorem d_Na_isAtOrBelow_28 : decode c_Na_isAtOrBelow 28 = .ok (.isub, 1) := by decide +kernel
theorem d_Na_isAtOrBelow_29 : decode c_Na_isAtOrBelow 29 = .ok (.aload_n 1, 1) := by decide +kernel
theorem d_Na_isAtOrBelow_30 : decode c_Na_isAtOrBelow 30 = .ok (.getfield 9, 3) := by decide +kernel
theorem d_Na_isAtOrBelow_33 : decode c_Na_isAtOrBelow 33 = .ok (.arraylength, 1) := by decide +kernel
theorem d_Na_isAtOrBelow_34 : decode c_Na_isAtOrBelow 34 = .ok (.if_icmp .ne 7, 3) := by decide +kernel
theorem d_Na_isAtOrBelow_37 : decode c_Na_isAtOrBelow 37 = .ok (.iconst 1, 1) := by decide +kernel
theorem d_Na_isAtOrBelow_38 : decode c_Na_isAtOrBelow 38 = .ok (.goto 4, 3) := by decide +kernel
theorem d_Na_isAtOrBelow_41 : decode c_Na_isAtOrBelow 41 = .ok (.iconst 0, 1) := by decide +kernel
theorem d_Na_isAtOrBelow_42 : decode c_Na_isAtOrBelow 42 = .ok (.istore_n 3, 1) := by decide +kernel
theorem d_Na_isAtOrBelow_43 : decode c_Na_isAtOrBelow 43 = .ok (.iload_n 2, 1) := by decide +kernel
theorem d_Na_isAtOrBelow_44 : decode c_Na_isAtOrBelow 44 = .ok (.istore 4, 2) := by decide +kernel
theorem d_Na_isAtOrBelow_46 : decode c_Na_isAtOrBelow 46 = .ok (.iload_n 3, 1) := by decide +kernel
theorem d_Na_isAtOrBelow_47 : decode c_Na_isAtOrBelow 47 = .ok (.ifCond .eq 44, 3) := by decide +kernel
theorem d_Na_isAtOrBelow_50 : decode c_Na_isAtOrBelow 50 = .ok (.iload 4, 2) := by decide +kernel
theorem d_Na_isAtOrBelow_52 : decode c_Na_isAtOrBelow 52 = .ok (.aload_n 0, 1) := by decide +kernel
theorem d_Na_isAtOrBelow_53 : decode c_Na_isAtOrBelow 53 = .ok (.getfield 9, 3) := by decide +kernel
theorem d_Na_isAtOrBelow_56 : decode c_Na_isAtOrBelow 56 = .ok (.arraylength, 1) := by decide +kernel
theorem d_Na_isAtOrBelow_57 : decode c_Na_isAtOrBelow 57 = .ok (.if_icmp .ge 34, 3) := by decide +kernel
theorem d_Na_isAtOrBelow_60 : decode c_Na_isAtOrBelow 60 = .ok (.aload_n 0, 1) := by decide +kernel
theorem d_Na_isAtOrBelow_61 : decode c_Na_isAtOrBelow 61 = .ok (.getfield 9, 3) := by decide +kernel
theorem d_Na_isAtOrBelow_64 : decode c_Na_isAtOrBelow 64 = .ok (.iload 4, 2) := by decide +kernel
theorem d_Na_isAtOrBelow_66 : decode c_Na_isAtOrBelow 66 = .ok (.baload, 1) := by decide +kernel
theorem d_Na_isAtOrBelow_67 : decode c_Na_isAtOrBelow 67 = .ok (.aload_n 1, 1) := by decide +kernel
theorem d_Na_isAtOrBelow_68 : decode c_Na_isAtOrBelow 68 = .ok (.getfield 9, 3) := by decide +kernel
theorem d_Na_isAtOrBelow_71 : decode c_Na_isAtOrBelow 71 = .ok (.iload 4, 2) := by decide +kernel
theorem d_Na_isAtOrBelow_73 : decode c_Na_isAtOrBelow 73 = .ok (.iload_n 2, 1) := by decide +kernel
theorem d_Na_isAtOrBelow_74 : decode c_Na_isAtOrBelow 74 = .ok (.isub, 1) := by decide +kernel
theorem d_Na_isAtOrBelow_75 : decode c_Na_isAtOrBelow 75 = .ok (.baload, 1) := by decide +kernel
theorem d_Na_isAtOrBelow_76 : decode c_Na_isAtOrBelow 76 = .ok (.if_icmp .ne 7, 3) := by decide +kernel
theorem d_Na_isAtOrBelow_79 : decode c_Na_isAtOrBelow 79 = .ok (.iconst 1, 1) := by decide +kernel
theorem d_Na_isAtOrBelow_80 : decode c_Na_isAtOrBelow 80 = .ok (.goto 4, 3) := by decide +kernel
theorem d_Na_isAtOrBelow_83 : decode c_Na_isAtOrBelow 83 = .ok (.iconst 0, 1) := by decide +kernel
theorem d_Na_isAtOrBelow_84 : decode c_Na_isAtOrBelow 84 = .ok (.istore_n 3, 1) := by decide +kernel
theorem d_Na_isAtOrBelow_85 : decode c_Na_isAtOrBelow 85 = .ok (.iinc 4 1, 3) := by decide +kernel
theorem d_Na_isAtOrBelow_88 : decode c_Na_isAtOrBelow 88 = .ok (.goto (-42), 3) := by decide +kernel
theorem d_Na_isAtOrBelow_91 : decode c_Na_isAtOrBelow 91 = .ok (.iload_n 3, 1) := by decide +kernel
theorem d_Na_isAtOrBelow_92 : decode c_Na_isAtOrBelow 92 = .ok (.ireturn, 1) := by decide +kernel
abbrev rm_Na_length : Room := { frames := 0, cells := 0, slots := 0, locals := 0 }
set_option maxHeartbeats 4000000 in
set_option maxRecDepth 100000 in
/-- Name.length() -/
theorem t_Na_length (l : Launch) (E : zc_E) (G : zg_G) (a0 b0 : Nat) (ls0 : np_N) (f0 : Nat → Int32) (ha0 : G a0 = some (.inr (3, [.ref b0, .int (nI ls0.length)]))) (hb0 : G b0 = some (.inl (E.2.1 0, np_len ls0, .inl f0))) (hf0 : np_f ls0 f0) (hg0 : np_g ls0) : zMi l E y_Na_length c_Na_length 1 (some .int) rm_Na_length [.ref a0] G (fun (r : Int32) (G2 : zg_G) => r = nI (np_len ls0) ∧ G2 = G) := by
  refine zMi.of (by decide) (Nat.le_of_ble_eq_true rfl) ?_
  intro p e s m args below meth c Q hZ hG hret ls hl
  obtain ⟨hx, hb, hr, hts, hown, hlocks, hml, hnm, hbase, hK, hN, hQ⟩ := hZ
  have hl : lv_has ls 1 [(0, .ref a0)] := hl
  have hS : zg_S (zc_b E) s.heap s.heap [] := va_S.rf
  refine lv_aload_n hx hb d_Na_length_0 rfl (lv_at hl 0 rfl) ?_
  refine zg_get (ci := 3) (C := "ZoneAnswers$Name") (T := T_Na) (N := 2) hx hb hts zi_Na hown hK hG ha0 rfl 0 (by decide) (hts _ w_113) (fun _ h9 => h9) rfl d_Na_length_1 ?_
  refine zg_alen hx hb hK hG 0 hb0 rfl (v := nI (np_len ls0)) rfl d_Na_length_4 ?_
  exact hret _ _ _ _ _ _ _ _ _ hr (rfl) (⟨rfl, rfl⟩) hG hS (Nat.le_refl _) (Nat.le_refl _) d_Na_length_5
abbrev rm_Na_isSame : Room := { frames := 0, cells := 0, slots := 0, locals := 0 }
set_option maxHeartbeats 4000000 in
set_option maxRecDepth 100000 in
/-- Name.isSame(other) -/
theorem t_Na_isSame (l : Launch) (E : zc_E) (G : zg_G) (a0 b0 : Nat) (ls0 : np_N) (f0 : Nat → Int32) (ha0 : G a0 = some (.inr (3, [.ref b0, .int (nI ls0.length)]))) (hb0 : G b0 = some (.inl (E.2.1 0, np_len ls0, .inl f0))) (hf0 : np_f ls0 f0) (hg0 : np_g ls0) (a1 b1 : Nat) (ls1 : np_N) (f1 : Nat → Int32) (ha1 : G a1 = some (.inr (3, [.ref b1, .int (nI ls1.length)]))) (hb1 : G b1 = some (.inl (E.2.1 0, np_len ls1, .inl f1))) (hf1 : np_f ls1 f1) (hg1 : np_g ls1) : zMi l E y_Na_isSame c_Na_isSame 4 (some .boolean) rm_Na_isSame [.ref a0, .ref a1] G (fun (r : Int32) (G2 : zg_G) => zb r (ls0 = ls1) ∧ G2 = G) := by
  refine zMi.of (by decide) (Nat.le_of_ble_eq_true rfl) ?_
  intro p e s m args below meth c Q hZ hG hret ls hl
  obtain ⟨hx, hb, hr, hts, hown, hlocks, hml, hnm, hbase, hK, hN, hQ⟩ := hZ
  have hl : lv_has ls 4 [(0, .ref a0), (1, .ref a1)] := hl
  have hS : zg_S (zc_b E) s.heap s.heap [] := va_S.rf
  have zl0 := hg0.2
  have zc0 := hg0.count
  have zl1 := hg1.2
  have zc1 := hg1.count
  have loop21 : ∀ (N : Nat) (i : Nat) (s1 : Int32), (np_len ls0 - i) < N → (i ≤ np_len ls0) → ((s1 = 1 ∧ np_len ls0 = np_len ls1 ∧ ∀ j, j < i → f0 j = f1 j) ∨ (s1 = 0 ∧ ¬ ls0 = ls1)) → ∀ (ls : Array Slot), lv_has ls 4 [(0, .ref a0), (1, .ref a1), (2, .int s1), (3, .int (nI i))] → W p l e rm_Na_isSame s m args below meth c s.heap [] 0 0 Q (F0 m 21 ls []) := by
    intro N
    induction N with
    | zero =>
      intro i s1 hlt
      exact absurd hlt (Nat.not_lt_zero _)
    | succ N ih =>
      intro i s1 hlt hi hz ls hl
      refine lv_iload_n hx hb d_Na_isSame_21 rfl (lv_at hl 2 rfl) ?_
      refine lv_if_eq (tgt := 61) hx hb d_Na_isSame_22 (by decide) (fun c22 => ?_) (fun c22 => ?_)
      · have hpost : zb s1 (ls0 = ls1) := hz.elim (fun q => absurd (q.1.symm.trans c22) (by decide)) (fun q => Or.inr q)
        refine lv_iload_n hx hb d_Na_isSame_61 rfl (lv_at hl 2 rfl) ?_
        exact hret _ _ _ _ _ _ _ _ _ hr (hpost.nar) (⟨hpost, rfl⟩) hG hS (Nat.le_refl _) (Nat.le_refl _) d_Na_isSame_62
      · obtain ⟨es, hle, hq⟩ := hz.resolve_right (fun q => c22 q.1)
        refine lv_iload_n hx hb d_Na_isSame_25 rfl (lv_at hl 3 rfl) ?_
        refine lv_aload_n hx hb d_Na_isSame_26 rfl (lv_at hl 0 rfl) ?_
        refine zg_get (ci := 3) (C := "ZoneAnswers$Name") (T := T_Na) (N := 2) hx hb hts zi_Na hown hK hG ha0 rfl 0 (by decide) (hts _ w_113) (fun _ h9 => h9) rfl d_Na_isSame_27 ?_
        refine zg_alen hx hb hK hG 0 hb0 rfl (v := nI (np_len ls0)) rfl d_Na_isSame_30 ?_
        refine lv_icmp_ge (tgt := 61) hx hb d_Na_isSame_31 (by decide) (fun c31 => ?_) (fun c31 => ?_)
        · have b31 : (np_len ls0) ≤ i := (nI_leI (a := (np_len ls0)) (b := i) (by omega) (by omega)).mp c31
          have hpost : zb s1 (ls0 = ls1) := Or.inl ⟨es, (np_same hf0 hf1 hg0 hg1).mp ⟨hle, fun j h => hq j (by omega)⟩⟩
          refine lv_iload_n hx hb d_Na_isSame_61 rfl (lv_at hl 2 rfl) ?_
          exact hret _ _ _ _ _ _ _ _ _ hr (hpost.nar) (⟨hpost, rfl⟩) hG hS (Nat.le_refl _) (Nat.le_refl _) d_Na_isSame_62
        · have b31 : ¬ (np_len ls0) ≤ i := fun q => c31 ((nI_leI (a := (np_len ls0)) (b := i) (by omega) (by omega)).mpr q)
          refine lv_aload_n hx hb d_Na_isSame_34 rfl (lv_at hl 0 rfl) ?_
          refine zg_get (ci := 3) (C := "ZoneAnswers$Name") (T := T_Na) (N := 2) hx hb hts zi_Na hown hK hG ha0 rfl 0 (by decide) (hts _ w_113) (fun _ h9 => h9) rfl d_Na_isSame_35 ?_
          refine lv_iload_n hx hb d_Na_isSame_38 rfl (lv_at hl 3 rfl) ?_
          refine zg_bald hx hb hK hG 0 hb0 rfl (vp_in_nI (by omega) (by omega)) d_Na_isSame_39 ?_
          refine zi_as (y := f0 i) (by rw [zi_n _ (by omega)]) ?_
          refine lv_aload_n hx hb d_Na_isSame_40 rfl (lv_at hl 1 rfl) ?_
          refine zg_get (ci := 3) (C := "ZoneAnswers$Name") (T := T_Na) (N := 2) hx hb hts zi_Na hown hK hG ha1 rfl 0 (by decide) (hts _ w_113) (fun _ h9 => h9) rfl d_Na_isSame_41 ?_
          refine lv_iload_n hx hb d_Na_isSame_44 rfl (lv_at hl 3 rfl) ?_
          refine zg_bald hx hb hK hG 0 hb1 rfl (vp_in_nI (by omega) (by omega)) d_Na_isSame_45 ?_
          refine zi_as (y := f1 i) (by rw [zi_n _ (by omega)]) ?_
          refine lv_icmp_ne (tgt := 53) hx hb d_Na_isSame_46 (by decide) (fun c46 => ?_) (fun c46 => ?_)
          · refine lv_iconst (v := 0) hx hb d_Na_isSame_53 (by decide) ?_
            refine lv_istore_n (lv' := [(2, .int 0), (0, .ref a0), (1, .ref a1), (3, .int (nI i))]) hx hb d_Na_isSame_54 rfl hl (by decide) rfl (fun ls hl => ?_)
            refine lv_iinc (v := nI (i + 1)) (lv' := [(3, .int (nI (i + 1))), (2, .int 0), (0, .ref a0), (1, .ref a1)]) hx hb d_Na_isSame_55 hl (k := 3) rfl (nI_add i 1) (by decide) rfl (fun ls hl => ?_)
            refine lv_goto (tgt := 21) hx hb d_Na_isSame_58 (by decide) ?_
            exact ih (i + 1) 0 (by omega) (by omega) (by first | exact Or.inl ⟨rfl, hle, lt_s hq c46⟩ | exact Or.inr ⟨rfl, fun q => c46 (((np_same hf0 hf1 hg0 hg1).mpr q).2 i (by omega))⟩) ls (lv_sub hl [2, 3, 1, 0] rfl)
          · refine lv_iconst (v := 1) hx hb d_Na_isSame_49 (by decide) ?_
            refine lv_goto (tgt := 54) hx hb d_Na_isSame_50 (by decide) ?_
            refine lv_istore_n (lv' := [(2, .int 1), (0, .ref a0), (1, .ref a1), (3, .int (nI i))]) hx hb d_Na_isSame_54 rfl hl (by decide) rfl (fun ls hl => ?_)
            refine lv_iinc (v := nI (i + 1)) (lv' := [(3, .int (nI (i + 1))), (2, .int 1), (0, .ref a0), (1, .ref a1)]) hx hb d_Na_isSame_55 hl (k := 3) rfl (nI_add i 1) (by decide) rfl (fun ls hl => ?_)
            refine lv_goto (tgt := 21) hx hb d_Na_isSame_58 (by decide) ?_
            exact ih (i + 1) 1 (by omega) (by omega) (by first | exact Or.inl ⟨rfl, hle, lt_s hq c46⟩ | exact Or.inr ⟨rfl, fun q => c46 (((np_same hf0 hf1 hg0 hg1).mpr q).2 i (by omega))⟩) ls (lv_sub hl [2, 3, 1, 0] rfl)
  refine lv_aload_n hx hb d_Na_isSame_0 rfl (lv_at hl 0 rfl) ?_
  refine zg_get (ci := 3) (C := "ZoneAnswers$Name") (T := T_Na) (N := 2) hx hb hts zi_Na hown hK hG ha0 rfl 0 (by decide) (hts _ w_113) (fun _ h9 => h9) rfl d_Na_isSame_1 ?_
  refine zg_alen hx hb hK hG 0 hb0 rfl (v := nI (np_len ls0)) rfl d_Na_isSame_4 ?_
  refine lv_aload_n hx hb d_Na_isSame_5 rfl (lv_at hl 1 rfl) ?_
  refine zg_get (ci := 3) (C := "ZoneAnswers$Name") (T := T_Na) (N := 2) hx hb hts zi_Na hown hK hG ha1 rfl 0 (by decide) (hts _ w_113) (fun _ h9 => h9) rfl d_Na_isSame_6 ?_
  refine zg_alen hx hb hK hG 0 hb1 rfl (v := nI (np_len ls1)) rfl d_Na_isSame_9 ?_
  refine lv_icmp_ne (tgt := 17) hx hb d_Na_isSame_10 (by decide) (fun c10 => ?_) (fun c10 => ?_)
  · have b10 : ¬ (np_len ls0) = (np_len ls1) := fun q => c10 ((nI_eq (a := (np_len ls0)) (b := (np_len ls1)) (by omega) (by omega)).mpr q)
    refine lv_iconst (v := 0) hx hb d_Na_isSame_17 (by decide) ?_
    refine lv_istore_n (lv' := [(2, .int 0), (0, .ref a0), (1, .ref a1)]) hx hb d_Na_isSame_18 rfl hl (by decide) rfl (fun ls hl => ?_)
    refine lv_iconst (v := 0) hx hb d_Na_isSame_19 (by decide) ?_
    refine lv_istore_n (lv' := [(3, .int 0), (2, .int 0), (0, .ref a0), (1, .ref a1)]) hx hb d_Na_isSame_20 rfl hl (by decide) rfl (fun ls hl => ?_)
    exact loop21 _ 0 0 (Nat.lt_succ_self _) (Nat.zero_le _) (by first | exact Or.inl ⟨rfl, b10, fun j h => absurd h (Nat.not_lt_zero j)⟩ | exact Or.inr ⟨rfl, fun q => b10 (by rw [q])⟩) ls (lv_sub hl [2, 3, 1, 0] rfl)
  · have b10 : (np_len ls0) = (np_len ls1) := (nI_eq (a := (np_len ls0)) (b := (np_len ls1)) (by omega) (by omega)).mp c10
    refine lv_iconst (v := 1) hx hb d_Na_isSame_13 (by decide) ?_
    refine lv_goto (tgt := 18) hx hb d_Na_isSame_14 (by decide) ?_
    refine lv_istore_n (lv' := [(2, .int 1), (0, .ref a0), (1, .ref a1)]) hx hb d_Na_isSame_18 rfl hl (by decide) rfl (fun ls hl => ?_)
    refine lv_iconst (v := 0) hx hb d_Na_isSame_19 (by decide) ?_
    refine lv_istore_n (lv' := [(3, .int 0), (2, .int 1), (0, .ref a0), (1, .ref a1)]) hx hb d_Na_isSame_20 rfl hl (by decide) rfl (fun ls hl => ?_)
    exact loop21 _ 0 1 (Nat.lt_succ_self _) (Nat.zero_le _) (by first | exact Or.inl ⟨rfl, b10, fun j h => absurd h (Nat.not_lt_zero j)⟩ | exact Or.inr ⟨rfl, fun q => b10 (by rw [q])⟩) ls (lv_sub hl [2, 3, 1, 0] rfl)
abbrev rm_Na_isAtOrBelow : Room := { frames := 1, cells := 0, slots := 0, locals := 23 }
set_option maxHeartbeats 4000000 in
set_option maxRecDepth 100000 in
/-- Name.isAtOrBelow(other) -/
theorem t_Na_isAtOrBelow (l : Launch) (E : zc_E) (G : zg_G) (a0 b0 : Nat) (ls0 : np_N) (f0 : Nat → Int32) (ha0 : G a0 = some (.inr (3, [.ref b0, .int (nI ls0.length)]))) (hb0 : G b0 = some (.inl (E.2.1 0, np_len ls0, .inl f0))) (hf0 : np_f ls0 f0) (hg0 : np_g ls0) (a1 b1 : Nat) (ls1 : np_N) (f1 : Nat → Int32) (ha1 : G a1 = some (.inr (3, [.ref b1, .int (nI ls1.length)]))) (hb1 : G b1 = some (.inl (E.2.1 0, np_len ls1, .inl f1))) (hf1 : np_f ls1 f1) (hg1 : np_g ls1) : zMi l E y_Na_isAtOrBelow c_Na_isAtOrBelow 5 (some .boolean) rm_Na_isAtOrBelow [.ref a0, .ref a1] G (fun (r : Int32) (G2 : zg_G) => zb r (ls1 <:+ ls0) ∧ G2 = G) := by
  refine zMi.of (by decide) (Nat.le_of_ble_eq_true rfl) ?_
  intro p e s m args below meth c Q hZ hG hret ls hl
  obtain ⟨hx, hb, hr, hts, hown, hlocks, hml, hnm, hbase, hK, hN, hQ⟩ := hZ
  have hl : lv_has ls 5 [(0, .ref a0), (1, .ref a1)] := hl
  have hS : zg_S (zc_b E) s.heap s.heap [] := va_S.rf
  have zl0 := hg0.2
  have zc0 := hg0.count
  have zl1 := hg1.2
  have zc1 := hg1.count
  have hq0 : ls0.length - ls1.length ≤ ls0.length := Nat.sub_le _ _
  have hld := np_len_drop ls0 (ls0.length - ls1.length) hq0
  have hpl := np_pos_le ls0 (ls0.length - ls1.length) hq0
  refine lv_aload_n hx hb d_Na_isAtOrBelow_0 rfl (lv_at hl 0 rfl) ?_
  refine zg_get (ci := 3) (C := "ZoneAnswers$Name") (T := T_Na) (N := 2) hx hb hts zi_Na hown hK hG ha0 rfl 1 (by decide) (hts _ w_116) (fun _ h9 => h9) rfl d_Na_isAtOrBelow_1 ?_
  refine lv_aload_n hx hb d_Na_isAtOrBelow_4 rfl (lv_at hl 1 rfl) ?_
  refine zg_get (ci := 3) (C := "ZoneAnswers$Name") (T := T_Na) (N := 2) hx hb hts zi_Na hown hK hG ha1 rfl 1 (by decide) (hts _ w_116) (fun _ h9 => h9) rfl d_Na_isAtOrBelow_5 ?_
  refine lv_icmp_ge (tgt := 13) hx hb d_Na_isAtOrBelow_8 (by decide) (fun c8 => ?_) (fun c8 => ?_)
  · have b8 : ls1.length ≤ ls0.length := (nI_leI (a := ls1.length) (b := ls0.length) (by omega) (by omega)).mp c8
    refine lv_aload_n hx hb d_Na_isAtOrBelow_13 rfl (lv_at hl 0 rfl) ?_
    refine lv_aload_n hx hb d_Na_isAtOrBelow_14 rfl (lv_at hl 1 rfl) ?_
    refine zg_get (ci := 3) (C := "ZoneAnswers$Name") (T := T_Na) (N := 2) hx hb hts zi_Na hown hK hG ha1 rfl 1 (by decide) (hts _ w_116) (fun _ h9 => h9) rfl d_Na_isAtOrBelow_15 ?_
    refine zk_i (va_runV (As := [.int (nI ls1.length)]) (rest := []) ⟨hx, hb, hml, hown, hts⟩ (t_Na_tail l E G a0 b0 ls0 f0 ha0 hb0 hf0 hg0 ls1.length (by omega)) (zcV 1 hts w_185 w_187 wp_1 w_7 w_188 (by decide +kernel) ⟨Nat.le_of_ble_eq_true rfl, Nat.le_of_ble_eq_true rfl⟩) (zc_preV hbase hK hN hQ hG hS ha0 rfl) rfl rfl hl.1 rfl (lv_room (Nat.le_of_ble_eq_true rfl)) d_Na_isAtOrBelow_18 ⟨(by decide), (by decide)⟩) hS (fun r18 G18 H locs hp18 hG hS => ?_)
    have hG : zP E G H := hp18.2 ▸ hG
    refine zi_as (y := nI (np_pos ls0 (ls0.length - ls1.length))) hp18.1 ?_
    refine lv_istore_n (lv' := [(2, .int (nI (np_pos ls0 (ls0.length - ls1.length)))), (0, .ref a0), (1, .ref a1)]) hx hb d_Na_isAtOrBelow_21 rfl hl (by decide) rfl (fun ls hl => ?_)
    refine lv_aload_n hx hb d_Na_isAtOrBelow_22 rfl (lv_at hl 1 rfl) ?_
    refine zg_get (ci := 3) (C := "ZoneAnswers$Name") (T := T_Na) (N := 2) hx hb hts zi_Na hown hK hG ha0 rfl 0 (by decide) (hts _ w_113) (fun _ h9 => h9) rfl d_Na_isAtOrBelow_23 ?_
    refine zg_alen hx hb hK hG 0 hb0 rfl (v := nI (np_len ls0)) rfl d_Na_isAtOrBelow_26 ?_
    refine lv_iload_n hx hb d_Na_isAtOrBelow_27 rfl (lv_at hl 0 rfl) ?_
    refine lv_isub hx hb d_Na_isAtOrBelow_28 ?_
    refine zi_as (y := nI (np_len ls0 - (np_pos ls0 (ls0.length - ls1.length)))) (zi_sub (a := np_len ls0) (b := np_pos ls0 (ls0.length - ls1.length)) (by omega)) ?_
    refine lv_aload_n hx hb d_Na_isAtOrBelow_29 rfl (lv_at hl 2 rfl) ?_
    refine zg_get (ci := 3) (C := "ZoneAnswers$Name") (T := T_Na) (N := 2) hx hb hts zi_Na hown hK hG ha1 rfl 0 (by decide) (hts _ w_113) (fun _ h9 => h9) rfl d_Na_isAtOrBelow_30 ?_
    refine zg_alen hx hb hK hG 0 hb1 rfl (v := nI (np_len ls1)) rfl d_Na_isAtOrBelow_33 ?_
    refine lv_icmp_ne (tgt := 41) hx hb d_Na_isAtOrBelow_34 (by decide) (fun c34 => ?_) (fun c34 => ?_)
    · have b34 : ¬ (np_len ls0 - (np_pos ls0 (ls0.length - ls1.length))) = (np_len ls1) := fun q => c34 ((nI_eq (a := (np_len ls0 - (np_pos ls0 (ls0.length - ls1.length)))) (b := (np_len ls1)) (by omega) (by omega)).mpr q)
      refine lv_iconst (v := 0) hx hb d_Na_isAtOrBelow_41 (by decide) ?_
      refine lv_istore_n (lv' := [(3, .int 0), (2, .int (nI (np_pos ls0 (ls0.length - ls1.length)))), (0, .ref a0), (1, .ref a1)]) hx hb d_Na_isAtOrBelow_42 rfl hl (by decide) rfl (fun ls hl => ?_)
      refine lv_iload_n hx hb d_Na_isAtOrBelow_43 rfl (lv_at hl 1 rfl) ?_
      refine lv_istore (lv' := [(4, .int (nI (np_pos ls0 (ls0.length - ls1.length)))), (3, .int 0), (2, .int (nI (np_pos ls0 (ls0.length - ls1.length)))), (0, .ref a0), (1, .ref a1)]) hx hb d_Na_isAtOrBelow_44 hl (by decide) rfl (fun ls hl => ?_)
      have loop46 : ∀ (N : Nat) (i : Nat) (s1 : Int32) (H : Heap) (locs : List Loc), (np_len ls0 - i) < N → (i ≤ np_len ls0 - np_pos ls0 (ls0.length - ls1.length)) → ((s1 = 1 ∧ np_len ls0 - np_pos ls0 (ls0.length - ls1.length) = np_len ls1 ∧ ∀ j, j < i → f0 (np_pos ls0 (ls0.length - ls1.length) + j) = f1 j) ∨ (s1 = 0 ∧ ¬ ls1 <:+ ls0)) → zP E G H → zg_S (zc_b E) s.heap H locs → ∀ (ls : Array Slot), lv_has ls 5 [(0, .ref a0), (1, .ref a1), (2, .int (nI (np_pos ls0 (ls0.length - ls1.length)))), (3, .int s1), (4, .int (nI (np_pos ls0 (ls0.length - ls1.length) + i)))] → W p l e rm_Na_isAtOrBelow s m args below meth c H locs 0 0 Q (F0 m 46 ls []) := by
        intro N
        induction N with
        | zero =>
          intro i s1 H locs hlt
          exact absurd hlt (Nat.not_lt_zero _)
        | succ N ih =>
          intro i s1 H locs hlt hi hz hG hS ls hl
          refine lv_iload_n hx hb d_Na_isAtOrBelow_46 rfl (lv_at hl 3 rfl) ?_
          refine lv_if_eq (tgt := 91) hx hb d_Na_isAtOrBelow_47 (by decide) (fun c47 => ?_) (fun c47 => ?_)
          · have hpost : zb s1 (ls1 <:+ ls0) := hz.elim (fun q => absurd (q.1.symm.trans c47) (by decide)) (fun q => Or.inr q)
            refine lv_iload_n hx hb d_Na_isAtOrBelow_91 rfl (lv_at hl 3 rfl) ?_
            exact hret _ _ _ _ _ _ _ _ _ hr (hpost.nar) (⟨hpost, rfl⟩) hG hS (Nat.le_refl _) (Nat.le_refl _) d_Na_isAtOrBelow_92
          · obtain ⟨es, hle, hq⟩ := hz.resolve_right (fun q => c47 q.1)
            refine lv_iload hx hb d_Na_isAtOrBelow_50 (lv_at hl 4 rfl) ?_
            refine lv_aload_n hx hb d_Na_isAtOrBelow_52 rfl (lv_at hl 0 rfl) ?_
            refine zg_get (ci := 3) (C := "ZoneAnswers$Name") (T := T_Na) (N := 2) hx hb hts zi_Na hown hK hG ha0 rfl 0 (by decide) (hts _ w_113) (fun _ h9 => h9) rfl d_Na_isAtOrBelow_53 ?_
            refine zg_alen hx hb hK hG 0 hb0 rfl (v := nI (np_len ls0)) rfl d_Na_isAtOrBelow_56 ?_
            refine lv_icmp_ge (tgt := 91) hx hb d_Na_isAtOrBelow_57 (by decide) (fun c57 => ?_) (fun c57 => ?_)
            · have b57 : (np_len ls0) ≤ (np_pos ls0 (ls0.length - ls1.length) + i) := (nI_leI (a := (np_len ls0)) (b := (np_pos ls0 (ls0.length - ls1.length) + i)) (by omega) (by omega)).mp c57
              have hpost : zb s1 (ls1 <:+ ls0) := Or.inl ⟨es, (np_suf (by omega)).mp ((np_same (hf0.drop hq0) hf1 (hg0.drop hq0) hg1).mp ⟨by omega, fun j h => hq j (by omega)⟩)⟩
              refine lv_iload_n hx hb d_Na_isAtOrBelow_91 rfl (lv_at hl 3 rfl) ?_
              exact hret _ _ _ _ _ _ _ _ _ hr (hpost.nar) (⟨hpost, rfl⟩) hG hS (Nat.le_refl _) (Nat.le_refl _) d_Na_isAtOrBelow_92
            · have b57 : ¬ (np_len ls0) ≤ (np_pos ls0 (ls0.length - ls1.length) + i) := fun q => c57 ((nI_leI (a := (np_len ls0)) (b := (np_pos ls0 (ls0.length - ls1.length) + i)) (by omega) (by omega)).mpr q)
              refine lv_aload_n hx hb d_Na_isAtOrBelow_60 rfl (lv_at hl 0 rfl) ?_
              refine zg_get (ci := 3) (C := "ZoneAnswers$Name") (T := T_Na) (N := 2) hx hb hts zi_Na hown hK hG ha0 rfl 0 (by decide) (hts _ w_113) (fun _ h9 => h9) rfl d_Na_isAtOrBelow_61 ?_
              refine lv_iload hx hb d_Na_isAtOrBelow_64 (lv_at hl 4 rfl) ?_
              refine zg_bald hx hb hK hG 0 hb0 rfl (vp_in_nI (by omega) (by omega)) d_Na_isAtOrBelow_66 ?_
              refine zi_as (y := f0 (np_pos ls0 (ls0.length - ls1.length) + i)) (by rw [zi_n _ (by omega)]) ?_
              refine lv_aload_n hx hb d_Na_isAtOrBelow_67 rfl (lv_at hl 1 rfl) ?_
              refine zg_get (ci := 3) (C := "ZoneAnswers$Name") (T := T_Na) (N := 2) hx hb hts zi_Na hown hK hG ha1 rfl 0 (by decide) (hts _ w_113) (fun _ h9 => h9) rfl d_Na_isAtOrBelow_68 ?_
              refine lv_iload hx hb d_Na_isAtOrBelow_71 (lv_at hl 4 rfl) ?_
              refine lv_iload_n hx hb d_Na_isAtOrBelow_73 rfl (lv_at hl 2 rfl) ?_
              refine lv_isub hx hb d_Na_isAtOrBelow_74 ?_
              refine zi_as (y := nI i) (by rw [zi_sub (by omega)]; congr 1; omega) ?_
              refine zg_bald hx hb hK hG 0 hb1 rfl (vp_in_nI (by omega) (by omega)) d_Na_isAtOrBelow_75 ?_
              refine zi_as (y := f1 i) (by rw [zi_n _ (by omega)]) ?_
              refine lv_icmp_ne (tgt := 83) hx hb d_Na_isAtOrBelow_76 (by decide) (fun c76 => ?_) (fun c76 => ?_)
              · refine lv_iconst (v := 0) hx hb d_Na_isAtOrBelow_83 (by decide) ?_
                refine lv_istore_n (lv' := [(3, .int 0), (0, .ref a0), (1, .ref a1), (2, .int (nI (np_pos ls0 (ls0.length - ls1.length)))), (4, .int (nI (np_pos ls0 (ls0.length - ls1.length) + i)))]) hx hb d_Na_isAtOrBelow_84 rfl hl (by decide) rfl (fun ls hl => ?_)
                refine lv_iinc (v := nI (np_pos ls0 (ls0.length - ls1.length) + i + 1)) (lv' := [(4, .int (nI (np_pos ls0 (ls0.length - ls1.length) + i + 1))), (3, .int 0), (0, .ref a0), (1, .ref a1), (2, .int (nI (np_pos ls0 (ls0.length - ls1.length))))]) hx hb d_Na_isAtOrBelow_85 hl (k := 4) rfl (nI_add (np_pos ls0 (ls0.length - ls1.length) + i) 1) (by decide) rfl (fun ls hl => ?_)
                refine lv_goto (tgt := 46) hx hb d_Na_isAtOrBelow_88 (by decide) ?_
                exact ih (i + 1) 0 _ _ (by omega) (by omega) (by first | exact Or.inl ⟨rfl, hle, lt_s hq c76⟩ | exact Or.inr ⟨rfl, fun q => c76 (((np_same (hf0.drop hq0) hf1 (hg0.drop hq0) hg1).mpr ((np_suf (by omega)).mpr q)).2 i (by omega))⟩) hG hS ls (lv_sub hl [2, 3, 4, 1, 0] rfl)
              · refine lv_iconst (v := 1) hx hb d_Na_isAtOrBelow_79 (by decide) ?_
                refine lv_goto (tgt := 84) hx hb d_Na_isAtOrBelow_80 (by decide) ?_
                refine lv_istore_n (lv' := [(3, .int 1), (0, .ref a0), (1, .ref a1), (2, .int (nI (np_pos ls0 (ls0.length - ls1.length)))), (4, .int (nI (np_pos ls0 (ls0.length - ls1.length) + i)))]) hx hb d_Na_isAtOrBelow_84 rfl hl (by decide) rfl (fun ls hl => ?_)
                refine lv_iinc (v := nI (np_pos ls0 (ls0.length - ls1.length) + i + 1)) (lv' := [(4, .int (nI (np_pos ls0 (ls0.length - ls1.length) + i + 1))), (3, .int 1), (0, .ref a0), (1, .ref a1), (2, .int (nI (np_pos ls0 (ls0.length - ls1.length))))]) hx hb d_Na_isAtOrBelow_85 hl (k := 4) rfl (nI_add (np_pos ls0 (ls0.length - ls1.length) + i) 1) (by decide) rfl (fun ls hl => ?_)
                refine lv_goto (tgt := 46) hx hb d_Na_isAtOrBelow_88 (by decide) ?_
                exact ih (i + 1) 1 _ _ (by omega) (by omega) (by first | exact Or.inl ⟨rfl, hle, lt_s hq c76⟩ | exact Or.inr ⟨rfl, fun q => c76 (((np_same (hf0.drop hq0) hf1 (hg0.drop hq0) hg1).mpr ((np_suf (by omega)).mpr q)).2 i (by omega))⟩) hG hS ls (lv_sub hl [2, 3, 4, 1, 0] rfl)
      exact loop46 _ 0 0 _ _ (Nat.lt_succ_self _) (Nat.zero_le _) (by first | exact Or.inl ⟨rfl, by omega, fun j h => absurd h (Nat.not_lt_zero j)⟩ | exact Or.inr ⟨rfl, fun q => b34 (by have := (np_same (hf0.drop hq0) hf1 (hg0.drop hq0) hg1).mpr ((np_suf (by omega)).mpr q); omega)⟩) hG hS ls (lv_sub hl [3, 4, 2, 1, 0] rfl)
    · have b34 : (np_len ls0 - (np_pos ls0 (ls0.length - ls1.length))) = (np_len ls1) := (nI_eq (a := (np_len ls0 - (np_pos ls0 (ls0.length - ls1.length)))) (b := (np_len ls1)) (by omega) (by omega)).mp c34
      refine lv_iconst (v := 1) hx hb d_Na_isAtOrBelow_37 (by decide) ?_
      refine lv_goto (tgt := 42) hx hb d_Na_isAtOrBelow_38 (by decide) ?_
      refine lv_istore_n (lv' := [(3, .int 1), (2, .int (nI (np_pos ls0 (ls0.length - ls1.length)))), (0, .ref a0), (1, .ref a1)]) hx hb d_Na_isAtOrBelow_42 rfl hl (by decide) rfl (fun ls hl => ?_)
      refine lv_iload_n hx hb d_Na_isAtOrBelow_43 rfl (lv_at hl 1 rfl) ?_
      refine lv_istore (lv' := [(4, .int (nI (np_pos ls0 (ls0.length - ls1.length)))), (3, .int 1), (2, .int (nI (np_pos ls0 (ls0.length - ls1.length)))), (0, .ref a0), (1, .ref a1)]) hx hb d_Na_isAtOrBelow_44 hl (by decide) rfl (fun ls hl => ?_)
      have loop46 : ∀ (N : Nat) (i : Nat) (s1 : Int32) (H : Heap) (locs : List Loc), (np_len ls0 - i) < N → (i ≤ np_len ls0 - np_pos ls0 (ls0.length - ls1.length)) → ((s1 = 1 ∧ np_len ls0 - np_pos ls0 (ls0.length - ls1.length) = np_len ls1 ∧ ∀ j, j < i → f0 (np_pos ls0 (ls0.length - ls1.length) + j) = f1 j) ∨ (s1 = 0 ∧ ¬ ls1 <:+ ls0)) → zP E G H → zg_S (zc_b E) s.heap H locs → ∀ (ls : Array Slot), lv_has ls 5 [(0, .ref a0), (1, .ref a1), (2, .int (nI (np_pos ls0 (ls0.length - ls1.length)))), (3, .int s1), (4, .int (nI (np_pos ls0 (ls0.length - ls1.length) + i)))] → W p l e rm_Na_isAtOrBelow s m args below meth c H locs 0 0 Q (F0 m 46 ls []) := by
        intro N
        induction N with
        | zero =>
          intro i s1 H locs hlt
          exact absurd hlt (Nat.not_lt_zero _)
        | succ N ih =>
          intro i s1 H locs hlt hi hz hG hS ls hl
          refine lv_iload_n hx hb d_Na_isAtOrBelow_46 rfl (lv_at hl 3 rfl) ?_
          refine lv_if_eq (tgt := 91) hx hb d_Na_isAtOrBelow_47 (by decide) (fun c47 => ?_) (fun c47 => ?_)
          · have hpost : zb s1 (ls1 <:+ ls0) := hz.elim (fun q => absurd (q.1.symm.trans c47) (by decide)) (fun q => Or.inr q)
            refine lv_iload_n hx hb d_Na_isAtOrBelow_91 rfl (lv_at hl 3 rfl) ?_
            exact hret _ _ _ _ _ _ _ _ _ hr (hpost.nar) (⟨hpost, rfl⟩) hG hS (Nat.le_refl _) (Nat.le_refl _) d_Na_isAtOrBelow_92
          · obtain ⟨es, hle, hq⟩ := hz.resolve_right (fun q => c47 q.1)
            refine lv_iload hx hb d_Na_isAtOrBelow_50 (lv_at hl 4 rfl) ?_
            refine lv_aload_n hx hb d_Na_isAtOrBelow_52 rfl (lv_at hl 0 rfl) ?_
            refine zg_get (ci := 3) (C := "ZoneAnswers$Name") (T := T_Na) (N := 2) hx hb hts zi_Na hown hK hG ha0 rfl 0 (by decide) (hts _ w_113) (fun _ h9 => h9) rfl d_Na_isAtOrBelow_53 ?_
            refine zg_alen hx hb hK hG 0 hb0 rfl (v := nI (np_len ls0)) rfl d_Na_isAtOrBelow_56 ?_
            refine lv_icmp_ge (tgt := 91) hx hb d_Na_isAtOrBelow_57 (by decide) (fun c57 => ?_) (fun c57 => ?_)
            · have b57 : (np_len ls0) ≤ (np_pos ls0 (ls0.length - ls1.length) + i) := (nI_leI (a := (np_len ls0)) (b := (np_pos ls0 (ls0.length - ls1.length) + i)) (by omega) (by omega)).mp c57
              have hpost : zb s1 (ls1 <:+ ls0) := Or.inl ⟨es, (np_suf (by omega)).mp ((np_same (hf0.drop hq0) hf1 (hg0.drop hq0) hg1).mp ⟨by omega, fun j h => hq j (by omega)⟩)⟩
              refine lv_iload_n hx hb d_Na_isAtOrBelow_91 rfl (lv_at hl 3 rfl) ?_
              exact hret _ _ _ _ _ _ _ _ _ hr (hpost.nar) (⟨hpost, rfl⟩) hG hS (Nat.le_refl _) (Nat.le_refl _) d_Na_isAtOrBelow_92
            · have b57 : ¬ (np_len ls0) ≤ (np_pos ls0 (ls0.length - ls1.length) + i) := fun q => c57 ((nI_leI (a := (np_len ls0)) (b := (np_pos ls0 (ls0.length - ls1.length) + i)) (by omega) (by omega)).mpr q)
              refine lv_aload_n hx hb d_Na_isAtOrBelow_60 rfl (lv_at hl 0 rfl) ?_
              refine zg_get (ci := 3) (C := "ZoneAnswers$Name") (T := T_Na) (N := 2) hx hb hts zi_Na hown hK hG ha0 rfl 0 (by decide) (hts _ w_113) (fun _ h9 => h9) rfl d_Na_isAtOrBelow_61 ?_
              refine lv_iload hx hb d_Na_isAtOrBelow_64 (lv_at hl 4 rfl) ?_
              refine zg_bald hx hb hK hG 0 hb0 rfl (vp_in_nI (by omega) (by omega)) d_Na_isAtOrBelow_66 ?_
              refine zi_as (y := f0 (np_pos ls0 (ls0.length - ls1.length) + i)) (by rw [zi_n _ (by omega)]) ?_
              refine lv_aload_n hx hb d_Na_isAtOrBelow_67 rfl (lv_at hl 1 rfl) ?_
              refine zg_get (ci := 3) (C := "ZoneAnswers$Name") (T := T_Na) (N := 2) hx hb hts zi_Na hown hK hG ha1 rfl 0 (by decide) (hts _ w_113) (fun _ h9 => h9) rfl d_Na_isAtOrBelow_68 ?_
              refine lv_iload hx hb d_Na_isAtOrBelow_71 (lv_at hl 4 rfl) ?_
              refine lv_iload_n hx hb d_Na_isAtOrBelow_73 rfl (lv_at hl 2 rfl) ?_
              refine lv_isub hx hb d_Na_isAtOrBelow_74 ?_
              refine zi_as (y := nI i) (by rw [zi_sub (by omega)]; congr 1; omega) ?_
              refine zg_bald hx hb hK hG 0 hb1 rfl (vp_in_nI (by omega) (by omega)) d_Na_isAtOrBelow_75 ?_
              refine zi_as (y := f1 i) (by rw [zi_n _ (by omega)]) ?_
              refine lv_icmp_ne (tgt := 83) hx hb d_Na_isAtOrBelow_76 (by decide) (fun c76 => ?_) (fun c76 => ?_)
              · refine lv_iconst (v := 0) hx hb d_Na_isAtOrBelow_83 (by decide) ?_
                refine lv_istore_n (lv' := [(3, .int 0), (0, .ref a0), (1, .ref a1), (2, .int (nI (np_pos ls0 (ls0.length - ls1.length)))), (4, .int (nI (np_pos ls0 (ls0.length - ls1.length) + i)))]) hx hb d_Na_isAtOrBelow_84 rfl hl (by decide) rfl (fun ls hl => ?_)
                refine lv_iinc (v := nI (np_pos ls0 (ls0.length - ls1.length) + i + 1)) (lv' := [(4, .int (nI (np_pos ls0 (ls0.length - ls1.length) + i + 1))), (3, .int 0), (0, .ref a0), (1, .ref a1), (2, .int (nI (np_pos ls0 (ls0.length - ls1.length))))]) hx hb d_Na_isAtOrBelow_85 hl (k := 4) rfl (nI_add (np_pos ls0 (ls0.length - ls1.length) + i) 1) (by decide) rfl (fun ls hl => ?_)
                refine lv_goto (tgt := 46) hx hb d_Na_isAtOrBelow_88 (by decide) ?_
                exact ih (i + 1) 0 _ _ (by omega) (by omega) (by first | exact Or.inl ⟨rfl, hle, lt_s hq c76⟩ | exact Or.inr ⟨rfl, fun q => c76 (((np_same (hf0.drop hq0) hf1 (hg0.drop hq0) hg1).mpr ((np_suf (by omega)).mpr q)).2 i (by omega))⟩) hG hS ls (lv_sub hl [2, 3, 4, 1, 0] rfl)
              · refine lv_iconst (v := 1) hx hb d_Na_isAtOrBelow_79 (by decide) ?_
                refine lv_goto (tgt := 84) hx hb d_Na_isAtOrBelow_80 (by decide) ?_
                refine lv_istore_n (lv' := [(3, .int 1), (0, .ref a0), (1, .ref a1), (2, .int (nI (np_pos ls0 (ls0.length - ls1.length)))), (4, .int (nI (np_pos ls0 (ls0.length - ls1.length) + i)))]) hx hb d_Na_isAtOrBelow_84 rfl hl (by decide) rfl (fun ls hl => ?_)
                refine lv_iinc (v := nI (np_pos ls0 (ls0.length - ls1.length) + i + 1)) (lv' := [(4, .int (nI (np_pos ls0 (ls0.length - ls1.length) + i + 1))), (3, .int 1), (0, .ref a0), (1, .ref a1), (2, .int (nI (np_pos ls0 (ls0.length - ls1.length))))]) hx hb d_Na_isAtOrBelow_85 hl (k := 4) rfl (nI_add (np_pos ls0 (ls0.length - ls1.length) + i) 1) (by decide) rfl (fun ls hl => ?_)
                refine lv_goto (tgt := 46) hx hb d_Na_isAtOrBelow_88 (by decide) ?_
                exact ih (i + 1) 1 _ _ (by omega) (by omega) (by first | exact Or.inl ⟨rfl, hle, lt_s hq c76⟩ | exact Or.inr ⟨rfl, fun q => c76 (((np_same (hf0.drop hq0) hf1 (hg0.drop hq0) hg1).mpr ((np_suf (by omega)).mpr q)).2 i (by omega))⟩) hG hS ls (lv_sub hl [2, 3, 4, 1, 0] rfl)
      exact loop46 _ 0 1 _ _ (Nat.lt_succ_self _) (Nat.zero_le _) (by first | exact Or.inl ⟨rfl, by omega, fun j h => absurd h (Nat.not_lt_zero j)⟩ | exact Or.inr ⟨rfl, fun q => b34 (by have := (np_same (hf0.drop hq0) hf1 (hg0.drop hq0) hg1).mpr ((np_suf (by omega)).mpr q); omega)⟩) hG hS ls (lv_sub hl [3, 4, 2, 1, 0] rfl)
  · have b8 : ¬ ls1.length ≤ ls0.length := fun q => c8 ((nI_leI (a := ls1.length) (b := ls0.length) (by omega) (by omega)).mpr q)
    refine lv_iconst (v := 0) hx hb d_Na_isAtOrBelow_11 (by decide) ?_
    exact hret _ _ _ _ _ _ _ _ _ hr (rfl) (⟨zb.f (fun q => by have := q.length_le; omega), rfl⟩) hG hS (Nat.le_refl _) (Nat.le_refl _) d_Na_isAtOrBelow_12
