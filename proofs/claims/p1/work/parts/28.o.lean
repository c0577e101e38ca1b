/-- where in data of that type its name begins, or -1 -/
def zoff (x : Int32) : Int32 := if x = 2 ∨ x = 5 ∨ x = 12 then 0 else if x = 15 then 2 else if x = 33 then 6 else -1
theorem zst_up {f0 f2 : Nat → Int32} {x i : Nat} (h : ∀ j, j < i → f2 (2 + j) = f0 (x + j)) (hf : fits .byte (.int (f0 (x + i))) = true) : ∀ j, j < i + 1 → upd f2 (2 + i) (vp_nar .byte (f0 (x + i))) (2 + j) = f0 (x + j) := by
  intro j hj
  unfold upd
  by_cases e : j = i
  · rw [if_pos (by omega), e]; unfold vp_nar; rw [narrow_of_fits hf]
  · rw [if_neg (by omega)]; exact h j (by omega)
theorem w_685 : (.fieldLink "ZoneAnswers$Answer" 18 "ZoneAnswers$Answer" "answers" "LZoneAnswers$Section;" : Cond) ∈ zw := zw_at 685 (by decide +kernel) (by decide +kernel)
theorem w_686 : (.fieldLink "ZoneAnswers$Answer" 22 "ZoneAnswers$Answer" "authority" "LZoneAnswers$Section;" : Cond) ∈ zw := zw_at 686 (by decide +kernel) (by decide +kernel)
theorem w_687 : (.fieldLink "ZoneAnswers$Answer" 25 "ZoneAnswers$Answer" "more" "LZoneAnswers$Section;" : Cond) ∈ zw := zw_at 687 (by decide +kernel) (by decide +kernel)
abbrev c_ZA_nameOffset : ByteArray := prog_1_method_19_code
abbrev y_ZA_nameOffset : MethodName := ⟨"ZoneAnswers", "nameOffset", "(I)I"⟩
theorem d_ZA_nameOffset_0 : decode c_ZA_nameOffset 0 = .ok (.iload_n 0, 1) := by decide +kernel
theorem d_ZA_nameOffset_1 : decode c_ZA_nameOffset 1 = .ok (.lookupswitch 58 #[(2, 51), (5, 51), (12, 51), (15, 53), (33, 55)], 51) := by decide +kernel
theorem d_ZA_nameOffset_52 : decode c_ZA_nameOffset 52 = .ok (.iconst 0, 1) := by decide +kernel
theorem d_ZA_nameOffset_53 : decode c_ZA_nameOffset 53 = .ok (.ireturn, 1) := by decide +kernel
theorem d_ZA_nameOffset_54 : decode c_ZA_nameOffset 54 = .ok (.iconst 2, 1) := by decide +kernel
theorem d_ZA_nameOffset_55 : decode c_ZA_nameOffset 55 = .ok (.ireturn, 1) := by decide +kernel
theorem d_ZA_nameOffset_56 : decode c_ZA_nameOffset 56 = .ok (.bipush 6, 2) := by decide +kernel
theorem d_ZA_nameOffset_58 : decode c_ZA_nameOffset 58 = .ok (.ireturn, 1) := by decide +kernel
theorem d_ZA_nameOffset_59 : decode c_ZA_nameOffset 59 = .ok (.iconst (-1), 1) := by decide +kernel
theorem d_ZA_nameOffset_60 : decode c_ZA_nameOffset 60 = .ok (.ireturn, 1) := by decide +kernel
abbrev c_An_section : ByteArray := prog_2_method_2_code
abbrev y_An_section : MethodName := ⟨"ZoneAnswers$Answer", "section", "(I)LZoneAnswers$Section;"⟩
theorem d_An_section_0 : decode c_An_section 0 = .ok (.iload_n 1, 1) := by decide +kernel
theorem d_An_section_1 : decode c_An_section 1 = .ok (.tableswitch 42 1 3 #[27, 32, 37], 27) := by decide +kernel
theorem d_An_section_28 : decode c_An_section 28 = .ok (.aload_n 0, 1) := by decide +kernel
theorem d_An_section_29 : decode c_An_section 29 = .ok (.getfield 18, 3) := by decide +kernel
theorem d_An_section_32 : decode c_An_section 32 = .ok (.areturn, 1) := by decide +kernel
theorem d_An_section_33 : decode c_An_section 33 = .ok (.aload_n 0, 1) := by decide +kernel
theorem d_An_section_34 : decode c_An_section 34 = .ok (.getfield 22, 3) := by decide +kernel
theorem d_An_section_37 : decode c_An_section 37 = .ok (.areturn, 1) := by decide +kernel
theorem d_An_section_38 : decode c_An_section 38 = .ok (.aload_n 0, 1) := by decide +kernel
theorem d_An_section_39 : decode c_An_section 39 = .ok (.getfield 25, 3) := by decide +kernel
theorem d_An_section_42 : decode c_An_section 42 = .ok (.areturn, 1) := by decide +kernel
theorem d_An_section_43 : decode c_An_section 43 = .ok (.aconst_null, 1) := by decide +kernel
theorem d_An_section_44 : decode c_An_section 44 = .ok (.areturn, 1) := by decide +kernel
abbrev c_Ns_ends : ByteArray := prog_13_method_8_code
abbrev y_Ns_ends : MethodName := ⟨"ZoneAnswersModel$Names", "ends", "([BI[BI)Z"⟩
theorem d_Ns_ends_0 : decode c_Ns_ends 0 = .ok (.aload_n 2, 1) := by decide +kernel
theorem d_Ns_ends_1 : decode c_Ns_ends 1 = .ok (.arraylength, 1) := by decide +kernel
theorem d_Ns_ends_2 : decode c_Ns_ends 2 = .ok (.iload_n 3, 1) := by decide +kernel
theorem d_Ns_ends_3 : decode c_Ns_ends 3 = .ok (.isub, 1) := by decide +kernel
theorem d_Ns_ends_4 : decode c_Ns_ends 4 = .ok (.istore 4, 2) := by decide +kernel
theorem d_Ns_ends_6 : decode c_Ns_ends 6 = .ok (.aload_n 0, 1) := by decide +kernel
theorem d_Ns_ends_7 : decode c_Ns_ends 7 = .ok (.arraylength, 1) := by decide +kernel
theorem d_Ns_ends_8 : decode c_Ns_ends 8 = .ok (.iload_n 1, 1) := by decide +kernel
theorem d_Ns_ends_9 : decode c_Ns_ends 9 = .ok (.isub, 1) := by decide +kernel
theorem d_Ns_ends_10 : decode c_Ns_ends 10 = .ok (.iload 4, 2) := by decide +kernel
theorem d_Ns_ends_12 : decode c_Ns_ends 12 = .ok (.if_icmp .eq 5, 3) := by decide +kernel
theorem d_Ns_ends_15 : decode c_Ns_ends 15 = .ok (.iconst 0, 1) := by decide +kernel
theorem d_Ns_ends_16 : decode c_Ns_ends 16 = .ok (.ireturn, 1) := by decide +kernel
theorem d_Ns_ends_17 : decode c_Ns_ends 17 = .ok (.iconst 0, 1) := by decide +kernel
theorem d_Ns_ends_18 : decode c_Ns_ends 18 = .ok (.istore 5, 2) := by decide +kernel
theorem d_Ns_ends_20 : decode c_Ns_ends 20 = .ok (.iload 5, 2) := by decide +kernel
theorem d_Ns_ends_22 : decode c_Ns_ends 22 = .ok (.iload 4, 2) := by decide +kernel
theorem d_Ns_ends_24 : decode c_Ns_ends 24 = .ok (.if_icmp .ge 26, 3) := by decide +kernel
theorem d_Ns_ends_27 : decode c_Ns_ends 27 = .ok (.aload_n 0, 1) := by decide +kernel
theorem d_Ns_ends_28 : decode c_Ns_ends 28 = .ok (.iload_n 1, 1) := by decide +kernel
theorem d_Ns_ends_29 : decode c_Ns_ends 29 = .ok (.iload 5, 2) := by decide +kernel
theorem d_Ns_ends_31 : decode c_Ns_ends 31 = .ok (.iadd, 1) := by decide +kernel
theorem d_Ns_ends_32 : decode c_Ns_ends 32 = .ok (.baload, 1) := by decide +kernel
theorem d_Ns_ends_33 : decode c_Ns_ends 33 = .ok (.aload_n 2, 1) := by decide +kernel
theorem d_Ns_ends_34 : decode c_Ns_ends 34 = .ok (.iload_n 3, 1) := by decide +kernel
theorem d_Ns_ends_35 : decode c_Ns_ends 35 = .ok (.iload 5, 2) := by decide +kernel
theorem d_Ns_ends_37 : decode c_Ns_ends 37 = .ok (.iadd, 1) := by decide +kernel
theorem d_Ns_ends_38 : decode c_Ns_ends 38 = .ok (.baload, 1) := by decide +kernel
theorem d_Ns_ends_39 : decode c_Ns_ends 39 = .ok (.if_icmp .eq 5, 3) := by decide +kernel
theorem d_Ns_ends_42 : decode c_Ns_ends 42 = .ok (.iconst 0, 1) := by decide +kernel
theorem d_Ns_ends_43 : decode c_Ns_ends 43 = .ok (.ireturn, 1) := by decide +kernel
theorem d_Ns_ends_44 : decode c_Ns_ends 44 = .ok (.iinc 5 1, 3) := by decide +kernel
theorem d_Ns_ends_47 : decode c_Ns_ends 47 = .ok (.goto (-27), 3) := by decide +kernel
theorem d_Ns_ends_50 : decode c_Ns_ends 50 = .ok (.iconst 1, 1) := by decide +kernel
theorem d_Ns_ends_51 : decode c_Ns_ends 51 = .ok (.ireturn, 1) := by decide +kernel
abbrev c_Ns_star : ByteArray := prog_13_method_11_code
abbrev y_Ns_star : MethodName := ⟨"ZoneAnswersModel$Names", "star", "([BI)[B"⟩
theorem d_Ns_star_0 : decode c_Ns_star 0 = .ok (.aload_n 0, 1) := by decide +kernel
theorem d_Ns_star_1 : decode c_Ns_star 1 = .ok (.arraylength, 1) := by decide +kernel
theorem d_Ns_star_2 : decode c_Ns_star 2 = .ok (.iload_n 1, 1) := by decide +kernel
theorem d_Ns_star_3 : decode c_Ns_star 3 = .ok (.isub, 1) := by decide +kernel
theorem d_Ns_star_4 : decode c_Ns_star 4 = .ok (.iconst 2, 1) := by decide +kernel
theorem d_Ns_star_5 : decode c_Ns_star 5 = .ok (.iadd, 1) := by decide +kernel
theorem d_Ns_star_6 : decode c_Ns_star 6 = .ok (.newarray .byte, 2) := by decide +kernel
theorem d_Ns_star_8 : decode c_Ns_star 8 = .ok (.astore_n 2, 1) := by decide +kernel
theorem d_Ns_star_9 : decode c_Ns_star 9 = .ok (.aload_n 2, 1) := by decide +kernel
theorem d_Ns_star_10 : decode c_Ns_star 10 = .ok (.iconst 0, 1) := by decide +kernel
theorem d_Ns_star_11 : decode c_Ns_star 11 = .ok (.iconst 1, 1) := by decide +kernel
theorem d_Ns_star_12 : decode c_Ns_star 12 = .ok (.bastore, 1) := by decide +kernel
theorem d_Ns_star_13 : decode c_Ns_star 13 = .ok (.aload_n 2, 1) := by decide +kernel
theorem d_Ns_star_14 : decode c_Ns_star 14 = .ok (.iconst 1, 1) := by decide +kernel
theorem d_Ns_star_15 : decode c_Ns_star 15 = .ok (.bipush 42, 2) := by decide +kernel
theorem d_Ns_star_17 : decode c_Ns_star 17 = .ok (.bastore, 1) := by decide +kernel
theorem d_Ns_star_18 : decode c_Ns_star 18 = .ok (.iload_n 1, 1) := by decide +kernel
theorem d_Ns_star_19 : decode c_Ns_star 19 = .ok (.istore_n 3, 1) := by decide +kernel
theorem d_Ns_star_20 : decode c_Ns_star 20 = .ok (.iload_n 3, 1) := by decide +kernel
theorem d_Ns_star_21 : decode c_Ns_star 21 = .ok (.aload_n 0, 1) := by decide +kernel
theorem d_Ns_star_22 : decode c_Ns_star 22 = .ok (.arraylength, 1) := by decide +kernel
theorem d_Ns_star_23 : decode c_Ns_star 23 = .ok (.if_icmp .ge 19, 3) := by decide +kernel
theorem d_Ns_star_26 : decode c_Ns_star 26 = .ok (.aload_n 2, 1) := by decide +kernel
theorem d_Ns_star_27 : decode c_Ns_star 27 = .ok (.iconst 2, 1) := by decide +kernel
theorem d_Ns_star_28 : decode c_Ns_star 28 = .ok (.iload_n 3, 1) := by decide +kernel
theorem d_Ns_star_29 : decode c_Ns_star 29 = .ok (.iadd, 1) := by decide +kernel
theorem d_Ns_star_30 : decode c_Ns_star 30 = .ok (.iload_n 1, 1) := by decide +kernel
theorem d_Ns_star_31 : decode c_Ns_star 31 = .ok (.isub, 1) := by decide +kernel
theorem d_Ns_star_32 : decode c_Ns_star 32 = .ok (.aload_n 0, 1) := by decide +kernel
theorem d_Ns_star_33 : decode c_Ns_star 33 = .ok (.iload_n 3, 1) := by decide +kernel
theorem d_Ns_star_34 : decode c_Ns_star 34 = .ok (.baload, 1) := by decide +kernel
theorem d_Ns_star_35 : decode c_Ns_star 35 = .ok (.bastore, 1) := by decide +kernel
theorem d_Ns_star_36 : decode c_Ns_star 36 = .ok (.iinc 3 1, 3) := by decide +kernel
theorem d_Ns_star_39 : decode c_Ns_star 39 = .ok (.goto (-19), 3) := by decide +kernel
theorem d_Ns_star_42 : decode c_Ns_star 42 = .ok (.aload_n 2, 1) := by decide +kernel
theorem d_Ns_star_43 : decode c_Ns_star 43 = .ok (.areturn, 1) := by decide +kernel
abbrev rm_ZA_nameOffset : Room := { frames := 0, cells := 0, slots := 0, locals := 0 }
set_option maxHeartbeats 4000000 in
set_option maxRecDepth 100000 in
/-- nameOffset(type) -/
theorem t_ZA_nameOffset (l : Launch) (E : zc_E) (G : zg_G) (x : Int32) : zMi l E y_ZA_nameOffset c_ZA_nameOffset 1 (some .int) rm_ZA_nameOffset [.int x] G (fun (r : Int32) (G2 : zg_G) => r = zoff x ∧ G2 = G) := by
  refine zMi.of (by decide) (Nat.le_of_ble_eq_true rfl) ?_
  intro p e s m args below meth c Q hZ hG hret ls hl
  obtain ⟨hx, hb, hr, hts, hown, hlocks, hml, hnm, hbase, hK, hN, hQ⟩ := hZ
  have hl : lv_has ls 1 [(0, .int x)] := hl
  have hS : zg_S (zc_b E) s.heap s.heap [] := va_S.rf
  refine lv_iload_n hx hb d_ZA_nameOffset_0 rfl (lv_at hl 0 rfl) ?_
  by_cases s1_2 : x = 2
  · refine lv_lookup (off := 51) (tgt := 52) hx hb d_ZA_nameOffset_1 (by decide) (by rw [s1_2]; decide) (by decide) ?_
    refine lv_iconst (v := 0) hx hb d_ZA_nameOffset_52 (by decide) ?_
    exact hret _ _ _ _ _ _ _ _ _ hr (rfl) (⟨by first | (rw [s1_2]; decide) | (rw [s1_5]; decide) | (rw [s1_12]; decide), rfl⟩) hG hS (Nat.le_refl _) (Nat.le_refl _) d_ZA_nameOffset_53
  by_cases s1_5 : x = 5
  · refine lv_lookup (off := 51) (tgt := 52) hx hb d_ZA_nameOffset_1 (by decide) (by rw [s1_5]; decide) (by decide) ?_
    refine lv_iconst (v := 0) hx hb d_ZA_nameOffset_52 (by decide) ?_
    exact hret _ _ _ _ _ _ _ _ _ hr (rfl) (⟨by first | (rw [s1_2]; decide) | (rw [s1_5]; decide) | (rw [s1_12]; decide), rfl⟩) hG hS (Nat.le_refl _) (Nat.le_refl _) d_ZA_nameOffset_53
  by_cases s1_12 : x = 12
  · refine lv_lookup (off := 51) (tgt := 52) hx hb d_ZA_nameOffset_1 (by decide) (by rw [s1_12]; decide) (by decide) ?_
    refine lv_iconst (v := 0) hx hb d_ZA_nameOffset_52 (by decide) ?_
    exact hret _ _ _ _ _ _ _ _ _ hr (rfl) (⟨by first | (rw [s1_2]; decide) | (rw [s1_5]; decide) | (rw [s1_12]; decide), rfl⟩) hG hS (Nat.le_refl _) (Nat.le_refl _) d_ZA_nameOffset_53
  by_cases s1_15 : x = 15
  · refine lv_lookup (off := 53) (tgt := 54) hx hb d_ZA_nameOffset_1 (by decide) (by rw [s1_15]; decide) (by decide) ?_
    refine lv_iconst (v := 2) hx hb d_ZA_nameOffset_54 (by decide) ?_
    exact hret _ _ _ _ _ _ _ _ _ hr (rfl) (⟨by first | (rw [s1_15]; decide), rfl⟩) hG hS (Nat.le_refl _) (Nat.le_refl _) d_ZA_nameOffset_55
  by_cases s1_33 : x = 33
  · refine lv_lookup (off := 55) (tgt := 56) hx hb d_ZA_nameOffset_1 (by decide) (by rw [s1_33]; decide) (by decide) ?_
    refine lv_bipush (v := 6) hx hb d_ZA_nameOffset_56 (by decide) ?_
    exact hret _ _ _ _ _ _ _ _ _ hr (rfl) (⟨by first | (rw [s1_33]; decide), rfl⟩) hG hS (Nat.le_refl _) (Nat.le_refl _) d_ZA_nameOffset_58
  refine lv_lookup (off := 58) (tgt := 59) hx hb d_ZA_nameOffset_1 (by decide) (by show Op.lookupswitch.offset [(2, 51), (5, 51), (12, 51), (15, 53), (33, 55)] _ _ = _; rw [lv_osw (k := 2) s1_2 (by decide), lv_osw (k := 5) s1_5 (by decide), lv_osw (k := 12) s1_12 (by decide), lv_osw (k := 15) s1_15 (by decide), lv_osw (k := 33) s1_33 (by decide)]; rfl) (by decide) ?_
  refine lv_iconst (v := -1) hx hb d_ZA_nameOffset_59 (by decide) ?_
  exact hret _ _ _ _ _ _ _ _ _ hr (rfl) (⟨by unfold zoff; rw [if_neg (by rintro (q | q | q) <;> contradiction), if_neg s1_15, if_neg s1_33], rfl⟩) hG hS (Nat.le_refl _) (Nat.le_refl _) d_ZA_nameOffset_60
abbrev rm_An_section : Room := { frames := 0, cells := 0, slots := 0, locals := 0 }
set_option maxHeartbeats 4000000 in
set_option maxRecDepth 100000 in
/-- Answer.section(x) -/
theorem t_An_section (l : Launch) (E : zc_E) (G : zg_G) (a zo s1 s2 s3 : Nat) (t u : Int32) (x : Int32) (ha : G a = some (.inr (1, [.ref zo, .ref s1, .ref s2, .ref s3, .int t, .int u]))) : zMq l E y_An_section c_An_section 2 (some (.object "ZoneAnswers$Section")) rm_An_section [.ref a, .int x] G (fun (r : Option Nat) (G2 : zg_G) => r = (if x = 1 then some s1 else if x = 2 then some s2 else if x = 3 then some s3 else none) ∧ G2 = G) := by
  refine zMq.of (by decide) (Nat.le_of_ble_eq_true rfl) ?_
  intro p e s m args below meth c Q hZ hG hret ls hl
  obtain ⟨hx, hb, hr, hts, hown, hlocks, hml, hnm, hbase, hK, hN, hQ⟩ := hZ
  have hl : lv_has ls 2 [(0, .ref a), (1, .int x)] := hl
  have hS : zg_S (zc_b E) s.heap s.heap [] := va_S.rf
  refine lv_iload_n hx hb d_An_section_0 rfl (lv_at hl 1 rfl) ?_
  by_cases s1_1 : x = 1
  · refine lv_tableIn (off := 27) (tgt := 28) hx hb d_An_section_1 (by rw [s1_1]; decide) (by rw [s1_1]; decide) (by rw [s1_1]; rfl) (by decide) ?_
    refine lv_aload_n hx hb d_An_section_28 rfl (lv_at hl 0 rfl) ?_
    refine zg_get (ci := 1) (C := "ZoneAnswers$Answer") (T := T_An) (N := 6) hx hb hts zi_An hown hK hG ha rfl 1 (by decide) (hts _ w_685) (fun _ h9 => h9) rfl d_An_section_29 ?_
    exact hret (some s1) _ _ _ _ _ _ _ _ hr (Or.inl ⟨_, rfl⟩) (⟨by rw [if_pos s1_1], rfl⟩) hG hS (Nat.le_refl _) (Nat.le_refl _) d_An_section_32
  by_cases s1_2 : x = 2
  · refine lv_tableIn (off := 32) (tgt := 33) hx hb d_An_section_1 (by rw [s1_2]; decide) (by rw [s1_2]; decide) (by rw [s1_2]; rfl) (by decide) ?_
    refine lv_aload_n hx hb d_An_section_33 rfl (lv_at hl 0 rfl) ?_
    refine zg_get (ci := 1) (C := "ZoneAnswers$Answer") (T := T_An) (N := 6) hx hb hts zi_An hown hK hG ha rfl 2 (by decide) (hts _ w_686) (fun _ h9 => h9) rfl d_An_section_34 ?_
    exact hret (some s2) _ _ _ _ _ _ _ _ hr (Or.inl ⟨_, rfl⟩) (⟨by rw [if_neg s1_1, if_pos s1_2], rfl⟩) hG hS (Nat.le_refl _) (Nat.le_refl _) d_An_section_37
  by_cases s1_3 : x = 3
  · refine lv_tableIn (off := 37) (tgt := 38) hx hb d_An_section_1 (by rw [s1_3]; decide) (by rw [s1_3]; decide) (by rw [s1_3]; rfl) (by decide) ?_
    refine lv_aload_n hx hb d_An_section_38 rfl (lv_at hl 0 rfl) ?_
    refine zg_get (ci := 1) (C := "ZoneAnswers$Answer") (T := T_An) (N := 6) hx hb hts zi_An hown hK hG ha rfl 3 (by decide) (hts _ w_687) (fun _ h9 => h9) rfl d_An_section_39 ?_
    exact hret (some s3) _ _ _ _ _ _ _ _ hr (Or.inl ⟨_, rfl⟩) (⟨by rw [if_neg s1_1, if_neg s1_2, if_pos s1_3], rfl⟩) hG hS (Nat.le_refl _) (Nat.le_refl _) d_An_section_42
  refine lv_tableOut (tgt := 43) hx hb d_An_section_1 (by have ns1_1 := lv_neT (k := 1) (a := 1) s1_1 (by decide); have ns1_2 := lv_neT (k := 2) (a := 2) s1_2 (by decide); have ns1_3 := lv_neT (k := 3) (a := 3) s1_3 (by decide); omega) (by decide) ?_
  refine lv_null hx hb d_An_section_43 ?_
  exact hret none _ _ _ _ _ _ _ _ hr (Or.inl ⟨_, rfl⟩) (⟨by rw [if_neg s1_1, if_neg s1_2, if_neg s1_3], rfl⟩) hG hS (Nat.le_refl _) (Nat.le_refl _) d_An_section_44
abbrev rm_Ns_ends : Room := { frames := 0, cells := 0, slots := 0, locals := 0 }
set_option maxHeartbeats 4000000 in
set_option maxRecDepth 100000 in
/-- Names.ends(a, x, b, y) -/
theorem t_Ns_ends (l : Launch) (E : zc_E) (G : zg_G) (a1 n1 : Nat) (f1 : Nat → Int32) (h1 : G a1 = some (.inl (E.2.1 0, n1, .inl f1))) (a2 n2 : Nat) (f2 : Nat → Int32) (h2 : G a2 = some (.inl (E.2.1 0, n2, .inl f2))) (x y : Nat) (z1 : n1 < 2 ^ 30) (z2 : n2 < 2 ^ 30) (hx1 : x ≤ n1) (hy2 : y ≤ n2) : zMi l E y_Ns_ends c_Ns_ends 6 (some .boolean) rm_Ns_ends [.ref a1, .int (nI x), .ref a2, .int (nI y)] G (fun (r : Int32) (G2 : zg_G) => zb r (n1 - x = n2 - y ∧ ∀ j, j < n2 - y → f1 (x + j) = f2 (y + j)) ∧ G2 = G) := by
  refine zMi.of (by decide) (Nat.le_of_ble_eq_true rfl) ?_
  intro p e s m args below meth c Q hZ hG hret ls hl
  obtain ⟨hx, hb, hr, hts, hown, hlocks, hml, hnm, hbase, hK, hN, hQ⟩ := hZ
  have hl : lv_has ls 6 [(0, .ref a1), (1, .int (nI x)), (2, .ref a2), (3, .int (nI y))] := hl
  have hS : zg_S (zc_b E) s.heap s.heap [] := va_S.rf
  refine lv_aload_n hx hb d_Ns_ends_0 rfl (lv_at hl 2 rfl) ?_
  refine zg_alen hx hb hK hG 0 h2 rfl (v := nI n2) rfl d_Ns_ends_1 ?_
  refine lv_iload_n hx hb d_Ns_ends_2 rfl (lv_at hl 3 rfl) ?_
  refine lv_isub hx hb d_Ns_ends_3 ?_
  refine zi_as (y := nI (n2 - y)) (zi_sub (a := n2) (b := y) (by omega)) ?_
  refine lv_istore (lv' := [(4, .int (nI (n2 - y))), (0, .ref a1), (1, .int (nI x)), (2, .ref a2), (3, .int (nI y))]) hx hb d_Ns_ends_4 hl (by decide) rfl (fun ls hl => ?_)
  refine lv_aload_n hx hb d_Ns_ends_6 rfl (lv_at hl 1 rfl) ?_
  refine zg_alen hx hb hK hG 0 h1 rfl (v := nI n1) rfl d_Ns_ends_7 ?_
  refine lv_iload_n hx hb d_Ns_ends_8 rfl (lv_at hl 2 rfl) ?_
  refine lv_isub hx hb d_Ns_ends_9 ?_
  refine zi_as (y := nI (n1 - x)) (zi_sub (a := n1) (b := x) (by omega)) ?_
  refine lv_iload hx hb d_Ns_ends_10 (lv_at hl 0 rfl) ?_
  refine lv_icmp_eq (tgt := 17) hx hb d_Ns_ends_12 (by decide) (fun c12 => ?_) (fun c12 => ?_)
  · have b12 : (n1 - x) = (n2 - y) := (nI_eq (a := (n1 - x)) (b := (n2 - y)) (by omega) (by omega)).mp c12
    refine lv_iconst (v := 0) hx hb d_Ns_ends_17 (by decide) ?_
    refine lv_istore (lv' := [(5, .int 0), (4, .int (nI (n2 - y))), (0, .ref a1), (1, .int (nI x)), (2, .ref a2), (3, .int (nI y))]) hx hb d_Ns_ends_18 hl (by decide) rfl (fun ls hl => ?_)
    have loop20 : ∀ (N : Nat) (i : Nat), (n2 - y - i) < N → (i ≤ n2 - y) → (∀ j, j < i → f1 (x + j) = f2 (y + j)) → ∀ (ls : Array Slot), lv_has ls 6 [(0, .ref a1), (1, .int (nI x)), (2, .ref a2), (3, .int (nI y)), (4, .int (nI (n2 - y))), (5, .int (nI i))] → W p l e rm_Ns_ends s m args below meth c s.heap [] 0 0 Q (F0 m 20 ls []) := by
      intro N
      induction N with
      | zero =>
        intro i hlt
        exact absurd hlt (Nat.not_lt_zero _)
      | succ N ih =>
        intro i hlt hi hq ls hl
        refine lv_iload hx hb d_Ns_ends_20 (lv_at hl 5 rfl) ?_
        refine lv_iload hx hb d_Ns_ends_22 (lv_at hl 4 rfl) ?_
        refine lv_icmp_ge (tgt := 50) hx hb d_Ns_ends_24 (by decide) (fun c24 => ?_) (fun c24 => ?_)
        · have b24 : (n2 - y) ≤ i := (nI_leI (a := (n2 - y)) (b := i) (by omega) (by omega)).mp c24
          refine lv_iconst (v := 1) hx hb d_Ns_ends_50 (by decide) ?_
          exact hret _ _ _ _ _ _ _ _ _ hr (rfl) (⟨zb.t ⟨b12, fun j h => hq j (by omega)⟩, rfl⟩) hG hS (Nat.le_refl _) (Nat.le_refl _) d_Ns_ends_51
        · have b24 : ¬ (n2 - y) ≤ i := fun q => c24 ((nI_leI (a := (n2 - y)) (b := i) (by omega) (by omega)).mpr q)
          refine lv_aload_n hx hb d_Ns_ends_27 rfl (lv_at hl 0 rfl) ?_
          refine lv_iload_n hx hb d_Ns_ends_28 rfl (lv_at hl 1 rfl) ?_
          refine lv_iload hx hb d_Ns_ends_29 (lv_at hl 5 rfl) ?_
          refine lv_iadd hx hb d_Ns_ends_31 ?_
          refine zi_as (y := nI (x + i)) (nI_add x i) ?_
          refine zg_bald hx hb hK hG 0 h1 rfl (vp_in_nI (by omega) (by omega)) d_Ns_ends_32 ?_
          refine zi_as (y := f1 (x + i)) (by rw [zi_n _ (by omega)]) ?_
          refine lv_aload_n hx hb d_Ns_ends_33 rfl (lv_at hl 2 rfl) ?_
          refine lv_iload_n hx hb d_Ns_ends_34 rfl (lv_at hl 3 rfl) ?_
          refine lv_iload hx hb d_Ns_ends_35 (lv_at hl 5 rfl) ?_
          refine lv_iadd hx hb d_Ns_ends_37 ?_
          refine zi_as (y := nI (y + i)) (nI_add y i) ?_
          refine zg_bald hx hb hK hG 0 h2 rfl (vp_in_nI (by omega) (by omega)) d_Ns_ends_38 ?_
          refine zi_as (y := f2 (y + i)) (by rw [zi_n _ (by omega)]) ?_
          refine lv_icmp_eq (tgt := 44) hx hb d_Ns_ends_39 (by decide) (fun c39 => ?_) (fun c39 => ?_)
          · refine lv_iinc (v := nI (i + 1)) (lv' := [(5, .int (nI (i + 1))), (0, .ref a1), (1, .int (nI x)), (2, .ref a2), (3, .int (nI y)), (4, .int (nI (n2 - y)))]) hx hb d_Ns_ends_44 hl (k := 5) rfl (nI_add i 1) (by decide) rfl (fun ls hl => ?_)
            refine lv_goto (tgt := 20) hx hb d_Ns_ends_47 (by decide) ?_
            exact ih (i + 1) (by omega) (by omega) (lt_s hq c39) ls (lv_sub hl [1, 2, 3, 4, 5, 0] rfl)
          · refine lv_iconst (v := 0) hx hb d_Ns_ends_42 (by decide) ?_
            exact hret _ _ _ _ _ _ _ _ _ hr (rfl) (⟨zb.f (fun q => c39 (q.2 i (by omega))), rfl⟩) hG hS (Nat.le_refl _) (Nat.le_refl _) d_Ns_ends_43
    exact loop20 _ 0 (Nat.lt_succ_self _) (Nat.zero_le _) (fun j h => absurd h (Nat.not_lt_zero j)) ls (lv_sub hl [2, 3, 4, 5, 1, 0] rfl)
  · have b12 : ¬ (n1 - x) = (n2 - y) := fun q => c12 ((nI_eq (a := (n1 - x)) (b := (n2 - y)) (by omega) (by omega)).mpr q)
    refine lv_iconst (v := 0) hx hb d_Ns_ends_15 (by decide) ?_
    exact hret _ _ _ _ _ _ _ _ _ hr (rfl) (⟨zb.f (fun q => b12 q.1), rfl⟩) hG hS (Nat.le_refl _) (Nat.le_refl _) d_Ns_ends_16
abbrev rm_Ns_star (n0 x : Nat) : Room := { frames := 0, cells := 1, slots := n0 - x + 2, locals := 0 }
set_option maxHeartbeats 4000000 in
set_option maxRecDepth 100000 in
/-- Names.star(n, x) -/
theorem t_Ns_star (l : Launch) (E : zc_E) (G : zg_G) (b0 n0 : Nat) (f0 : Nat → Int32) (h0 : G b0 = some (.inl (E.2.1 0, n0, .inl f0))) (hft : sb_Fit f0) (hn0 : n0 < 2 ^ 24) (x : Nat) (hxn : x ≤ n0) : zMq l E y_Ns_star c_Ns_star 4 (some (.array .byte)) (rm_Ns_star n0 x) [.ref b0, .int (nI x)] G (fun (r : Option Nat) (G2 : zg_G) => ∃ q f2, r = some q ∧ G q = none ∧ zx z0 G G2 ∧ G2 q = some (.inl (E.2.1 0, n0 - x + 2, .inl f2)) ∧ sb_Fit f2 ∧ f2 0 = 1 ∧ f2 1 = 42 ∧ ∀ j, j < n0 - x → f2 (2 + j) = f0 (x + j)) := by
  refine zMq.of (by decide) (Nat.le_of_ble_eq_true rfl) ?_
  intro p e s m args below meth c Q hZ hG hret ls hl
  obtain ⟨hx, hb, hr, hts, hown, hlocks, hml, hnm, hbase, hK, hN, hQ⟩ := hZ
  have hl : lv_has ls 4 [(0, .ref b0), (1, .int (nI x))] := hl
  have hS : zg_S (zc_b E) s.heap s.heap [] := va_S.rf
  have hx0 : zx z0 G G := zx.rf
  refine lv_aload_n hx hb d_Ns_star_0 rfl (lv_at hl 0 rfl) ?_
  refine zg_alen hx hb hK hG 0 h0 rfl (v := nI n0) rfl d_Ns_star_1 ?_
  refine lv_iload_n hx hb d_Ns_star_2 rfl (lv_at hl 1 rfl) ?_
  refine lv_isub hx hb d_Ns_star_3 ?_
  refine zi_as (y := nI (n0 - x)) (zi_sub (a := n0) (b := x) (by omega)) ?_
  refine lv_iconst (v := 2) hx hb d_Ns_star_4 (by decide) ?_
  refine lv_iadd hx hb d_Ns_star_5 ?_
  refine zi_as (y := nI (n0 - x + 2)) (nI_add (n0 - x) 2) ?_
  refine zg_newp (atype := .byte) (ty := .byte) (N' := n0 - x + 2) (a0 := (n0 - x + 2, .inl (fun _ => 0))) hx hb (hts _ w_58) rfl hK hG hS hbase (fun _ => rfl) (nI_pos (by omega)) (zi_n _ (by omega)) (by show _ * _ ≤ _; simp only [componentBytes]; omega) (by dsimp only; omega) (by dsimp only; omega) d_Ns_star_6 0 rfl (fun _ h => h) (fun q6 H n6 hG hS => ?_)
  obtain ⟨G1, eG1⟩ : ∃ z : zg_G, z = zg_up G q6 (.inl (E.2.1 0, n0 - x + 2, .inl (fun _ => 0))) := ⟨_, rfl⟩
  have hG : zP E G1 H := by rw [eG1]; exact hG
  have hx2 : zx z0 G G1 := hx0.tr (by rw [eG1]; exact zx.nw n6)
  have ne6_b0 : b0 ≠ q6 := zg_fr n6 h0
  have k3 : G1 b0 = some (.inl (E.2.1 0, n0, .inl f0)) := by rw [eG1, zg_up_ne (zg_fr n6 h0)]; exact h0
  have k4 : G1 q6 = some (.inl (E.2.1 0, n0 - x + 2, .inl (fun _ => 0))) := by rw [eG1]; exact zg_up_self _ _ _
  refine lv_astore_n (lv' := [(2, .ref q6), (0, .ref b0), (1, .int (nI x))]) hx hb d_Ns_star_8 rfl hl (by decide) rfl (fun ls hl => ?_)
  refine lv_aload_n hx hb d_Ns_star_9 rfl (lv_at hl 0 rfl) ?_
  refine lv_iconst (v := 0) hx hb d_Ns_star_10 (by decide) ?_
  refine zi_as (y := nI 0) (nI_0.symm) ?_
  refine lv_iconst (v := 1) hx hb d_Ns_star_11 (by decide) ?_
  refine zg_bast hx hb hK hG hS 0 k4 rfl (vp_in_nI (by omega) (by omega)) d_Ns_star_12 (fun H locs hG hS => ?_)
  rw [zi_n 0 (by omega)] at hG
  obtain ⟨G5, eG5⟩ : ∃ z : zg_G, z = zg_up G1 q6 (.inl (E.2.1 0, n0 - x + 2, .inl (upd (fun _ => 0) 0 (vp_nar .byte 1)))) := ⟨_, rfl⟩
  have hG : zP E G5 H := by rw [eG5]; exact hG
  have hx6 : zx z0 G G5 := by rw [eG5]; exact hx2.upn n6
  have k7 : G5 b0 = some (.inl (E.2.1 0, n0, .inl f0)) := by rw [eG5, zg_up_ne (ne6_b0)]; exact k3
  have k8 : G5 q6 = some (.inl (E.2.1 0, n0 - x + 2, .inl (upd (fun _ => 0) 0 (vp_nar .byte 1)))) := by rw [eG5]; exact zg_up_self _ _ _
  refine lv_aload_n hx hb d_Ns_star_13 rfl (lv_at hl 0 rfl) ?_
  refine lv_iconst (v := 1) hx hb d_Ns_star_14 (by decide) ?_
  refine zi_as (y := nI 1) (by decide) ?_
  refine lv_bipush (v := 42) hx hb d_Ns_star_15 (by decide) ?_
  refine zg_bast hx hb hK hG hS 0 k8 rfl (vp_in_nI (by omega) (by omega)) d_Ns_star_17 (fun H locs hG hS => ?_)
  rw [zi_n 1 (by omega)] at hG
  obtain ⟨G9, eG9⟩ : ∃ z : zg_G, z = zg_up G5 q6 (.inl (E.2.1 0, n0 - x + 2, .inl (upd (upd (fun _ => 0) 0 (vp_nar .byte 1)) 1 (vp_nar .byte 42)))) := ⟨_, rfl⟩
  have hG : zP E G9 H := by rw [eG9]; exact hG
  have hx10 : zx z0 G G9 := by rw [eG9]; exact hx6.upn n6
  have k11 : G9 b0 = some (.inl (E.2.1 0, n0, .inl f0)) := by rw [eG9, zg_up_ne (ne6_b0)]; exact k7
  have k12 : G9 q6 = some (.inl (E.2.1 0, n0 - x + 2, .inl (upd (upd (fun _ => 0) 0 (vp_nar .byte 1)) 1 (vp_nar .byte 42)))) := by rw [eG9]; exact zg_up_self _ _ _
  refine lv_iload_n hx hb d_Ns_star_18 rfl (lv_at hl 2 rfl) ?_
  refine lv_istore_n (lv' := [(3, .int (nI x)), (2, .ref q6), (0, .ref b0), (1, .int (nI x))]) hx hb d_Ns_star_19 rfl hl (by decide) rfl (fun ls hl => ?_)
  have loop20 : ∀ (N : Nat) (Gx : zg_G) (i : Nat) (f2 : Nat → Int32) (H : Heap) (locs : List Loc), (n0 - x - i) < N → (i ≤ n0 - x) → (sb_Fit f2) → (f2 0 = 1) → (f2 1 = 42) → (∀ j, j < i → f2 (2 + j) = f0 (x + j)) → (Gx b0 = some (.inl (E.2.1 0, n0, .inl f0))) → (Gx q6 = some (.inl (E.2.1 0, n0 - x + 2, .inl f2))) → (zx z0 G Gx) → zP E Gx H → zg_S (zc_b E) s.heap H locs → ∀ (ls : Array Slot), lv_has ls 4 [(0, .ref b0), (1, .int (nI x)), (2, .ref q6), (3, .int (nI (x + i)))] → W p l e (rm_Ns_star n0 x) s m args below meth c H locs (0 + 1) (0 + (n0 - x + 2)) Q (F0 m 20 ls []) := by
    intro N
    induction N with
    | zero =>
      intro Gx i f2 H locs hlt
      exact absurd hlt (Nat.not_lt_zero _)
    | succ N ih =>
      intro Gx i f2 H locs hlt hi hft2 e0 e1 hq kk_b0 kk_q6 hxl hG hS ls hl
      refine lv_iload_n hx hb d_Ns_star_20 rfl (lv_at hl 3 rfl) ?_
      refine lv_aload_n hx hb d_Ns_star_21 rfl (lv_at hl 0 rfl) ?_
      refine zg_alen hx hb hK hG 0 kk_b0 rfl (v := nI n0) rfl d_Ns_star_22 ?_
      refine lv_icmp_ge (tgt := 42) hx hb d_Ns_star_23 (by decide) (fun c23 => ?_) (fun c23 => ?_)
      · have b23 : n0 ≤ (x + i) := (nI_leI (a := n0) (b := (x + i)) (by omega) (by omega)).mp c23
        refine lv_aload_n hx hb d_Ns_star_42 rfl (lv_at hl 2 rfl) ?_
        exact hret (some q6) _ _ _ _ _ _ _ _ hr (Or.inr ⟨_, rfl⟩) (⟨q6, f2, rfl, n6, hxl, kk_q6, hft2, e0, e1, fun j hj => hq j (by omega)⟩) hG hS (by dsimp only; omega) (by dsimp only; omega) d_Ns_star_43
      · have b23 : ¬ n0 ≤ (x + i) := fun q => c23 ((nI_leI (a := n0) (b := (x + i)) (by omega) (by omega)).mpr q)
        refine lv_aload_n hx hb d_Ns_star_26 rfl (lv_at hl 2 rfl) ?_
        refine lv_iconst (v := 2) hx hb d_Ns_star_27 (by decide) ?_
        refine lv_iload_n hx hb d_Ns_star_28 rfl (lv_at hl 3 rfl) ?_
        refine lv_iadd hx hb d_Ns_star_29 ?_
        refine zi_as (y := nI (2 + (x + i))) (nI_add 2 (x + i)) ?_
        refine lv_iload_n hx hb d_Ns_star_30 rfl (lv_at hl 1 rfl) ?_
        refine lv_isub hx hb d_Ns_star_31 ?_
        refine zi_as (y := nI (2 + i)) (by rw [zi_sub (by omega)]; congr 1; omega) ?_
        refine lv_aload_n hx hb d_Ns_star_32 rfl (lv_at hl 0 rfl) ?_
        refine lv_iload_n hx hb d_Ns_star_33 rfl (lv_at hl 3 rfl) ?_
        refine zg_bald hx hb hK hG 0 kk_b0 rfl (vp_in_nI (by omega) (by omega)) d_Ns_star_34 ?_
        refine zi_as (y := f0 (x + i)) (by rw [zi_n _ (by omega)]) ?_
        refine zg_bast hx hb hK hG hS 0 kk_q6 rfl (vp_in_nI (by omega) (by omega)) d_Ns_star_35 (fun H locs hG hS => ?_)
        rw [zi_n (2 + i) (by omega)] at hG
        obtain ⟨G13, eG13⟩ : ∃ z : zg_G, z = zg_up Gx q6 (.inl (E.2.1 0, n0 - x + 2, .inl (upd f2 (2 + i) (vp_nar .byte (f0 (x + i)))))) := ⟨_, rfl⟩
        have hG : zP E G13 H := by rw [eG13]; exact hG
        have hx14 : zx z0 G G13 := by rw [eG13]; exact hxl.upn n6
        have k15 : G13 b0 = some (.inl (E.2.1 0, n0, .inl f0)) := by rw [eG13, zg_up_ne (ne6_b0)]; exact kk_b0
        have k16 : G13 q6 = some (.inl (E.2.1 0, n0 - x + 2, .inl (upd f2 (2 + i) (vp_nar .byte (f0 (x + i)))))) := by rw [eG13]; exact zg_up_self _ _ _
        refine lv_iinc (v := nI (x + i + 1)) (lv' := [(3, .int (nI (x + i + 1))), (0, .ref b0), (1, .int (nI x)), (2, .ref q6)]) hx hb d_Ns_star_36 hl (k := 3) rfl (nI_add (x + i) 1) (by decide) rfl (fun ls hl => ?_)
        refine lv_goto (tgt := 20) hx hb d_Ns_star_39 (by decide) ?_
        exact ih G13 (i + 1) (upd f2 (2 + i) (vp_nar .byte (f0 (x + i)))) _ _ (by omega) (by omega) (zf_fitu hft2) (by unfold upd; rw [if_neg (by omega)]; exact e0) (by unfold upd; rw [if_neg (by omega)]; exact e1) (zst_up hq (hft _)) (k15) (k16) (hx14) hG hS ls (lv_sub hl [1, 2, 3, 0] rfl)
  exact loop20 _ G9 0 (upd (upd (fun _ => 0) 0 (vp_nar .byte 1)) 1 (vp_nar .byte 42)) _ _ (Nat.lt_succ_self _) (Nat.zero_le _) (zf_fitu (zf_fitu zf_fit0)) (rfl) (rfl) (fun j h => absurd h (Nat.not_lt_zero j)) (k11) (k12) (hx10) hG hS ls (lv_sub hl [2, 3, 1, 0] rfl)
