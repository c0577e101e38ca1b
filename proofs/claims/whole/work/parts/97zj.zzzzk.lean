/-! THE TAPE with its size: a feed makes it bigger at most once -/
def zTc (E : zc_E) (G : zg_G) (a b n : Nat) (tp : List Int32) : Prop := G a = some (.inr (7, [.ref b, .int (nI tp.length)])) ∧ ∃ f : Nat → Int32, G b = some (.inl (E.2.1 0, n, .inl f)) ∧ tp.length ≤ n ∧ 256 ≤ n ∧ n ≤ 131072 ∧ (∀ j, j < tp.length → f j = tp.getD j 0) ∧ sb_Fit f
theorem zTc.p {E : zc_E} {G : zg_G} {a b n : Nat} {tp : List Int32} (h : zTc E G a b n tp) : zTp E G a b tp := ⟨h.1, n, h.2⟩
def tgr (n k : Nat) : Nat := if n - k < 4 then 2 * n else n
theorem tgr_c (n k : Nat) : (n - k < 4 ∧ tgr n k = 2 * n) ∨ (¬ n - k < 4 ∧ tgr n k = n) := by
  unfold tgr
  by_cases h : n - k < 4
  · exact Or.inl ⟨h, if_pos h⟩
  · exact Or.inr ⟨h, if_neg h⟩

abbrev rm_Ta_append_c (B : Nat) : Room := { frames := 2, cells := 1, slots := B, locals := 70 }
set_option maxHeartbeats 4000000 in
set_option maxRecDepth 100000 in
/-- Tape.append(x) -/
theorem t_Ta_append_c (l : Launch) (E : zc_E) (G : zg_G) (a b n : Nat) (tp : List Int32) (hT : zTc E G a b n tp) (x : Int32) (hlen : tp.length + 4 ≤ 65536) : zMv l E y_Ta_append c_Ta_append 2 (rm_Ta_append_c (2 * (tgr n tp.length - n))) [.ref a, .int x] G (fun (G2 : zg_G) => ∃ b2, zTc E G2 a b2 (tgr n tp.length) (tp ++ zby x) ∧ (b2 = b ∨ G b2 = none) ∧ zx (fun q => q = a ∨ q = b) G G2) := by
  refine zMv.of (by decide) (Nat.le_of_ble_eq_true rfl) ?_
  intro p e s m args below meth c Q hZ hG hret ls hl
  obtain ⟨hx, hb, hr, hts, hown, hlocks, hml, hnm, hbase, hK, hN, hQ⟩ := hZ
  have hl : lv_has ls 2 [(0, .ref a), (1, .int x)] := hl
  have hS : zg_S (zc_b E) s.heap s.heap [] := va_S.rf
  obtain ⟨ha, f, hb0, hn1, hn2, hn3, hf, hft⟩ := id hT
  have hne : a ≠ b := zg_ne ha hb0 (by intro h; cases h)
  have htq := tgr_c n tp.length
  have hx0 : zx (fun q => q = a ∨ q = b) G G := zx.rf
  refine lv_aload_n hx hb d_Ta_append_0 rfl (lv_at hl 0 rfl) ?_
  refine zg_get (ci := 7) (C := "ZoneAnswers$Tape") (T := T_Ta) (N := 2) hx hb hts zi_Ta hown hK hG ha rfl 0 (by decide) (hts _ w_51) (fun _ h9 => h9) rfl d_Ta_append_1 ?_
  refine zg_alen hx hb hK hG 0 hb0 rfl (v := nI n) rfl d_Ta_append_4 ?_
  refine lv_aload_n hx hb d_Ta_append_5 rfl (lv_at hl 0 rfl) ?_
  refine zg_get (ci := 7) (C := "ZoneAnswers$Tape") (T := T_Ta) (N := 2) hx hb hts zi_Ta hown hK hG ha rfl 1 (by decide) (hts _ w_52) (fun _ h9 => h9) rfl d_Ta_append_6 ?_
  refine lv_isub hx hb d_Ta_append_9 ?_
  refine zi_as (y := nI (n - tp.length)) (zi_sub (a := n) (b := tp.length) (by omega)) ?_
  refine lv_iconst (v := 4) hx hb d_Ta_append_10 (by decide) ?_
  refine lv_icmp_ge (tgt := 32) hx hb d_Ta_append_11 (by decide) (fun c11 => ?_) (fun c11 => ?_)
  · have b11 : 4 ≤ (n - tp.length) := (nI_leI (a := 4) (b := (n - tp.length)) (by omega) (by omega)).mp c11
    have htg : tgr n tp.length = n := by omega
    refine lv_aload_n hx hb d_Ta_append_32 rfl (lv_at hl 0 rfl) ?_
    refine zg_get (ci := 7) (C := "ZoneAnswers$Tape") (T := T_Ta) (N := 2) hx hb hts zi_Ta hown hK hG ha rfl 0 (by decide) (hts _ w_51) (fun _ h9 => h9) rfl d_Ta_append_33 ?_
    refine lv_aload_n hx hb d_Ta_append_36 rfl (lv_at hl 0 rfl) ?_
    refine zg_get (ci := 7) (C := "ZoneAnswers$Tape") (T := T_Ta) (N := 2) hx hb hts zi_Ta hown hK hG ha rfl 1 (by decide) (hts _ w_52) (fun _ h9 => h9) rfl d_Ta_append_37 ?_
    refine lv_iload_n hx hb d_Ta_append_40 rfl (lv_at hl 1 rfl) ?_
    have hGo41 := hG
    refine zk_v (va_runSN (As := [.ref b, .int (nI tp.length), .int x]) (rest := []) ⟨hx, hb, hml, hown, hts⟩ (t_ZA_writeNumber l E G b n f hb0 hft (by omega) tp.length (by omega) x) ⟨va_cnB 3 hts (zw_good w_665) rfl rfl rfl (zN.at hN (w := .methodLinkNest "ZoneAnswers$Tape" 26 ⟨"ZoneAnswers", "writeNumber", "([BII)V"⟩ "ZoneAnswers") (by decide +kernel)) (hts _ w_1) (by decide +kernel) ⟨Nat.le_of_ble_eq_true rfl, Nat.le_of_ble_eq_true rfl⟩, hts _ w_664, trivial⟩ (zc_pre hbase hK hN hQ hG hS) rfl rfl hl.1 rfl (lv_room (Nat.le_of_ble_eq_true rfl)) d_Ta_append_41 ⟨(by dsimp only; omega), (by dsimp only; omega)⟩) hS (fun G41 H locs hp41 hG hS => ?_)
    have hx1 : zx (fun q => q = a ∨ q = b) G G41 := hx0.tr (by rw [hp41]; exact zx.up (Or.inr rfl))
    have k2 : G41 a = some (.inr (7, [.ref b, .int (nI tp.length)])) := by rw [hp41, zg_up_ne (hne)]; exact ha
    have k3 : G41 b = some (.inl (E.2.1 0, n, .inl (zw4 f tp.length x))) := by rw [hp41]; exact zg_up_self _ _ _
    refine lv_aload_n hx hb d_Ta_append_44 rfl (lv_at hl 0 rfl) ?_
    refine lv_dup hx hb d_Ta_append_45 rfl ?_
    refine zg_get (ci := 7) (C := "ZoneAnswers$Tape") (T := T_Ta) (N := 2) hx hb hts zi_Ta hown hK hG k2 rfl 1 (by decide) (hts _ w_52) (fun _ h9 => h9) rfl d_Ta_append_46 ?_
    refine lv_iconst (v := 4) hx hb d_Ta_append_49 (by decide) ?_
    refine lv_iadd hx hb d_Ta_append_50 ?_
    refine zi_as (y := nI (tp.length + 4)) (nI_add tp.length 4) ?_
    refine zg_put (ci := 7) (v := .int (nI (tp.length + 4))) (ty := .int) (C := "ZoneAnswers$Tape") (T := T_Ta) (N := 2) hx hb hts zi_Ta t_Ta t_Ta_ok n_Ta hown hK hG hS k2 rfl 1 (by decide) (hts _ w_52) (fun _ h9 => h9) rfl (by decide +kernel) rfl rfl (Nat.le_of_ble_eq_true rfl) d_Ta_append_51 (fun H locs hG hS => ?_)
    obtain ⟨G4, eG4⟩ : ∃ z : zg_G, z = zg_up G41 a (.inr (7, [.ref b, .int (nI (tp.length + 4))])) := ⟨_, rfl⟩
    have hG : zP E G4 H := by rw [eG4]; exact hG
    have hx5 : zx (fun q => q = a ∨ q = b) G G4 := hx1.tr (by rw [eG4]; exact zx.up (Or.inl rfl))
    have k6 : G4 a = some (.inr (7, [.ref b, .int (nI (tp.length + 4))])) := by rw [eG4]; exact zg_up_self _ _ _
    have k7 : G4 b = some (.inl (E.2.1 0, n, .inl (zw4 f tp.length x))) := by rw [eG4, zg_up_ne (Ne.symm hne)]; exact k3
    exact hret _ _ _ _ _ _ _ (⟨b, by rw [htg]; exact ⟨by rw [List.length_append]; exact k6, _, k7, by rw [List.length_append, zby_len]; omega, by omega, by omega, zw4_tp hf, zw4_fit hft⟩, Or.inl rfl, hx5⟩) hG hS (by dsimp only; omega) (by dsimp only; omega) d_Ta_append_54
  · have b11 : ¬ 4 ≤ (n - tp.length) := fun q => c11 ((nI_leI (a := 4) (b := (n - tp.length)) (by omega) (by omega)).mpr q)
    have htg : tgr n tp.length = 2 * n := by omega
    refine lv_aload_n hx hb d_Ta_append_14 rfl (lv_at hl 0 rfl) ?_
    refine lv_aload_n hx hb d_Ta_append_15 rfl (lv_at hl 0 rfl) ?_
    refine zg_get (ci := 7) (C := "ZoneAnswers$Tape") (T := T_Ta) (N := 2) hx hb hts zi_Ta hown hK hG ha rfl 0 (by decide) (hts _ w_51) (fun _ h9 => h9) rfl d_Ta_append_16 ?_
    refine lv_aload_n hx hb d_Ta_append_19 rfl (lv_at hl 0 rfl) ?_
    refine zg_get (ci := 7) (C := "ZoneAnswers$Tape") (T := T_Ta) (N := 2) hx hb hts zi_Ta hown hK hG ha rfl 0 (by decide) (hts _ w_51) (fun _ h9 => h9) rfl d_Ta_append_20 ?_
    refine zg_alen hx hb hK hG 0 hb0 rfl (v := nI n) rfl d_Ta_append_23 ?_
    refine lv_iconst (v := 2) hx hb d_Ta_append_24 (by decide) ?_
    refine lv_imul hx hb d_Ta_append_25 ?_
    refine zi_as (y := nI (2 * n)) (by rw [pk_mul_lit]; congr 1; omega) ?_
    have hGo26 := hG
    refine zk_q (va_runS (As := [.ref b, .int (nI (2 * n))]) (rest := [.ref a]) ⟨hx, hb, hml, hown, hts⟩ (t_Ar_copyOf l E G b n f hb0 hft (by omega) (2 * n) (by omega) (by omega)) (zcS 2 hts w_803 w_338 w_22 w_339 (by decide +kernel) ⟨Nat.le_of_ble_eq_true rfl, Nat.le_of_ble_eq_true rfl⟩) (zc_pre hbase hK hN hQ hG hS) rfl rfl hl.1 rfl (lv_room (Nat.le_of_ble_eq_true rfl)) d_Ta_append_26 ⟨(by dsimp only; omega), (by dsimp only; omega)⟩) hS (fun r26 G26 H locs hp26 hG hS => ?_)
    obtain ⟨q26, f26, er26, nq26, hx26, hq26, hft26, hlo26, hhi26⟩ := hp26
    refine zr_some (a := q26) er26 ?_
    have k8 : G26 a = some (.inr (7, [.ref b, .int (nI tp.length)])) := hx26.o ha
    have ne_q26_a : a ≠ q26 := zg_fr nq26 ha
    have k9 : G26 b = some (.inl (E.2.1 0, n, .inl f)) := hx26.o hb0
    have ne_q26_b : b ≠ q26 := zg_fr nq26 hb0
    have hx10 : zx (fun q => q = a ∨ q = b) G G26 := hx0.tr (hx26.w (fun _ z => z.elim))
    refine zg_put (ci := 7) (v := .ref q26) (ty := .array .byte) (C := "ZoneAnswers$Tape") (T := T_Ta) (N := 2) hx hb hts zi_Ta t_Ta t_Ta_ok n_Ta hown hK hG hS k8 rfl 0 (by decide) (hts _ w_51) (fun _ h9 => h9) rfl (by decide +kernel) rfl rfl (Nat.le_of_ble_eq_true rfl) d_Ta_append_29 (fun H locs hG hS => ?_)
    obtain ⟨G11, eG11⟩ : ∃ z : zg_G, z = zg_up G26 a (.inr (7, [.ref q26, .int (nI tp.length)])) := ⟨_, rfl⟩
    have hG : zP E G11 H := by rw [eG11]; exact hG
    have hx12 : zx (fun q => q = a ∨ q = b) G G11 := hx10.tr (by rw [eG11]; exact zx.up (Or.inl rfl))
    have k13 : G11 a = some (.inr (7, [.ref q26, .int (nI tp.length)])) := by rw [eG11]; exact zg_up_self _ _ _
    have k14 : G11 b = some (.inl (E.2.1 0, n, .inl f)) := by rw [eG11, zg_up_ne (Ne.symm hne)]; exact k9
    have k15 : G11 q26 = some (.inl (E.2.1 0, 2 * n, .inl f26)) := by rw [eG11, zg_up_ne (Ne.symm ne_q26_a)]; exact hq26
    refine lv_aload_n hx hb d_Ta_append_32 rfl (lv_at hl 0 rfl) ?_
    refine zg_get (ci := 7) (C := "ZoneAnswers$Tape") (T := T_Ta) (N := 2) hx hb hts zi_Ta hown hK hG k13 rfl 0 (by decide) (hts _ w_51) (fun _ h9 => h9) rfl d_Ta_append_33 ?_
    refine lv_aload_n hx hb d_Ta_append_36 rfl (lv_at hl 0 rfl) ?_
    refine zg_get (ci := 7) (C := "ZoneAnswers$Tape") (T := T_Ta) (N := 2) hx hb hts zi_Ta hown hK hG k13 rfl 1 (by decide) (hts _ w_52) (fun _ h9 => h9) rfl d_Ta_append_37 ?_
    refine lv_iload_n hx hb d_Ta_append_40 rfl (lv_at hl 1 rfl) ?_
    have hGo41 := hG
    refine zk_v (va_runSN (As := [.ref q26, .int (nI tp.length), .int x]) (rest := []) ⟨hx, hb, hml, hown, hts⟩ (t_ZA_writeNumber l E G11 q26 (2 * n) f26 k15 hft26 (by omega) tp.length (by omega) x) ⟨va_cnB 3 hts (zw_good w_665) rfl rfl rfl (zN.at hN (w := .methodLinkNest "ZoneAnswers$Tape" 26 ⟨"ZoneAnswers", "writeNumber", "([BII)V"⟩ "ZoneAnswers") (by decide +kernel)) (hts _ w_1) (by decide +kernel) ⟨Nat.le_of_ble_eq_true rfl, Nat.le_of_ble_eq_true rfl⟩, hts _ w_664, trivial⟩ (zc_pre hbase hK hN hQ hG hS) rfl rfl hl.1 rfl (lv_room (Nat.le_of_ble_eq_true rfl)) d_Ta_append_41 ⟨(by dsimp only; omega), (by dsimp only; omega)⟩) hS (fun G41 H locs hp41 hG hS => ?_)
    have hx16 : zx (fun q => q = a ∨ q = b) G G41 := by rw [hp41]; exact hx12.upn nq26
    have k17 : G41 a = some (.inr (7, [.ref q26, .int (nI tp.length)])) := by rw [hp41, zg_up_ne (ne_q26_a)]; exact k13
    have k18 : G41 b = some (.inl (E.2.1 0, n, .inl f)) := by rw [hp41, zg_up_ne (ne_q26_b)]; exact k14
    have k19 : G41 q26 = some (.inl (E.2.1 0, 2 * n, .inl (zw4 f26 tp.length x))) := by rw [hp41]; exact zg_up_self _ _ _
    refine lv_aload_n hx hb d_Ta_append_44 rfl (lv_at hl 0 rfl) ?_
    refine lv_dup hx hb d_Ta_append_45 rfl ?_
    refine zg_get (ci := 7) (C := "ZoneAnswers$Tape") (T := T_Ta) (N := 2) hx hb hts zi_Ta hown hK hG k17 rfl 1 (by decide) (hts _ w_52) (fun _ h9 => h9) rfl d_Ta_append_46 ?_
    refine lv_iconst (v := 4) hx hb d_Ta_append_49 (by decide) ?_
    refine lv_iadd hx hb d_Ta_append_50 ?_
    refine zi_as (y := nI (tp.length + 4)) (nI_add tp.length 4) ?_
    refine zg_put (ci := 7) (v := .int (nI (tp.length + 4))) (ty := .int) (C := "ZoneAnswers$Tape") (T := T_Ta) (N := 2) hx hb hts zi_Ta t_Ta t_Ta_ok n_Ta hown hK hG hS k17 rfl 1 (by decide) (hts _ w_52) (fun _ h9 => h9) rfl (by decide +kernel) rfl rfl (Nat.le_of_ble_eq_true rfl) d_Ta_append_51 (fun H locs hG hS => ?_)
    obtain ⟨G20, eG20⟩ : ∃ z : zg_G, z = zg_up G41 a (.inr (7, [.ref q26, .int (nI (tp.length + 4))])) := ⟨_, rfl⟩
    have hG : zP E G20 H := by rw [eG20]; exact hG
    have hx21 : zx (fun q => q = a ∨ q = b) G G20 := hx16.tr (by rw [eG20]; exact zx.up (Or.inl rfl))
    have k22 : G20 a = some (.inr (7, [.ref q26, .int (nI (tp.length + 4))])) := by rw [eG20]; exact zg_up_self _ _ _
    have k23 : G20 b = some (.inl (E.2.1 0, n, .inl f)) := by rw [eG20, zg_up_ne (Ne.symm hne)]; exact k18
    have k24 : G20 q26 = some (.inl (E.2.1 0, 2 * n, .inl (zw4 f26 tp.length x))) := by rw [eG20, zg_up_ne (Ne.symm ne_q26_a)]; exact k19
    exact hret _ _ _ _ _ _ _ (⟨q26, by rw [htg]; exact ⟨by rw [List.length_append]; exact k22, _, k24, by rw [List.length_append, zby_len]; omega, by omega, by omega, zw4_tp (fun j hj => by rw [hlo26 j (by omega)]; exact hf j hj), zw4_fit hft26⟩, Or.inr nq26, hx21⟩) hG hS (by dsimp only; omega) (by dsimp only; omega) d_Ta_append_54
abbrev rm_ZA_feed_c (B : Nat) : Room := { frames := 6, cells := 5, slots := B + 6, locals := 110 }
set_option maxHeartbeats 4000000 in
set_option maxRecDepth 100000 in
/-- ZoneAnswers.feed(..) -/
theorem t_ZA_feed_c (l : Launch) (hoff : zl_off l) (E : zc_E) (G : zg_G) (xo ta zo an b : Nat) (tp : List Int32) (hX : G xo = some (.inr (10, [.ref ta, .ref zo, .ref an]))) (hT : zTp E G ta b tp) (hlen : tp.length ≤ 65536) (x1 : Int32) (x2 : Int32) (x3 : Int32) (x4 : Int32) (x5 : Int32) (B : Nat) (hB : 2 * tp.length + 40 ≤ B) : zT l E y_ZA_feed c_ZA_feed 6 (some .int) (rm_ZA_feed_c B) [.ref xo, .int x1, .int x2, .int x3, .int x4, .int x5] G (fun (v : Option Value) (G2 : zg_G) => tp.length ≤ 65516 ∧ v = some (.int (nI (tp.length + 20))) ∧ ∃ b2, zTp E G2 ta b2 (tp ++ zby x1 ++ zby x2 ++ zby x3 ++ zby x4 ++ zby x5) ∧ (b2 = b ∨ G b2 = none) ∧ zx (fun q => q = ta ∨ q = b) G G2) (fun cls => cls = "java/lang/IllegalStateException" ∧ 65516 < tp.length) := by
  refine zT.of (by decide) (Nat.le_of_ble_eq_true rfl) ?_
  intro p e s m args below meth c hZ hex hG ls hl
  obtain ⟨hx, hb, hr, hts, hown, hlocks, hml, hnm, hbase, hK, hN, hQ⟩ := hZ
  have hl : lv_has ls 6 [(0, .ref xo), (1, .int x1), (2, .int x2), (3, .int x3), (4, .int x4), (5, .int x5)] := hl
  have hS : zg_S (zc_b E) s.heap s.heap [] := va_S.rf
  have hnx1 : xo ≠ ta := zg_ne hX hT.1 (by intro h; simp at h)
  have hnx2 : xo ≠ b := by obtain ⟨-, n9, f9, h9, -⟩ := id hT; exact zg_ne hX h9 (by intro h; cases h)
  have e16 : (65516 : Int32) < nI tp.length ↔ 65516 < tp.length := nI_ltI (a := 65516) (b := tp.length) (by omega) (by omega)
  obtain ⟨n, hTc⟩ : ∃ n, zTc E G ta b n tp := by obtain ⟨q1, n, q2⟩ := hT; exact ⟨n, q1, q2⟩
  obtain ⟨-, f0, -, hn1, hn2, hn3, -⟩ := id hTc
  have hl0 : tp.length ≤ 65536 := hlen
  have hl1 : (tp ++ zby x1).length = tp.length + 4 := by simp only [List.length_append, zby_len]
  have hl2 : (tp ++ zby x1 ++ zby x2).length = tp.length + 8 := by simp only [List.length_append, zby_len]
  have hl3 : (tp ++ zby x1 ++ zby x2 ++ zby x3).length = tp.length + 12 := by simp only [List.length_append, zby_len]
  have hl4 : (tp ++ zby x1 ++ zby x2 ++ zby x3 ++ zby x4).length = tp.length + 16 := by simp only [List.length_append, zby_len]
  have hl5 : (tp ++ zby x1 ++ zby x2 ++ zby x3 ++ zby x4 ++ zby x5).length = tp.length + 20 := by simp only [List.length_append, zby_len]
  have ht0 := tgr_c n tp.length
  have ht1 := tgr_c (tgr n tp.length) (tp ++ zby x1).length
  have ht2 := tgr_c (tgr (tgr n tp.length) (tp ++ zby x1).length) (tp ++ zby x1 ++ zby x2).length
  have ht3 := tgr_c (tgr (tgr (tgr n tp.length) (tp ++ zby x1).length) (tp ++ zby x1 ++ zby x2).length) (tp ++ zby x1 ++ zby x2 ++ zby x3).length
  have ht4 := tgr_c (tgr (tgr (tgr (tgr n tp.length) (tp ++ zby x1).length) (tp ++ zby x1 ++ zby x2).length) (tp ++ zby x1 ++ zby x2 ++ zby x3).length) (tp ++ zby x1 ++ zby x2 ++ zby x3 ++ zby x4).length
  have hg0 : n ≤ (tgr n tp.length) := by omega
  have hg1 : (tgr n tp.length) ≤ (tgr (tgr n tp.length) (tp ++ zby x1).length) := by omega
  have hg2 : (tgr (tgr n tp.length) (tp ++ zby x1).length) ≤ (tgr (tgr (tgr n tp.length) (tp ++ zby x1).length) (tp ++ zby x1 ++ zby x2).length) := by omega
  have hg3 : (tgr (tgr (tgr n tp.length) (tp ++ zby x1).length) (tp ++ zby x1 ++ zby x2).length) ≤ (tgr (tgr (tgr (tgr n tp.length) (tp ++ zby x1).length) (tp ++ zby x1 ++ zby x2).length) (tp ++ zby x1 ++ zby x2 ++ zby x3).length) := by omega
  have hg4 : (tgr (tgr (tgr (tgr n tp.length) (tp ++ zby x1).length) (tp ++ zby x1 ++ zby x2).length) (tp ++ zby x1 ++ zby x2 ++ zby x3).length) ≤ (tgr (tgr (tgr (tgr (tgr n tp.length) (tp ++ zby x1).length) (tp ++ zby x1 ++ zby x2).length) (tp ++ zby x1 ++ zby x2 ++ zby x3).length) (tp ++ zby x1 ++ zby x2 ++ zby x3 ++ zby x4).length) := by omega
  have hbig : 2 * ((tgr (tgr (tgr (tgr (tgr n tp.length) (tp ++ zby x1).length) (tp ++ zby x1 ++ zby x2).length) (tp ++ zby x1 ++ zby x2 ++ zby x3).length) (tp ++ zby x1 ++ zby x2 ++ zby x3 ++ zby x4).length) - n) ≤ 2 * tp.length + 40 := by omega
  have hx0 : zx (fun q => q = ta ∨ q = b) G G := zx.rf
  refine lv_aload_n hx hb d_ZA_feed_0 rfl (lv_at hl 0 rfl) ?_
  refine zg_get (ci := 10) (C := "ZoneAnswers") (T := T_ZA) (N := 3) hx hb hts zi_ZA hown hK hG hX rfl 0 (by decide) (hts _ w_703) (fun _ h9 => h9) rfl d_ZA_feed_1 ?_
  refine zk_i (va_runV (As := []) (rest := []) ⟨hx, hb, hml, hown, hts⟩ (t_Ta_hasRoom l E G ta b (nI tp.length) hT.1) (zcV 0 hts w_773 w_774 w_775 w_2 w_776 (by decide +kernel) ⟨Nat.le_of_ble_eq_true rfl, Nat.le_of_ble_eq_true rfl⟩) (zc_preV hbase hK hN hQ hG hS hT.1 rfl) rfl rfl hl.1 rfl (lv_room (Nat.le_of_ble_eq_true rfl)) d_ZA_feed_4 ⟨(by dsimp only; omega), (by dsimp only; omega)⟩) hS (fun r4 G4 H locs hp4 hG hS => ?_)
  have hG : zP E G H := hp4.2 ▸ hG
  refine zi_as (y := if 65516 < nI tp.length then 0 else 1) hp4.1 ?_
  refine lv_if_ne (tgt := 18) hx hb d_ZA_feed_7 (by decide) (fun c7 => ?_) (fun c7 => ?_)
  · have hroom : tp.length ≤ 65516 := by
      rcases Nat.lt_or_ge 65516 tp.length with q | q
      · rw [if_pos (e16.mpr q)] at c7; exact absurd rfl c7
      · exact q
    refine lv_aload_n hx hb d_ZA_feed_18 rfl (lv_at hl 0 rfl) ?_
    refine zg_get (ci := 10) (C := "ZoneAnswers") (T := T_ZA) (N := 3) hx hb hts zi_ZA hown hK hG hX rfl 0 (by decide) (hts _ w_703) (fun _ h9 => h9) rfl d_ZA_feed_19 ?_
    refine lv_iload_n hx hb d_ZA_feed_22 rfl (lv_at hl 1 rfl) ?_
    have hGo23 := hG
    refine zk_v (va_runV (As := [.int x1]) (rest := []) ⟨hx, hb, hml, hown, hts⟩ (t_Ta_append_c l E G ta b n tp hTc x1 (by have := hl0; omega)) (zcV 1 hts w_799 w_800 w_801 w_2 w_802 (by decide +kernel) ⟨Nat.le_of_ble_eq_true rfl, Nat.le_of_ble_eq_true rfl⟩) (zc_preV hbase hK hN hQ hG hS hT.1 rfl) rfl rfl hl.1 rfl (lv_room (Nat.le_of_ble_eq_true rfl)) d_ZA_feed_23 ⟨(by dsimp only; omega), (by dsimp only; omega)⟩) hS (fun G23 H locs hp23 hG hS => ?_)
    obtain ⟨b23, hT23, hq23, hx23⟩ := hp23
    have hbb23 : b23 = b ∨ G b23 = none := zx.bb hx0 (Or.inl rfl) hT.1 hq23
    have hx1 : zx (fun q => q = ta ∨ q = b) G G23 := zx.go hx0 (Or.inl rfl) hx23
    have k2 : G23 xo = some (.inr (10, [.ref ta, .ref zo, .ref an])) := hx1 xo _ (fun z => z.elim hnx1 hnx2) hX
    refine zW_more (cells2 := 1) (slots2 := 2 * ((tgr n tp.length) - n)) (by dsimp only; omega) (by dsimp only; omega) ?_
    refine lv_aload_n hx hb d_ZA_feed_26 rfl (lv_at hl 0 rfl) ?_
    refine zg_get (ci := 10) (C := "ZoneAnswers") (T := T_ZA) (N := 3) hx hb hts zi_ZA hown hK hG k2 rfl 0 (by decide) (hts _ w_703) (fun _ h9 => h9) rfl d_ZA_feed_27 ?_
    refine lv_iload_n hx hb d_ZA_feed_30 rfl (lv_at hl 2 rfl) ?_
    have hGo31 := hG
    refine zk_v (va_runV (As := [.int x2]) (rest := []) ⟨hx, hb, hml, hown, hts⟩ (t_Ta_append_c l E G23 ta b23 (tgr n tp.length) (tp ++ zby x1) hT23 x2 (by have := hl1; omega)) (zcV 1 hts w_799 w_800 w_801 w_2 w_802 (by decide +kernel) ⟨Nat.le_of_ble_eq_true rfl, Nat.le_of_ble_eq_true rfl⟩) (zc_preV hbase hK hN hQ hG hS hT23.1 rfl) rfl rfl hl.1 rfl (lv_room (Nat.le_of_ble_eq_true rfl)) d_ZA_feed_31 ⟨(by dsimp only; omega), (by dsimp only; omega)⟩) hS (fun G31 H locs hp31 hG hS => ?_)
    obtain ⟨b31, hT31, hq31, hx31⟩ := hp31
    have hbb31 : b31 = b ∨ G b31 = none := zx.bb hx1 (hbb23) hT23.1 hq31
    have hx3 : zx (fun q => q = ta ∨ q = b) G G31 := zx.go hx1 (hbb23) hx31
    have k4 : G31 xo = some (.inr (10, [.ref ta, .ref zo, .ref an])) := hx3 xo _ (fun z => z.elim hnx1 hnx2) hX
    refine zW_more (cells2 := 2) (slots2 := 2 * ((tgr (tgr n tp.length) (tp ++ zby x1).length) - n)) (by dsimp only; omega) (by dsimp only; omega) ?_
    refine lv_aload_n hx hb d_ZA_feed_34 rfl (lv_at hl 0 rfl) ?_
    refine zg_get (ci := 10) (C := "ZoneAnswers") (T := T_ZA) (N := 3) hx hb hts zi_ZA hown hK hG k4 rfl 0 (by decide) (hts _ w_703) (fun _ h9 => h9) rfl d_ZA_feed_35 ?_
    refine lv_iload_n hx hb d_ZA_feed_38 rfl (lv_at hl 3 rfl) ?_
    have hGo39 := hG
    refine zk_v (va_runV (As := [.int x3]) (rest := []) ⟨hx, hb, hml, hown, hts⟩ (t_Ta_append_c l E G31 ta b31 (tgr (tgr n tp.length) (tp ++ zby x1).length) (tp ++ zby x1 ++ zby x2) hT31 x3 (by have := hl2; omega)) (zcV 1 hts w_799 w_800 w_801 w_2 w_802 (by decide +kernel) ⟨Nat.le_of_ble_eq_true rfl, Nat.le_of_ble_eq_true rfl⟩) (zc_preV hbase hK hN hQ hG hS hT31.1 rfl) rfl rfl hl.1 rfl (lv_room (Nat.le_of_ble_eq_true rfl)) d_ZA_feed_39 ⟨(by dsimp only; omega), (by dsimp only; omega)⟩) hS (fun G39 H locs hp39 hG hS => ?_)
    obtain ⟨b39, hT39, hq39, hx39⟩ := hp39
    have hbb39 : b39 = b ∨ G b39 = none := zx.bb hx3 (hbb31) hT31.1 hq39
    have hx5 : zx (fun q => q = ta ∨ q = b) G G39 := zx.go hx3 (hbb31) hx39
    have k6 : G39 xo = some (.inr (10, [.ref ta, .ref zo, .ref an])) := hx5 xo _ (fun z => z.elim hnx1 hnx2) hX
    refine zW_more (cells2 := 3) (slots2 := 2 * ((tgr (tgr (tgr n tp.length) (tp ++ zby x1).length) (tp ++ zby x1 ++ zby x2).length) - n)) (by dsimp only; omega) (by dsimp only; omega) ?_
    refine lv_aload_n hx hb d_ZA_feed_42 rfl (lv_at hl 0 rfl) ?_
    refine zg_get (ci := 10) (C := "ZoneAnswers") (T := T_ZA) (N := 3) hx hb hts zi_ZA hown hK hG k6 rfl 0 (by decide) (hts _ w_703) (fun _ h9 => h9) rfl d_ZA_feed_43 ?_
    refine lv_iload hx hb d_ZA_feed_46 (lv_at hl 4 rfl) ?_
    have hGo48 := hG
    refine zk_v (va_runV (As := [.int x4]) (rest := []) ⟨hx, hb, hml, hown, hts⟩ (t_Ta_append_c l E G39 ta b39 (tgr (tgr (tgr n tp.length) (tp ++ zby x1).length) (tp ++ zby x1 ++ zby x2).length) (tp ++ zby x1 ++ zby x2 ++ zby x3) hT39 x4 (by have := hl3; omega)) (zcV 1 hts w_799 w_800 w_801 w_2 w_802 (by decide +kernel) ⟨Nat.le_of_ble_eq_true rfl, Nat.le_of_ble_eq_true rfl⟩) (zc_preV hbase hK hN hQ hG hS hT39.1 rfl) rfl rfl hl.1 rfl (lv_room (Nat.le_of_ble_eq_true rfl)) d_ZA_feed_48 ⟨(by dsimp only; omega), (by dsimp only; omega)⟩) hS (fun G48 H locs hp48 hG hS => ?_)
    obtain ⟨b48, hT48, hq48, hx48⟩ := hp48
    have hbb48 : b48 = b ∨ G b48 = none := zx.bb hx5 (hbb39) hT39.1 hq48
    have hx7 : zx (fun q => q = ta ∨ q = b) G G48 := zx.go hx5 (hbb39) hx48
    have k8 : G48 xo = some (.inr (10, [.ref ta, .ref zo, .ref an])) := hx7 xo _ (fun z => z.elim hnx1 hnx2) hX
    refine zW_more (cells2 := 4) (slots2 := 2 * ((tgr (tgr (tgr (tgr n tp.length) (tp ++ zby x1).length) (tp ++ zby x1 ++ zby x2).length) (tp ++ zby x1 ++ zby x2 ++ zby x3).length) - n)) (by dsimp only; omega) (by dsimp only; omega) ?_
    refine lv_aload_n hx hb d_ZA_feed_51 rfl (lv_at hl 0 rfl) ?_
    refine zg_get (ci := 10) (C := "ZoneAnswers") (T := T_ZA) (N := 3) hx hb hts zi_ZA hown hK hG k8 rfl 0 (by decide) (hts _ w_703) (fun _ h9 => h9) rfl d_ZA_feed_52 ?_
    refine lv_iload hx hb d_ZA_feed_55 (lv_at hl 5 rfl) ?_
    have hGo57 := hG
    refine zk_v (va_runV (As := [.int x5]) (rest := []) ⟨hx, hb, hml, hown, hts⟩ (t_Ta_append_c l E G48 ta b48 (tgr (tgr (tgr (tgr n tp.length) (tp ++ zby x1).length) (tp ++ zby x1 ++ zby x2).length) (tp ++ zby x1 ++ zby x2 ++ zby x3).length) (tp ++ zby x1 ++ zby x2 ++ zby x3 ++ zby x4) hT48 x5 (by have := hl4; omega)) (zcV 1 hts w_799 w_800 w_801 w_2 w_802 (by decide +kernel) ⟨Nat.le_of_ble_eq_true rfl, Nat.le_of_ble_eq_true rfl⟩) (zc_preV hbase hK hN hQ hG hS hT48.1 rfl) rfl rfl hl.1 rfl (lv_room (Nat.le_of_ble_eq_true rfl)) d_ZA_feed_57 ⟨(by dsimp only; omega), (by dsimp only; omega)⟩) hS (fun G57 H locs hp57 hG hS => ?_)
    obtain ⟨b57, hT57, hq57, hx57⟩ := hp57
    have hbb57 : b57 = b ∨ G b57 = none := zx.bb hx7 (hbb48) hT48.1 hq57
    have hx9 : zx (fun q => q = ta ∨ q = b) G G57 := zx.go hx7 (hbb48) hx57
    have k10 : G57 xo = some (.inr (10, [.ref ta, .ref zo, .ref an])) := hx9 xo _ (fun z => z.elim hnx1 hnx2) hX
    refine zW_more (cells2 := 5) (slots2 := 2 * ((tgr (tgr (tgr (tgr (tgr n tp.length) (tp ++ zby x1).length) (tp ++ zby x1 ++ zby x2).length) (tp ++ zby x1 ++ zby x2 ++ zby x3).length) (tp ++ zby x1 ++ zby x2 ++ zby x3 ++ zby x4).length) - n)) (by dsimp only; omega) (by dsimp only; omega) ?_
    refine lv_aload_n hx hb d_ZA_feed_60 rfl (lv_at hl 0 rfl) ?_
    refine zg_get (ci := 10) (C := "ZoneAnswers") (T := T_ZA) (N := 3) hx hb hts zi_ZA hown hK hG k10 rfl 0 (by decide) (hts _ w_703) (fun _ h9 => h9) rfl d_ZA_feed_61 ?_
    refine zk_i (va_runV (As := []) (rest := []) ⟨hx, hb, hml, hown, hts⟩ (t_Ta_length l E G57 ta b57 (nI (tp ++ zby x1 ++ zby x2 ++ zby x3 ++ zby x4 ++ zby x5).length) hT57.1) (zcV 0 hts w_729 w_730 w_731 w_2 w_732 (by decide +kernel) ⟨Nat.le_of_ble_eq_true rfl, Nat.le_of_ble_eq_true rfl⟩) (zc_preV hbase hK hN hQ hG hS hT57.1 rfl) rfl rfl hl.1 rfl (lv_room (Nat.le_of_ble_eq_true rfl)) d_ZA_feed_64 ⟨(by dsimp only; omega), (by dsimp only; omega)⟩) hS (fun r64 G64 H locs hp64 hG hS => ?_)
    have hG : zP E G57 H := hp64.2 ▸ hG
    refine zi_as (y := nI (tp ++ zby x1 ++ zby x2 ++ zby x3 ++ zby x4 ++ zby x5).length) hp64.1 ?_
    exact zt_iret hx hb hr hlocks (rfl) (⟨hroom, by simp only [List.length_append, zby_len], b57, hT57.p, hbb57, hx9⟩) hG hS (by dsimp only; omega) (by dsimp only; omega) d_ZA_feed_67
  · have hfull : 65516 < tp.length := by
      rcases Nat.lt_or_ge 65516 tp.length with q | q
      · exact q
      · rw [if_neg (fun z => Nat.not_lt.mpr q (e16.mp z))] at c7; exact absurd c7 (by decide)
    exact zt_row (names := zt_up) (ic := 47) hoff hx hb (hml.trans hl.1.symm) hown hts hQ hex hlocks (zt_words hts hN hQ zt_ise) (by decide) (by decide) w_778 w_779 w_32 (⟨rfl, hfull⟩) hG hS hbase (by dsimp only; omega) (by dsimp only; omega) (Nat.le_of_ble_eq_true rfl) (Nat.le_of_ble_eq_true rfl) d_ZA_feed_10 d_ZA_feed_13 d_ZA_feed_14 d_ZA_feed_17
