theorem w_32 : (.initialized "java/lang/IllegalStateException" : Cond) ∈ zw := zw_at 32 (by decide +kernel) (by decide +kernel)
theorem w_773 : (.methodLink "ZoneAnswers" 41 ⟨"ZoneAnswers$Tape", "hasRoom", "()Z"⟩ : Cond) ∈ zw := zw_at 773 (by decide +kernel) (by decide +kernel)
theorem w_774 : (.instanceMethod ⟨"ZoneAnswers$Tape", "hasRoom", "()Z"⟩ : Cond) ∈ zw := zw_at 774 (by decide +kernel) (by decide +kernel)
theorem w_775 : (.selects "ZoneAnswers$Tape" ⟨"ZoneAnswers$Tape", "hasRoom", "()Z"⟩ ⟨"ZoneAnswers$Tape", "hasRoom", "()Z"⟩ : Cond) ∈ zw := zw_at 775 (by decide +kernel) (by decide +kernel)
theorem w_776 : (.code ⟨"ZoneAnswers$Tape", "hasRoom", "()Z"⟩ prog_8_method_3_code 1 (some .boolean) : Cond) ∈ zw := zw_at 776 (by decide +kernel) (by decide +kernel)
theorem w_778 : (.classLink "ZoneAnswers" 45 "java/lang/IllegalStateException" : Cond) ∈ zw := zw_at 778 (by decide +kernel) (by decide +kernel)
theorem w_779 : (.instantiable "java/lang/IllegalStateException" 6 : Cond) ∈ zw := zw_at 779 (by decide +kernel) (by decide +kernel)
theorem w_799 : (.methodLink "ZoneAnswers" 48 ⟨"ZoneAnswers$Tape", "append", "(I)V"⟩ : Cond) ∈ zw := zw_at 799 (by decide +kernel) (by decide +kernel)
theorem w_800 : (.instanceMethod ⟨"ZoneAnswers$Tape", "append", "(I)V"⟩ : Cond) ∈ zw := zw_at 800 (by decide +kernel) (by decide +kernel)
theorem w_801 : (.selects "ZoneAnswers$Tape" ⟨"ZoneAnswers$Tape", "append", "(I)V"⟩ ⟨"ZoneAnswers$Tape", "append", "(I)V"⟩ : Cond) ∈ zw := zw_at 801 (by decide +kernel) (by decide +kernel)
theorem w_802 : (.code ⟨"ZoneAnswers$Tape", "append", "(I)V"⟩ prog_8_method_4_code 2 none : Cond) ∈ zw := zw_at 802 (by decide +kernel) (by decide +kernel)
abbrev c_ZA_feed : ByteArray := prog_1_method_2_code
abbrev y_ZA_feed : MethodName := ⟨"ZoneAnswers", "feed", "(IIIII)I"⟩
theorem d_ZA_feed_0 : decode c_ZA_feed 0 = .ok (.aload_n 0, 1) := by decide +kernel
theorem d_ZA_feed_1 : decode c_ZA_feed 1 = .ok (.getfield 10, 3) := by decide +kernel
theorem d_ZA_feed_4 : decode c_ZA_feed 4 = .ok (.invokevirtual 41, 3) := by decide +kernel
theorem d_ZA_feed_7 : decode c_ZA_feed 7 = .ok (.ifCond .ne 11, 3) := by decide +kernel
theorem d_ZA_feed_10 : decode c_ZA_feed 10 = .ok (.new 45, 3) := by decide +kernel
theorem d_ZA_feed_13 : decode c_ZA_feed 13 = .ok (.dup, 1) := by decide +kernel
theorem d_ZA_feed_14 : decode c_ZA_feed 14 = .ok (.invokespecial 47, 3) := by decide +kernel
theorem d_ZA_feed_17 : decode c_ZA_feed 17 = .ok (.athrow, 1) := by decide +kernel
theorem d_ZA_feed_18 : decode c_ZA_feed 18 = .ok (.aload_n 0, 1) := by decide +kernel
theorem d_ZA_feed_19 : decode c_ZA_feed 19 = .ok (.getfield 10, 3) := by decide +kernel
theorem d_ZA_feed_22 : decode c_ZA_feed 22 = .ok (.iload_n 1, 1) := by decide +kernel
theorem d_ZA_feed_23 : decode c_ZA_feed 23 = .ok (.invokevirtual 48, 3) := by decide +kernel
theorem d_ZA_feed_26 : decode c_ZA_feed 26 = .ok (.aload_n 0, 1) := by decide +kernel
theorem d_ZA_feed_27 : decode c_ZA_feed 27 = .ok (.getfield 10, 3) := by decide +kernel
theorem d_ZA_feed_30 : decode c_ZA_feed 30 = .ok (.iload_n 2, 1) := by decide +kernel
theorem d_ZA_feed_31 : decode c_ZA_feed 31 = .ok (.invokevirtual 48, 3) := by decide +kernel
theorem d_ZA_feed_34 : decode c_ZA_feed 34 = .ok (.aload_n 0, 1) := by decide +kernel
theorem d_ZA_feed_35 : decode c_ZA_feed 35 = .ok (.getfield 10, 3) := by decide +kernel
theorem d_ZA_feed_38 : decode c_ZA_feed 38 = .ok (.iload_n 3, 1) := by decide +kernel
theorem d_ZA_feed_39 : decode c_ZA_feed 39 = .ok (.invokevirtual 48, 3) := by decide +kernel
theorem d_ZA_feed_42 : decode c_ZA_feed 42 = .ok (.aload_n 0, 1) := by decide +kernel
theorem d_ZA_feed_43 : decode c_ZA_feed 43 = .ok (.getfield 10, 3) := by decide +kernel
theorem d_ZA_feed_46 : decode c_ZA_feed 46 = .ok (.iload 4, 2) := by decide +kernel
theorem d_ZA_feed_48 : decode c_ZA_feed 48 = .ok (.invokevirtual 48, 3) := by decide +kernel
theorem d_ZA_feed_51 : decode c_ZA_feed 51 = .ok (.aload_n 0, 1) := by decide +kernel
theorem d_ZA_feed_52 : decode c_ZA_feed 52 = .ok (.getfield 10, 3) := by decide +kernel
theorem d_ZA_feed_55 : decode c_ZA_feed 55 = .ok (.iload 5, 2) := by decide +kernel
theorem d_ZA_feed_57 : decode c_ZA_feed 57 = .ok (.invokevirtual 48, 3) := by decide +kernel
theorem d_ZA_feed_60 : decode c_ZA_feed 60 = .ok (.aload_n 0, 1) := by decide +kernel
theorem d_ZA_feed_61 : decode c_ZA_feed 61 = .ok (.getfield 10, 3) := by decide +kernel
theorem d_ZA_feed_64 : decode c_ZA_feed 64 = .ok (.invokevirtual 52, 3) := by decide +kernel
theorem d_ZA_feed_67 : decode c_ZA_feed 67 = .ok (.ireturn, 1) := by decide +kernel
abbrev rm_ZA_feed (B : Nat) : Room := { frames := 6, cells := 5, slots := 5 * B, locals := 110 }
set_option maxHeartbeats 4000000 in
set_option maxRecDepth 100000 in
/-- ZoneAnswers.feed(..) -/
theorem t_ZA_feed (l : Launch) (hoff : zl_off l) (E : zc_E) (G : zg_G) (xo ta zo an b : Nat) (tp : List Int32) (hX : G xo = some (.inr (10, [.ref ta, .ref zo, .ref an]))) (hT : zTp E G ta b tp) (hlen : tp.length ≤ 65536) (x1 : Int32) (x2 : Int32) (x3 : Int32) (x4 : Int32) (x5 : Int32) (B : Nat) (hB : 2 * tp.length + 40 ≤ B) : zT l E y_ZA_feed c_ZA_feed 6 (some .int) (rm_ZA_feed B) [.ref xo, .int x1, .int x2, .int x3, .int x4, .int x5] G (fun (v : Option Value) (G2 : zg_G) => tp.length ≤ 65516 ∧ v = some (.int (nI (tp.length + 20))) ∧ ∃ b2, zTp E G2 ta b2 (tp ++ zby x1 ++ zby x2 ++ zby x3 ++ zby x4 ++ zby x5) ∧ (b2 = b ∨ G b2 = none) ∧ zx (fun q => q = ta ∨ q = b) G G2) (fun cls => cls = "java/lang/IllegalStateException" ∧ 65516 < tp.length) := by
  refine zT.of (by decide) (Nat.le_of_ble_eq_true rfl) ?_
  intro p e s m args below meth c hZ hex hG ls hl
  obtain ⟨hx, hb, hr, hts, hown, hlocks, hml, hnm, hbase, hK, hN, hQ⟩ := hZ
  have hl : lv_has ls 6 [(0, .ref xo), (1, .int x1), (2, .int x2), (3, .int x3), (4, .int x4), (5, .int x5)] := hl
  have hS : zg_S (zc_b E) s.heap s.heap [] := va_S.rf
  have hnx1 : xo ≠ ta := zg_ne hX hT.1 (by intro h; simp at h)
  have hnx2 : xo ≠ b := by obtain ⟨-, n9, f9, h9, -⟩ := id hT; exact zg_ne hX h9 (by intro h; cases h)
  have e16 : (65516 : Int32) < nI tp.length ↔ 65516 < tp.length := nI_ltI (a := 65516) (b := tp.length) (by omega) (by omega)
  have hx0 : zx (fun q => q = ta ∨ q = b) G G := zx.rf
  refine lv_aload_n hx hb d_ZA_feed_0 rfl (lv_at hl 0 rfl) ?_
  refine zg_get (ci := 10) (C := "ZoneAnswers") (T := T_ZA) (N := 3) hx hb hts zi_ZA hown hK hG hX rfl 0 (by decide) (hts _ w_703) (fun _ h9 => h9) rfl d_ZA_feed_1 ?_
  refine zk_i (va_runV (As := []) (rest := []) ⟨hx, hb, hml, hown, hts⟩ (t_Ta_hasRoom l E G ta b (nI tp.length) hT.1) (zcV 0 hts w_773 w_774 w_775 w_2 w_776 (by decide +kernel) ⟨Nat.le_of_ble_eq_true rfl, Nat.le_of_ble_eq_true rfl⟩) (zc_preV hbase hK hN hQ hG hS hT.1 rfl) rfl rfl hl.1 rfl (lv_room (Nat.le_of_ble_eq_true rfl)) d_ZA_feed_4 ⟨(by dsimp only; omega), (by dsimp only; omega)⟩) hS (fun r4 G4 H locs hp4 hG hS => ?_)
  have hG : zP E G H := hp4.2 ▸ hG
  refine zi_as (y := if 65516 < nI tp.length then 0 else 1) hp4.1 ?_
  refine lv_if_ne (tgt := 18) hx hb d_ZA_feed_7 (by decide) (fun c7 => ?_) (fun c7 => ?_)
  · have hroom : tp.length ≤ 65516 := by
      rcases Nat.lt_or_ge 65516 tp.length with q | q
      · rw [if_pos (e16.mpr q)] at c7; exact absurd rfl c7
      · exact q
    refine lv_aload_n hx hb d_ZA_feed_18 rfl (lv_at hl 0 rfl) ?_
    refine zg_get (ci := 10) (C := "ZoneAnswers") (T := T_ZA) (N := 3) hx hb hts zi_ZA hown hK hG hX rfl 0 (by decide) (hts _ w_703) (fun _ h9 => h9) rfl d_ZA_feed_19 ?_
    refine lv_iload_n hx hb d_ZA_feed_22 rfl (lv_at hl 1 rfl) ?_
    have hGo23 := hG
    refine zk_v (va_runV (As := [.int x1]) (rest := []) ⟨hx, hb, hml, hown, hts⟩ (t_Ta_append l E G ta b tp hT x1 (by first | omega | (simp only [List.length_append, zby_len]; omega)) B (by first | omega | (simp only [List.length_append, zby_len]; omega))) (zcV 1 hts w_799 w_800 w_801 w_2 w_802 (by decide +kernel) ⟨Nat.le_of_ble_eq_true rfl, Nat.le_of_ble_eq_true rfl⟩) (zc_preV hbase hK hN hQ hG hS hT.1 rfl) rfl rfl hl.1 rfl (lv_room (Nat.le_of_ble_eq_true rfl)) d_ZA_feed_23 ⟨(by dsimp only; omega), (by dsimp only; omega)⟩) hS (fun G23 H locs hp23 hG hS => ?_)
    obtain ⟨b23, hT23, hq23, hx23⟩ := hp23
    have hbb23 : b23 = b ∨ G b23 = none := zx.bb hx0 (Or.inl rfl) hT.1 hq23
    have hx1 : zx (fun q => q = ta ∨ q = b) G G23 := zx.go hx0 (Or.inl rfl) hx23
    have k2 : G23 xo = some (.inr (10, [.ref ta, .ref zo, .ref an])) := hx1 xo _ (fun z => z.elim hnx1 hnx2) hX
    refine lv_aload_n hx hb d_ZA_feed_26 rfl (lv_at hl 0 rfl) ?_
    refine zg_get (ci := 10) (C := "ZoneAnswers") (T := T_ZA) (N := 3) hx hb hts zi_ZA hown hK hG k2 rfl 0 (by decide) (hts _ w_703) (fun _ h9 => h9) rfl d_ZA_feed_27 ?_
    refine lv_iload_n hx hb d_ZA_feed_30 rfl (lv_at hl 2 rfl) ?_
    have hGo31 := hG
    refine zk_v (va_runV (As := [.int x2]) (rest := []) ⟨hx, hb, hml, hown, hts⟩ (t_Ta_append l E G23 ta b23 (tp ++ zby x1) hT23 x2 (by first | omega | (simp only [List.length_append, zby_len]; omega)) B (by first | omega | (simp only [List.length_append, zby_len]; omega))) (zcV 1 hts w_799 w_800 w_801 w_2 w_802 (by decide +kernel) ⟨Nat.le_of_ble_eq_true rfl, Nat.le_of_ble_eq_true rfl⟩) (zc_preV hbase hK hN hQ hG hS hT23.1 rfl) rfl rfl hl.1 rfl (lv_room (Nat.le_of_ble_eq_true rfl)) d_ZA_feed_31 ⟨(by dsimp only; omega), (by dsimp only; omega)⟩) hS (fun G31 H locs hp31 hG hS => ?_)
    obtain ⟨b31, hT31, hq31, hx31⟩ := hp31
    have hbb31 : b31 = b ∨ G b31 = none := zx.bb hx1 (hbb23) hT23.1 hq31
    have hx3 : zx (fun q => q = ta ∨ q = b) G G31 := zx.go hx1 (hbb23) hx31
    have k4 : G31 xo = some (.inr (10, [.ref ta, .ref zo, .ref an])) := hx3 xo _ (fun z => z.elim hnx1 hnx2) hX
    refine lv_aload_n hx hb d_ZA_feed_34 rfl (lv_at hl 0 rfl) ?_
    refine zg_get (ci := 10) (C := "ZoneAnswers") (T := T_ZA) (N := 3) hx hb hts zi_ZA hown hK hG k4 rfl 0 (by decide) (hts _ w_703) (fun _ h9 => h9) rfl d_ZA_feed_35 ?_
    refine lv_iload_n hx hb d_ZA_feed_38 rfl (lv_at hl 3 rfl) ?_
    have hGo39 := hG
    refine zk_v (va_runV (As := [.int x3]) (rest := []) ⟨hx, hb, hml, hown, hts⟩ (t_Ta_append l E G31 ta b31 (tp ++ zby x1 ++ zby x2) hT31 x3 (by first | omega | (simp only [List.length_append, zby_len]; omega)) B (by first | omega | (simp only [List.length_append, zby_len]; omega))) (zcV 1 hts w_799 w_800 w_801 w_2 w_802 (by decide +kernel) ⟨Nat.le_of_ble_eq_true rfl, Nat.le_of_ble_eq_true rfl⟩) (zc_preV hbase hK hN hQ hG hS hT31.1 rfl) rfl rfl hl.1 rfl (lv_room (Nat.le_of_ble_eq_true rfl)) d_ZA_feed_39 ⟨(by dsimp only; omega), (by dsimp only; omega)⟩) hS (fun G39 H locs hp39 hG hS => ?_)
    obtain ⟨b39, hT39, hq39, hx39⟩ := hp39
    have hbb39 : b39 = b ∨ G b39 = none := zx.bb hx3 (hbb31) hT31.1 hq39
    have hx5 : zx (fun q => q = ta ∨ q = b) G G39 := zx.go hx3 (hbb31) hx39
    have k6 : G39 xo = some (.inr (10, [.ref ta, .ref zo, .ref an])) := hx5 xo _ (fun z => z.elim hnx1 hnx2) hX
    refine lv_aload_n hx hb d_ZA_feed_42 rfl (lv_at hl 0 rfl) ?_
    refine zg_get (ci := 10) (C := "ZoneAnswers") (T := T_ZA) (N := 3) hx hb hts zi_ZA hown hK hG k6 rfl 0 (by decide) (hts _ w_703) (fun _ h9 => h9) rfl d_ZA_feed_43 ?_
    refine lv_iload hx hb d_ZA_feed_46 (lv_at hl 4 rfl) ?_
    have hGo48 := hG
    refine zk_v (va_runV (As := [.int x4]) (rest := []) ⟨hx, hb, hml, hown, hts⟩ (t_Ta_append l E G39 ta b39 (tp ++ zby x1 ++ zby x2 ++ zby x3) hT39 x4 (by first | omega | (simp only [List.length_append, zby_len]; omega)) B (by first | omega | (simp only [List.length_append, zby_len]; omega))) (zcV 1 hts w_799 w_800 w_801 w_2 w_802 (by decide +kernel) ⟨Nat.le_of_ble_eq_true rfl, Nat.le_of_ble_eq_true rfl⟩) (zc_preV hbase hK hN hQ hG hS hT39.1 rfl) rfl rfl hl.1 rfl (lv_room (Nat.le_of_ble_eq_true rfl)) d_ZA_feed_48 ⟨(by dsimp only; omega), (by dsimp only; omega)⟩) hS (fun G48 H locs hp48 hG hS => ?_)
    obtain ⟨b48, hT48, hq48, hx48⟩ := hp48
    have hbb48 : b48 = b ∨ G b48 = none := zx.bb hx5 (hbb39) hT39.1 hq48
    have hx7 : zx (fun q => q = ta ∨ q = b) G G48 := zx.go hx5 (hbb39) hx48
    have k8 : G48 xo = some (.inr (10, [.ref ta, .ref zo, .ref an])) := hx7 xo _ (fun z => z.elim hnx1 hnx2) hX
    refine lv_aload_n hx hb d_ZA_feed_51 rfl (lv_at hl 0 rfl) ?_
    refine zg_get (ci := 10) (C := "ZoneAnswers") (T := T_ZA) (N := 3) hx hb hts zi_ZA hown hK hG k8 rfl 0 (by decide) (hts _ w_703) (fun _ h9 => h9) rfl d_ZA_feed_52 ?_
    refine lv_iload hx hb d_ZA_feed_55 (lv_at hl 5 rfl) ?_
    have hGo57 := hG
    refine zk_v (va_runV (As := [.int x5]) (rest := []) ⟨hx, hb, hml, hown, hts⟩ (t_Ta_append l E G48 ta b48 (tp ++ zby x1 ++ zby x2 ++ zby x3 ++ zby x4) hT48 x5 (by first | omega | (simp only [List.length_append, zby_len]; omega)) B (by first | omega | (simp only [List.length_append, zby_len]; omega))) (zcV 1 hts w_799 w_800 w_801 w_2 w_802 (by decide +kernel) ⟨Nat.le_of_ble_eq_true rfl, Nat.le_of_ble_eq_true rfl⟩) (zc_preV hbase hK hN hQ hG hS hT48.1 rfl) rfl rfl hl.1 rfl (lv_room (Nat.le_of_ble_eq_true rfl)) d_ZA_feed_57 ⟨(by dsimp only; omega), (by dsimp only; omega)⟩) hS (fun G57 H locs hp57 hG hS => ?_)
    obtain ⟨b57, hT57, hq57, hx57⟩ := hp57
    have hbb57 : b57 = b ∨ G b57 = none := zx.bb hx7 (hbb48) hT48.1 hq57
    have hx9 : zx (fun q => q = ta ∨ q = b) G G57 := zx.go hx7 (hbb48) hx57
    have k10 : G57 xo = some (.inr (10, [.ref ta, .ref zo, .ref an])) := hx9 xo _ (fun z => z.elim hnx1 hnx2) hX
    refine lv_aload_n hx hb d_ZA_feed_60 rfl (lv_at hl 0 rfl) ?_
    refine zg_get (ci := 10) (C := "ZoneAnswers") (T := T_ZA) (N := 3) hx hb hts zi_ZA hown hK hG k10 rfl 0 (by decide) (hts _ w_703) (fun _ h9 => h9) rfl d_ZA_feed_61 ?_
    refine zk_i (va_runV (As := []) (rest := []) ⟨hx, hb, hml, hown, hts⟩ (t_Ta_length l E G57 ta b57 (nI (tp ++ zby x1 ++ zby x2 ++ zby x3 ++ zby x4 ++ zby x5).length) hT57.1) (zcV 0 hts w_729 w_730 w_731 w_2 w_732 (by decide +kernel) ⟨Nat.le_of_ble_eq_true rfl, Nat.le_of_ble_eq_true rfl⟩) (zc_preV hbase hK hN hQ hG hS hT57.1 rfl) rfl rfl hl.1 rfl (lv_room (Nat.le_of_ble_eq_true rfl)) d_ZA_feed_64 ⟨(by dsimp only; omega), (by dsimp only; omega)⟩) hS (fun r64 G64 H locs hp64 hG hS => ?_)
    have hG : zP E G57 H := hp64.2 ▸ hG
    refine zi_as (y := nI (tp ++ zby x1 ++ zby x2 ++ zby x3 ++ zby x4 ++ zby x5).length) hp64.1 ?_
    exact zt_iret hx hb hr hlocks (rfl) (⟨hroom, by simp only [List.length_append, zby_len], b57, hT57, hbb57, hx9⟩) hG hS (by dsimp only; omega) (by dsimp only; omega) d_ZA_feed_67
  · have hfull : 65516 < tp.length := by
      rcases Nat.lt_or_ge 65516 tp.length with q | q
      · exact q
      · rw [if_neg (fun z => Nat.not_lt.mpr q (e16.mp z))] at c7; exact absurd c7 (by decide)
    exact zt_row (names := zt_up) (ic := 47) hoff hx hb (hml.trans hl.1.symm) hown hts hQ hex hlocks (zt_words hts hN hQ zt_ise) (by decide) (by decide) w_778 w_779 w_32 (⟨rfl, hfull⟩) hG hS hbase (by dsimp only; omega) (by dsimp only; omega) (Nat.le_of_ble_eq_true rfl) (Nat.le_of_ble_eq_true rfl) d_ZA_feed_10 d_ZA_feed_13 d_ZA_feed_14 d_ZA_feed_17
