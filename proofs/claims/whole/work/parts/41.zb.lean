theorem w_606 : (.methodLink "ZoneAnswers$Owner" 26 ⟨"java/util/ArrayList", "size", "()I"⟩ : Cond) ∈ zw := zw_at 606 (by decide +kernel) (by decide +kernel)
theorem w_607 : (.methodLink "ZoneAnswers$Owner" 30 ⟨"java/util/ArrayList", "get", "(I)Ljava/lang/Object;"⟩ : Cond) ∈ zw := zw_at 607 (by decide +kernel) (by decide +kernel)
theorem w_608 : (.classLink "ZoneAnswers$Owner" 34 "ZoneAnswers$Rrset" : Cond) ∈ zw := zw_at 608 (by decide +kernel) (by decide +kernel)
theorem w_617 : (.fieldLink "ZoneAnswers$Owner" 36 "ZoneAnswers$Rrset" "type" "I" : Cond) ∈ zw := zw_at 617 (by decide +kernel) (by decide +kernel)
abbrev c_Ow_find : ByteArray := prog_5_method_4_code
abbrev y_Ow_find : MethodName := ⟨"ZoneAnswers$Owner", "find", "(I)LZoneAnswers$Rrset;"⟩
theorem d_Ow_find_0 : decode c_Ow_find 0 = .ok (.iconst 0, 1) := by decide +kernel
theorem d_Ow_find_1 : decode c_Ow_find 1 = .ok (.istore_n 2, 1) := by decide +kernel
theorem d_Ow_find_2 : decode c_Ow_find 2 = .ok (.iload_n 2, 1) := by decide +kernel
theorem d_Ow_find_3 : decode c_Ow_find 3 = .ok (.aload_n 0, 1) := by decide +kernel
theorem d_Ow_find_4 : decode c_Ow_find 4 = .ok (.getfield 18, 3) := by decide +kernel
theorem d_Ow_find_7 : decode c_Ow_find 7 = .ok (.invokevirtual 26, 3) := by decide +kernel
theorem d_Ow_find_10 : decode c_Ow_find 10 = .ok (.if_icmp .ge 39, 3) := by decide +kernel
theorem d_Ow_find_13 : decode c_Ow_find 13 = .ok (.aload_n 0, 1) := by decide +kernel
theorem d_Ow_find_14 : decode c_Ow_find 14 = .ok (.getfield 18, 3) := by decide +kernel
theorem d_Ow_find_17 : decode c_Ow_find 17 = .ok (.iload_n 2, 1) := by decide +kernel
theorem d_Ow_find_18 : decode c_Ow_find 18 = .ok (.invokevirtual 30, 3) := by decide +kernel
theorem d_Ow_find_21 : decode c_Ow_find 21 = .ok (.checkcast 34, 3) := by decide +kernel
theorem d_Ow_find_24 : decode c_Ow_find 24 = .ok (.getfield 36, 3) := by decide +kernel
theorem d_Ow_find_27 : decode c_Ow_find 27 = .ok (.iload_n 1, 1) := by decide +kernel
theorem d_Ow_find_28 : decode c_Ow_find 28 = .ok (.if_icmp .ne 15, 3) := by decide +kernel
theorem d_Ow_find_31 : decode c_Ow_find 31 = .ok (.aload_n 0, 1) := by decide +kernel
theorem d_Ow_find_32 : decode c_Ow_find 32 = .ok (.getfield 18, 3) := by decide +kernel
theorem d_Ow_find_35 : decode c_Ow_find 35 = .ok (.iload_n 2, 1) := by decide +kernel
theorem d_Ow_find_36 : decode c_Ow_find 36 = .ok (.invokevirtual 30, 3) := by decide +kernel
theorem d_Ow_find_39 : decode c_Ow_find 39 = .ok (.checkcast 34, 3) := by decide +kernel
theorem d_Ow_find_42 : decode c_Ow_find 42 = .ok (.areturn, 1) := by decide +kernel
theorem d_Ow_find_43 : decode c_Ow_find 43 = .ok (.iinc 2 1, 3) := by decide +kernel
theorem d_Ow_find_46 : decode c_Ow_find 46 = .ok (.goto (-44), 3) := by decide +kernel
theorem d_Ow_find_49 : decode c_Ow_find 49 = .ok (.aconst_null, 1) := by decide +kernel
theorem d_Ow_find_50 : decode c_Ow_find 50 = .ok (.areturn, 1) := by decide +kernel
abbrev rm_Ow_find : Room := { frames := 3, cells := 0, slots := 0, locals := 80 }
set_option maxHeartbeats 4000000 in
set_option maxRecDepth 100000 in
/-- Owner.find(t) -/
theorem t_Ow_find (l : Launch) (E : zc_E) (G : zg_G) (a na la : Nat) (cu : Option Nat) (ha : G a = some (.inr (4, [.ref na, .ref la, va_rf cu]))) (dd n cap : Nat) (k : Int32) (f : Nat → Option Nat) (hla : G la = some (.inr (0, [.ref dd, .int (nI n), .int k]))) (hd : G dd = some (.inl (E.2.1 3, cap, .inr (.inr (.inr (.inr f)))))) (hc : n ≤ cap) (hz : cap < 2 ^ 24) (qs da : Nat → Nat) (ty ti : Nat → Int32) (hrs : ∀ i, i < n → f i = some (qs i) ∧ G (qs i) = some (.inr (5, [.int (ty i), .int (ti i), .ref (da i)]))) (t : Int32) : zMq l E y_Ow_find c_Ow_find 3 (some (.object "ZoneAnswers$Rrset")) rm_Ow_find [.ref a, .int t] G (fun (r : Option Nat) (G2 : zg_G) => ((∃ i, i < n ∧ ty i = t ∧ (∀ j, j < i → ty j ≠ t) ∧ r = some (qs i)) ∨ ((∀ i, i < n → ty i ≠ t) ∧ r = none)) ∧ G2 = G) := by
  refine zMq.of (by decide) (Nat.le_of_ble_eq_true rfl) ?_
  intro p e s m args below meth c Q hZ hG hret ls hl
  obtain ⟨hx, hb, hr, hts, hown, hlocks, hml, hnm, hbase, hK, hN, hQ⟩ := hZ
  have hl : lv_has ls 3 [(0, .ref a), (1, .int t)] := hl
  have hS : zg_S (zc_b E) s.heap s.heap [] := va_S.rf
  refine lv_iconst (v := 0) hx hb d_Ow_find_0 (by decide) ?_
  refine lv_istore_n (lv' := [(2, .int 0), (0, .ref a), (1, .int t)]) hx hb d_Ow_find_1 rfl hl (by decide) rfl (fun ls hl => ?_)
  have loop2 : ∀ (N : Nat) (i : Nat) (H : Heap) (locs : List Loc), (n - i) < N → (i ≤ n) → (∀ j, j < i → ty j ≠ t) → zP E G H → zg_S (zc_b E) s.heap H locs → ∀ (ls : Array Slot), lv_has ls 3 [(0, .ref a), (1, .int t), (2, .int (nI i))] → W p l e rm_Ow_find s m args below meth c H locs 0 0 Q (F0 m 2 ls []) := by
    intro N
    induction N with
    | zero =>
      intro i H locs hlt
      exact absurd hlt (Nat.not_lt_zero _)
    | succ N ih =>
      intro i H locs hlt hi hq hG hS ls hl
      refine lv_iload_n hx hb d_Ow_find_2 rfl (lv_at hl 2 rfl) ?_
      refine lv_aload_n hx hb d_Ow_find_3 rfl (lv_at hl 0 rfl) ?_
      refine zg_get (ci := 4) (C := "ZoneAnswers$Owner") (T := T_Ow) (N := 3) hx hb hts zi_Ow hown hK hG ha rfl 1 (by decide) (hts _ w_207) (fun _ h9 => h9) rfl d_Ow_find_4 ?_
      refine zk_i (va_runV (As := []) (rest := [.int (nI i)]) ⟨hx, hb, hml, hown, hts⟩ (t_AL_size l E G la (.ref dd) (nI n) k hla) (zcV 0 hts w_606 w_160 w_161 w_6 w_162 (by decide +kernel) ⟨Nat.le_of_ble_eq_true rfl, Nat.le_of_ble_eq_true rfl⟩) (zc_preV hbase hK hN hQ hG hS hla rfl) rfl rfl hl.1 rfl (lv_room (Nat.le_of_ble_eq_true rfl)) d_Ow_find_7 ⟨(by decide), (by decide)⟩) hS (fun r7 G7 H locs hp7 hG hS => ?_)
      have hG : zP E G H := hp7.2 ▸ hG
      refine zi_as (y := nI n) hp7.1 ?_
      refine lv_icmp_ge (tgt := 49) hx hb d_Ow_find_10 (by decide) (fun c10 => ?_) (fun c10 => ?_)
      · have b10 : n ≤ i := (nI_leI (a := n) (b := i) (by omega) (by omega)).mp c10
        refine lv_null hx hb d_Ow_find_49 ?_
        exact hret none _ _ _ _ _ _ _ _ hr (Or.inl ⟨_, rfl⟩) (⟨Or.inr ⟨fun j hj => hq j (by omega), rfl⟩, rfl⟩) hG hS (Nat.le_refl _) (Nat.le_refl _) d_Ow_find_50
      · have b10 : ¬ n ≤ i := fun q => c10 ((nI_leI (a := n) (b := i) (by omega) (by omega)).mpr q)
        have hri := hrs i (by omega)
        refine lv_aload_n hx hb d_Ow_find_13 rfl (lv_at hl 0 rfl) ?_
        refine zg_get (ci := 4) (C := "ZoneAnswers$Owner") (T := T_Ow) (N := 3) hx hb hts zi_Ow hown hK hG ha rfl 1 (by decide) (hts _ w_207) (fun _ h9 => h9) rfl d_Ow_find_14 ?_
        refine lv_iload_n hx hb d_Ow_find_17 rfl (lv_at hl 2 rfl) ?_
        have hGo18 := hG
        refine zk_q (va_runV (As := [.int (nI i)]) (rest := []) ⟨hx, hb, hml, hown, hts⟩ (t_AL_get l E G la dd n cap k f hla hd hc hz i (by omega)) (zcV 1 hts w_607 w_164 w_165 w_6 w_166 (by decide +kernel) ⟨Nat.le_of_ble_eq_true rfl, Nat.le_of_ble_eq_true rfl⟩) (zc_preV hbase hK hN hQ hG hS hla rfl) rfl rfl hl.1 rfl (lv_room (Nat.le_of_ble_eq_true rfl)) d_Ow_find_18 ⟨(by decide), (by decide)⟩) hS (fun r18 G18 H locs hp18 hG hS => ?_)
        have hG : zP E G H := hp18.2 ▸ hG
        refine zr_some (a := qs i) (hp18.1.trans hri.1) ?_
        refine zg_castY hx hb hown (hts _ w_608) hK hG hri.2 rfl (zN.at hN (w := .castable "ZoneAnswers$Rrset" "ZoneAnswers$Rrset") (by decide +kernel)) d_Ow_find_21 ?_
        refine zg_get (ci := 5) (C := "ZoneAnswers$Rrset") (T := T_Rr) (N := 3) hx hb hts zi_Rr hown hK hG hri.2 rfl 0 (by decide) (hts _ w_617) (fun _ h9 => h9) rfl d_Ow_find_24 ?_
        refine lv_iload_n hx hb d_Ow_find_27 rfl (lv_at hl 1 rfl) ?_
        refine lv_icmp_ne (tgt := 43) hx hb d_Ow_find_28 (by decide) (fun c28 => ?_) (fun c28 => ?_)
        · refine lv_iinc (v := nI (i + 1)) (lv' := [(2, .int (nI (i + 1))), (0, .ref a), (1, .int t)]) hx hb d_Ow_find_43 hl (k := 2) rfl (nI_add i 1) (by decide) rfl (fun ls hl => ?_)
          refine lv_goto (tgt := 2) hx hb d_Ow_find_46 (by decide) ?_
          exact ih (i + 1) _ _ (by omega) (by omega) (fun j hj => by rcases Nat.lt_or_ge j i with q | q; exact hq j q; rw [show j = i by omega]; exact c28) hG hS ls (lv_sub hl [1, 2, 0] rfl)
        · refine lv_aload_n hx hb d_Ow_find_31 rfl (lv_at hl 0 rfl) ?_
          refine zg_get (ci := 4) (C := "ZoneAnswers$Owner") (T := T_Ow) (N := 3) hx hb hts zi_Ow hown hK hG ha rfl 1 (by decide) (hts _ w_207) (fun _ h9 => h9) rfl d_Ow_find_32 ?_
          refine lv_iload_n hx hb d_Ow_find_35 rfl (lv_at hl 2 rfl) ?_
          have hGo36 := hG
          refine zk_q (va_runV (As := [.int (nI i)]) (rest := []) ⟨hx, hb, hml, hown, hts⟩ (t_AL_get l E G la dd n cap k f hla hd hc hz i (by omega)) (zcV 1 hts w_607 w_164 w_165 w_6 w_166 (by decide +kernel) ⟨Nat.le_of_ble_eq_true rfl, Nat.le_of_ble_eq_true rfl⟩) (zc_preV hbase hK hN hQ hG hS hla rfl) rfl rfl hl.1 rfl (lv_room (Nat.le_of_ble_eq_true rfl)) d_Ow_find_36 ⟨(by decide), (by decide)⟩) hS (fun r36 G36 H locs hp36 hG hS => ?_)
          have hG : zP E G H := hp36.2 ▸ hG
          refine zr_some (a := qs i) (hp36.1.trans hri.1) ?_
          refine zg_castY hx hb hown (hts _ w_608) hK hG hri.2 rfl (zN.at hN (w := .castable "ZoneAnswers$Rrset" "ZoneAnswers$Rrset") (by decide +kernel)) d_Ow_find_39 ?_
          exact hret (some (qs i)) _ _ _ _ _ _ _ _ hr (Or.inl ⟨_, rfl⟩) (⟨Or.inl ⟨i, by omega, c28, hq, rfl⟩, rfl⟩) hG hS (Nat.le_refl _) (Nat.le_refl _) d_Ow_find_42
  exact loop2 _ 0 _ _ (Nat.lt_succ_self _) (Nat.zero_le _) (fun j h => absurd h (Nat.not_lt_zero j)) hG hS ls (lv_sub hl [1, 2, 0] rfl)
