theorem w_1038 : (.classLink "ZoneAnswers$Section" 27 "ZoneAnswers$Told" : Cond) ∈ zw := zw_at 1038 (by decide +kernel) (by decide +kernel)
theorem w_1040 : (.methodLink "ZoneAnswers$Section" 23 ⟨"java/util/ArrayList", "get", "(I)Ljava/lang/Object;"⟩ : Cond) ∈ zw := zw_at 1040 (by decide +kernel) (by decide +kernel)
abbrev c_Se_row : ByteArray := prog_7_method_4_code
abbrev y_Se_row : MethodName := ⟨"ZoneAnswers$Section", "row", "(I)LZoneAnswers$Told;"⟩
theorem d_Se_row_0 : decode c_Se_row 0 = .ok (.iload_n 1, 1) := by decide +kernel
theorem d_Se_row_1 : decode c_Se_row 1 = .ok (.ifCond .lt 28, 3) := by decide +kernel
theorem d_Se_row_4 : decode c_Se_row 4 = .ok (.iload_n 1, 1) := by decide +kernel
theorem d_Se_row_5 : decode c_Se_row 5 = .ok (.aload_n 0, 1) := by decide +kernel
theorem d_Se_row_6 : decode c_Se_row 6 = .ok (.getfield 10, 3) := by decide +kernel
theorem d_Se_row_9 : decode c_Se_row 9 = .ok (.invokevirtual 19, 3) := by decide +kernel
theorem d_Se_row_12 : decode c_Se_row 12 = .ok (.if_icmp .ge 17, 3) := by decide +kernel
theorem d_Se_row_15 : decode c_Se_row 15 = .ok (.aload_n 0, 1) := by decide +kernel
theorem d_Se_row_16 : decode c_Se_row 16 = .ok (.getfield 10, 3) := by decide +kernel
theorem d_Se_row_19 : decode c_Se_row 19 = .ok (.iload_n 1, 1) := by decide +kernel
theorem d_Se_row_20 : decode c_Se_row 20 = .ok (.invokevirtual 23, 3) := by decide +kernel
theorem d_Se_row_23 : decode c_Se_row 23 = .ok (.checkcast 27, 3) := by decide +kernel
theorem d_Se_row_26 : decode c_Se_row 26 = .ok (.goto 4, 3) := by decide +kernel
theorem d_Se_row_29 : decode c_Se_row 29 = .ok (.aconst_null, 1) := by decide +kernel
theorem d_Se_row_30 : decode c_Se_row 30 = .ok (.areturn, 1) := by decide +kernel
abbrev rm_Se_row : Room := { frames := 3, cells := 0, slots := 0, locals := 80 }
set_option maxHeartbeats 4000000 in
set_option maxRecDepth 100000 in
/-- Section.row(x), of a list that has had a row -/
theorem t_Se_row (l : Launch) (E : zc_E) (G : zg_G) (a la : Nat) (ha : G a = some (.inr (6, [.ref la]))) (dd n cap : Nat) (k : Int32) (f : Nat → Option Nat) (hla : G la = some (.inr (0, [.ref dd, .int (nI n), .int k]))) (hd : G dd = some (.inl (E.2.1 3, cap, .inr (.inr (.inr (.inr f)))))) (hc : n ≤ cap) (hz : cap < 2 ^ 24) (qs na da : Nat → Nat) (ty ti : Nat → Int32) (hro : ∀ i, i < n → f i = some (qs i) ∧ G (qs i) = some (.inr (8, [.ref (na i), .int (ty i), .int (ti i), .ref (da i)]))) (x : Int32) : zMq l E y_Se_row c_Se_row 2 (some (.object "ZoneAnswers$Told")) rm_Se_row [.ref a, .int x] G (fun (r : Option Nat) (G2 : zg_G) => ((∃ j, j < n ∧ x = nI j ∧ r = some (qs j)) ∨ ((x < 0 ∨ nI n ≤ x) ∧ r = none)) ∧ G2 = G) := by
  refine zMq.of (by decide) (Nat.le_of_ble_eq_true rfl) ?_
  intro p e s m args below meth c Q hZ hG hret ls hl
  obtain ⟨hx, hb, hr, hts, hown, hlocks, hml, hnm, hbase, hK, hN, hQ⟩ := hZ
  have hl : lv_has ls 2 [(0, .ref a), (1, .int x)] := hl
  have hS : zg_S (zc_b E) s.heap s.heap [] := va_S.rf
  refine lv_iload_n hx hb d_Se_row_0 rfl (lv_at hl 1 rfl) ?_
  refine lv_if_lt (tgt := 29) hx hb d_Se_row_1 (by decide) (fun c1 => ?_) (fun c1 => ?_)
  · refine lv_null hx hb d_Se_row_29 ?_
    exact hret none _ _ _ _ _ _ _ _ hr (Or.inl ⟨_, rfl⟩) (⟨Or.inr ⟨by first | exact Or.inl c1 | exact Or.inr c12, rfl⟩, rfl⟩) hG hS (Nat.le_refl _) (Nat.le_refl _) d_Se_row_30
  · refine lv_iload_n hx hb d_Se_row_4 rfl (lv_at hl 1 rfl) ?_
    refine lv_aload_n hx hb d_Se_row_5 rfl (lv_at hl 0 rfl) ?_
    refine zg_get (ci := 6) (C := "ZoneAnswers$Section") (T := T_Se) (N := 1) hx hb hts zi_Se hown hK hG ha rfl 0 (by decide) (hts _ w_680) (fun _ h9 => h9) rfl d_Se_row_6 ?_
    refine zk_i (va_runV (As := []) (rest := [.int x]) ⟨hx, hb, hml, hown, hts⟩ (t_AL_size l E G la (.ref dd) (nI n) k hla) (zcV 0 hts w_1089 w_160 w_161 w_6 w_162 (by decide +kernel) ⟨Nat.le_of_ble_eq_true rfl, Nat.le_of_ble_eq_true rfl⟩) (zc_preV hbase hK hN hQ hG hS hla rfl) rfl rfl hl.1 rfl (lv_room (Nat.le_of_ble_eq_true rfl)) d_Se_row_9 ⟨(by decide), (by decide)⟩) hS (fun r9 G9 H locs hp9 hG hS => ?_)
    have hG : zP E G H := hp9.2 ▸ hG
    refine zi_as (y := nI n) hp9.1 ?_
    refine lv_icmp_ge (tgt := 29) hx hb d_Se_row_12 (by decide) (fun c12 => ?_) (fun c12 => ?_)
    · refine lv_null hx hb d_Se_row_29 ?_
      exact hret none _ _ _ _ _ _ _ _ hr (Or.inl ⟨_, rfl⟩) (⟨Or.inr ⟨by first | exact Or.inl c1 | exact Or.inr c12, rfl⟩, rfl⟩) hG hS (Nat.le_refl _) (Nat.le_refl _) d_Se_row_30
    · obtain ⟨j, hj0, ej⟩ := nI_of c1
      subst ej
      have hj : j < n := by
        rcases Nat.lt_or_ge j n with q | q
        · exact q
        · exact absurd ((nI_leI (a := n) (b := j) (by omega) (by omega)).mpr q) c12
      have hmi := hro j hj
      refine lv_aload_n hx hb d_Se_row_15 rfl (lv_at hl 0 rfl) ?_
      refine zg_get (ci := 6) (C := "ZoneAnswers$Section") (T := T_Se) (N := 1) hx hb hts zi_Se hown hK hG ha rfl 0 (by decide) (hts _ w_680) (fun _ h9 => h9) rfl d_Se_row_16 ?_
      refine lv_iload_n hx hb d_Se_row_19 rfl (lv_at hl 1 rfl) ?_
      have hGo20 := hG
      refine zk_q (va_runV (As := [.int (nI j)]) (rest := []) ⟨hx, hb, hml, hown, hts⟩ (t_AL_get l E G la dd n cap k f hla hd hc hz j hj) (zcV 1 hts w_1040 w_164 w_165 w_6 w_166 (by decide +kernel) ⟨Nat.le_of_ble_eq_true rfl, Nat.le_of_ble_eq_true rfl⟩) (zc_preV hbase hK hN hQ hG hS hla rfl) rfl rfl hl.1 rfl (lv_room (Nat.le_of_ble_eq_true rfl)) d_Se_row_20 ⟨(by decide), (by decide)⟩) hS (fun r20 G20 H locs hp20 hG hS => ?_)
      have hG : zP E G H := hp20.2 ▸ hG
      refine zr_some (a := qs j) (hp20.1.trans hmi.1) ?_
      refine zg_castY hx hb hown (hts _ w_1038) hK hG hmi.2 rfl (zN.at hN (w := .castable "ZoneAnswers$Told" "ZoneAnswers$Told") (by decide +kernel)) d_Se_row_23 ?_
      refine lv_goto (tgt := 30) hx hb d_Se_row_26 (by decide) ?_
      exact hret (some (qs j)) _ _ _ _ _ _ _ _ hr (Or.inl ⟨_, rfl⟩) (⟨Or.inl ⟨j, hj, rfl, rfl⟩, rfl⟩) hG hS (Nat.le_refl _) (Nat.le_refl _) d_Se_row_30
set_option maxHeartbeats 4000000 in
set_option maxRecDepth 100000 in
/-- Section.row(x), of a fresh list -/
theorem t_Se_row_e (l : Launch) (E : zc_E) (G : zg_G) (a la : Nat) (ha : G a = some (.inr (6, [.ref la]))) (dv : Value) (k : Int32) (hla : G la = some (.inr (0, [dv, .int 0, .int k]))) (x : Int32) : zMq l E y_Se_row c_Se_row 2 (some (.object "ZoneAnswers$Told")) rm_Se_row [.ref a, .int x] G (fun (r : Option Nat) (G2 : zg_G) => r = none ∧ G2 = G) := by
  refine zMq.of (by decide) (Nat.le_of_ble_eq_true rfl) ?_
  intro p e s m args below meth c Q hZ hG hret ls hl
  obtain ⟨hx, hb, hr, hts, hown, hlocks, hml, hnm, hbase, hK, hN, hQ⟩ := hZ
  have hl : lv_has ls 2 [(0, .ref a), (1, .int x)] := hl
  have hS : zg_S (zc_b E) s.heap s.heap [] := va_S.rf
  refine lv_iload_n hx hb d_Se_row_0 rfl (lv_at hl 1 rfl) ?_
  refine lv_if_lt (tgt := 29) hx hb d_Se_row_1 (by decide) (fun c1 => ?_) (fun c1 => ?_)
  · refine lv_null hx hb d_Se_row_29 ?_
    exact hret none _ _ _ _ _ _ _ _ hr (Or.inl ⟨_, rfl⟩) (⟨rfl, rfl⟩) hG hS (Nat.le_refl _) (Nat.le_refl _) d_Se_row_30
  · refine lv_iload_n hx hb d_Se_row_4 rfl (lv_at hl 1 rfl) ?_
    refine lv_aload_n hx hb d_Se_row_5 rfl (lv_at hl 0 rfl) ?_
    refine zg_get (ci := 6) (C := "ZoneAnswers$Section") (T := T_Se) (N := 1) hx hb hts zi_Se hown hK hG ha rfl 0 (by decide) (hts _ w_680) (fun _ h9 => h9) rfl d_Se_row_6 ?_
    refine zk_i (va_runV (As := []) (rest := [.int x]) ⟨hx, hb, hml, hown, hts⟩ (t_AL_size l E G la dv 0 k hla) (zcV 0 hts w_1089 w_160 w_161 w_6 w_162 (by decide +kernel) ⟨Nat.le_of_ble_eq_true rfl, Nat.le_of_ble_eq_true rfl⟩) (zc_preV hbase hK hN hQ hG hS hla rfl) rfl rfl hl.1 rfl (lv_room (Nat.le_of_ble_eq_true rfl)) d_Se_row_9 ⟨(by decide), (by decide)⟩) hS (fun r9 G9 H locs hp9 hG hS => ?_)
    have hG : zP E G H := hp9.2 ▸ hG
    refine zi_as (y := 0) hp9.1 ?_
    refine lv_icmp_ge (tgt := 29) hx hb d_Se_row_12 (by decide) (fun c12 => ?_) (fun c12 => ?_)
    · refine lv_null hx hb d_Se_row_29 ?_
      exact hret none _ _ _ _ _ _ _ _ hr (Or.inl ⟨_, rfl⟩) (⟨rfl, rfl⟩) hG hS (Nat.le_refl _) (Nat.le_refl _) d_Se_row_30
    · exact absurd (Int32.not_lt.mp c1) c12
