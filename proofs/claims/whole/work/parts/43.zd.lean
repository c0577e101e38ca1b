theorem t_Zo_isAt_u (l : Launch) (E : zc_E) (G : zg_G) (a la tn st sd : Nat) (rc : Int32) (ha : G a = some (.inr (9, [.ref la, .ref tn, .ref st, .ref sd, .int rc]))) (dd n cap : Nat) (k : Int32) (f : Nat → Option Nat) (hla : G la = some (.inr (0, [.ref dd, .int (nI n), .int k]))) (hd : G dd = some (.inl (E.2.1 3, cap, .inr (.inr (.inr (.inr f)))))) (hc : n ≤ cap) (hz : cap < 2 ^ 24) (ow na se bt : Nat → Nat) (cu : Nat → Option Nat) (nm : Nat → np_N) (nf : Nat → Nat → Int32) (how : ∀ i, i < n → f i = some (ow i) ∧ G (ow i) = some (.inr (4, [.ref (na i), .ref (se i), va_rf (cu i)])) ∧ G (na i) = some (.inr (3, [.ref (bt i), .int (nI (nm i).length)])) ∧ G (bt i) = some (.inl (E.2.1 0, np_len (nm i), .inl (nf i))) ∧ np_f (nm i) (nf i) ∧ np_g (nm i) ∧ sb_Fit (nf i)) (hso : ∀ i j, i < j → j < n → nk_d (zky (nm i)) (zky (nm j)) < 0) (a1 b1 : Nat) (ls1 : np_N) (f1 : Nat → Int32) (ha1 : G a1 = some (.inr (3, [.ref b1, .int (nI ls1.length)]))) (hb1 : G b1 = some (.inl (E.2.1 0, np_len ls1, .inl f1))) (hf1 : np_f ls1 f1) (hg1 : np_g ls1) (i : Nat) (hi : i ≤ n) : zMi l E y_Zo_isAt c_Zo_isAt 3 (some .boolean) rm_Zo_isAt [.ref a, .int (nI i), .ref a1] G (fun r G2 => zb r (i < n ∧ nm i = ls1) ∧ G2 = G) := by
  rcases Nat.lt_or_ge i n with h | h
  · have w := how i h
    exact (t_Zo_isAt l E G a la tn st sd rc ha dd n cap k f hla hd hc hz i (ow i) (se i) (cu i) h w.1 (na i) (bt i) (nm i) (nf i) w.2.2.1 w.2.2.2.1 w.2.2.2.2.1 w.2.2.2.2.2.1 a1 b1 ls1 f1 ha1 hb1 hf1 hg1 w.2.1).imp (fun r G' q => ⟨q.1.iff ⟨fun z => ⟨h, z⟩, fun z => z.2⟩, q.2⟩)
  · exact (t_Zo_isAt_e l E G a la tn st sd rc ha (.ref dd) k n hla i a1 h (by omega)).imp (fun r G' q => ⟨by rw [q.1]; exact zb.f (fun z => absurd z.1 (Nat.not_lt.mpr h)), q.2⟩)
theorem w_155 : (.methodLink "ZoneAnswers$Zone" 98 ⟨"ZoneAnswers$Zone", "place", "(LZoneAnswers$Name;)I"⟩ : Cond) ∈ zw := zw_at 155 (by decide +kernel) (by decide +kernel)
theorem w_157 : (.instanceMethod ⟨"ZoneAnswers$Zone", "place", "(LZoneAnswers$Name;)I"⟩ : Cond) ∈ zw := zw_at 157 (by decide +kernel) (by decide +kernel)
theorem w_158 : (.code ⟨"ZoneAnswers$Zone", "place", "(LZoneAnswers$Name;)I"⟩ prog_10_method_8_code 5 (some .int) : Cond) ∈ zw := zw_at 158 (by decide +kernel) (by decide +kernel)
theorem w_189 : (.methodLink "ZoneAnswers$Zone" 101 ⟨"ZoneAnswers$Zone", "isAt", "(ILZoneAnswers$Name;)Z"⟩ : Cond) ∈ zw := zw_at 189 (by decide +kernel) (by decide +kernel)
theorem w_191 : (.instanceMethod ⟨"ZoneAnswers$Zone", "isAt", "(ILZoneAnswers$Name;)Z"⟩ : Cond) ∈ zw := zw_at 191 (by decide +kernel) (by decide +kernel)
theorem w_192 : (.code ⟨"ZoneAnswers$Zone", "isAt", "(ILZoneAnswers$Name;)Z"⟩ prog_10_method_9_code 3 (some .boolean) : Cond) ∈ zw := zw_at 192 (by decide +kernel) (by decide +kernel)
theorem wp_0 : (.selects "ZoneAnswers$Zone" ⟨"ZoneAnswers$Zone", "place", "(LZoneAnswers$Name;)I"⟩ ⟨"ZoneAnswers$Zone", "place", "(LZoneAnswers$Name;)I"⟩ : Cond) ∈ zw := zw_pv 0 (y := ⟨"ZoneAnswers$Zone", "place", "(LZoneAnswers$Name;)I"⟩) rfl (by decide +kernel)
theorem wp_2 : (.selects "ZoneAnswers$Zone" ⟨"ZoneAnswers$Zone", "isAt", "(ILZoneAnswers$Name;)Z"⟩ ⟨"ZoneAnswers$Zone", "isAt", "(ILZoneAnswers$Name;)Z"⟩ : Cond) ∈ zw := zw_pv 2 (y := ⟨"ZoneAnswers$Zone", "isAt", "(ILZoneAnswers$Name;)Z"⟩) rfl (by decide +kernel)
abbrev c_Zo_at : ByteArray := prog_10_method_10_code
abbrev y_Zo_at : MethodName := ⟨"ZoneAnswers$Zone", "at", "(LZoneAnswers$Name;)LZoneAnswers$Owner;"⟩
theorem d_Zo_at_0 : decode c_Zo_at 0 = .ok (.aload_n 1, 1) := by decide +kernel
theorem d_Zo_at_1 : decode c_Zo_at 1 = .ok (.ifnonnull 5, 3) := by decide +kernel
theorem d_Zo_at_4 : decode c_Zo_at 4 = .ok (.aconst_null, 1) := by decide +kernel
theorem d_Zo_at_5 : decode c_Zo_at 5 = .ok (.areturn, 1) := by decide +kernel
theorem d_Zo_at_6 : decode c_Zo_at 6 = .ok (.aload_n 0, 1) := by decide +kernel
theorem d_Zo_at_7 : decode c_Zo_at 7 = .ok (.aload_n 1, 1) := by decide +kernel
theorem d_Zo_at_8 : decode c_Zo_at 8 = .ok (.invokevirtual 98, 3) := by decide +kernel
theorem d_Zo_at_11 : decode c_Zo_at 11 = .ok (.istore_n 2, 1) := by decide +kernel
theorem d_Zo_at_12 : decode c_Zo_at 12 = .ok (.aload_n 0, 1) := by decide +kernel
theorem d_Zo_at_13 : decode c_Zo_at 13 = .ok (.iload_n 2, 1) := by decide +kernel
theorem d_Zo_at_14 : decode c_Zo_at 14 = .ok (.aload_n 1, 1) := by decide +kernel
theorem d_Zo_at_15 : decode c_Zo_at 15 = .ok (.invokevirtual 101, 3) := by decide +kernel
theorem d_Zo_at_18 : decode c_Zo_at 18 = .ok (.ifCond .eq 17, 3) := by decide +kernel
theorem d_Zo_at_21 : decode c_Zo_at 21 = .ok (.aload_n 0, 1) := by decide +kernel
theorem d_Zo_at_22 : decode c_Zo_at 22 = .ok (.getfield 12, 3) := by decide +kernel
theorem d_Zo_at_25 : decode c_Zo_at 25 = .ok (.iload_n 2, 1) := by decide +kernel
theorem d_Zo_at_26 : decode c_Zo_at 26 = .ok (.invokevirtual 79, 3) := by decide +kernel
theorem d_Zo_at_29 : decode c_Zo_at 29 = .ok (.checkcast 83, 3) := by decide +kernel
theorem d_Zo_at_32 : decode c_Zo_at 32 = .ok (.goto 4, 3) := by decide +kernel
theorem d_Zo_at_35 : decode c_Zo_at 35 = .ok (.aconst_null, 1) := by decide +kernel
theorem d_Zo_at_36 : decode c_Zo_at 36 = .ok (.areturn, 1) := by decide +kernel
abbrev rm_Zo_at : Room := { frames := 4, cells := 0, slots := 0, locals := 130 }
set_option maxHeartbeats 4000000 in
set_option maxRecDepth 100000 in
/-- Zone.at(name) -/
theorem t_Zo_at (l : Launch) (E : zc_E) (G : zg_G) (a la tn st sd : Nat) (rc : Int32) (ha : G a = some (.inr (9, [.ref la, .ref tn, .ref st, .ref sd, .int rc]))) (dd n cap : Nat) (k : Int32) (f : Nat → Option Nat) (hla : G la = some (.inr (0, [.ref dd, .int (nI n), .int k]))) (hd : G dd = some (.inl (E.2.1 3, cap, .inr (.inr (.inr (.inr f)))))) (hc : n ≤ cap) (hz : cap < 2 ^ 24) (ow na se bt : Nat → Nat) (cu : Nat → Option Nat) (nm : Nat → np_N) (nf : Nat → Nat → Int32) (how : ∀ i, i < n → f i = some (ow i) ∧ G (ow i) = some (.inr (4, [.ref (na i), .ref (se i), va_rf (cu i)])) ∧ G (na i) = some (.inr (3, [.ref (bt i), .int (nI (nm i).length)])) ∧ G (bt i) = some (.inl (E.2.1 0, np_len (nm i), .inl (nf i))) ∧ np_f (nm i) (nf i) ∧ np_g (nm i) ∧ sb_Fit (nf i)) (hso : ∀ i j, i < j → j < n → nk_d (zky (nm i)) (zky (nm j)) < 0) (a1 b1 : Nat) (ls1 : np_N) (f1 : Nat → Int32) (ha1 : G a1 = some (.inr (3, [.ref b1, .int (nI ls1.length)]))) (hb1 : G b1 = some (.inl (E.2.1 0, np_len ls1, .inl f1))) (hf1 : np_f ls1 f1) (hg1 : np_g ls1) (hft1 : sb_Fit f1) : zMq l E y_Zo_at c_Zo_at 3 (some (.object "ZoneAnswers$Owner")) rm_Zo_at [.ref a, .ref a1] G (fun (r : Option Nat) (G2 : zg_G) => ((∃ i, i < n ∧ nm i = ls1 ∧ r = some (ow i)) ∨ ((∀ i, i < n → ¬ nm i = ls1) ∧ r = none)) ∧ G2 = G) := by
  refine zMq.of (by decide) (Nat.le_of_ble_eq_true rfl) ?_
  intro p e s m args below meth c Q hZ hG hret ls hl
  obtain ⟨hx, hb, hr, hts, hown, hlocks, hml, hnm, hbase, hK, hN, hQ⟩ := hZ
  have hl : lv_has ls 3 [(0, .ref a), (1, .ref a1)] := hl
  have hS : zg_S (zc_b E) s.heap s.heap [] := va_S.rf
  refine lv_aload_n hx hb d_Zo_at_0 rfl (lv_at hl 1 rfl) ?_
  refine lv_ifnonnull (tgt := 6) hx hb d_Zo_at_1 (by decide) ?_
  refine lv_aload_n hx hb d_Zo_at_6 rfl (lv_at hl 0 rfl) ?_
  refine lv_aload_n hx hb d_Zo_at_7 rfl (lv_at hl 1 rfl) ?_
  have hGo8 := hG
  refine zk_i (va_runV (As := [.ref a1]) (rest := []) ⟨hx, hb, hml, hown, hts⟩ (t_Zo_place l E G a la tn st sd rc ha dd n cap k f hla hd hc hz ow na se bt cu nm nf how hso a1 b1 ls1 f1 ha1 hb1 hf1 hg1 hft1) (zcV 1 hts w_155 w_157 wp_0 w_3 w_158 (by decide +kernel) ⟨Nat.le_of_ble_eq_true rfl, Nat.le_of_ble_eq_true rfl⟩) (zc_preV hbase hK hN hQ hG hS ha rfl) rfl rfl hl.1 rfl (lv_room (Nat.le_of_ble_eq_true rfl)) d_Zo_at_8 ⟨(by decide), (by decide)⟩) hS (fun r8 G8 H locs hp8 hG hS => ?_)
  obtain ⟨⟨k8, e8, hk1, hk2, hk3⟩, e9⟩ := hp8
  have hG : zP E G H := e9 ▸ hG
  refine zi_as (y := nI k8) e8 ?_
  refine lv_istore_n (lv' := [(2, .int (nI k8)), (0, .ref a), (1, .ref a1)]) hx hb d_Zo_at_11 rfl hl (by decide) rfl (fun ls hl => ?_)
  refine lv_aload_n hx hb d_Zo_at_12 rfl (lv_at hl 1 rfl) ?_
  refine lv_iload_n hx hb d_Zo_at_13 rfl (lv_at hl 0 rfl) ?_
  refine lv_aload_n hx hb d_Zo_at_14 rfl (lv_at hl 2 rfl) ?_
  refine zk_i (va_runV (As := [.int (nI k8), .ref a1]) (rest := []) ⟨hx, hb, hml, hown, hts⟩ (t_Zo_isAt_u l E G a la tn st sd rc ha dd n cap k f hla hd hc hz ow na se bt cu nm nf how hso a1 b1 ls1 f1 ha1 hb1 hf1 hg1 k8 hk1) (zcV 2 hts w_189 w_191 wp_2 w_3 w_192 (by decide +kernel) ⟨Nat.le_of_ble_eq_true rfl, Nat.le_of_ble_eq_true rfl⟩) (zc_preV hbase hK hN hQ hG hS ha rfl) rfl rfl hl.1 rfl (lv_room (Nat.le_of_ble_eq_true rfl)) d_Zo_at_15 ⟨(by decide), (by decide)⟩) hS (fun r15 G15 H locs hp15 hG hS => ?_)
  have hG : zP E G H := hp15.2 ▸ hG
  refine lv_if_eq (tgt := 35) hx hb d_Zo_at_18 (by decide) (fun c18 => ?_) (fun c18 => ?_)
  · have hno : ∀ i, i < n → ¬ nm i = ls1 := fun i h8 e8 => by
      have z0 : nk_d (zky (nm i)) (zky ls1) = 0 := by rw [e8]; exact nk_d_self _
      rcases Nat.lt_trichotomy i k8 with z | z | z
      · have := hk2 i z; omega
      · exact hp15.1.z c18 ⟨by omega, z ▸ e8⟩
      · have z2 := hso k8 i z h8
        rw [e8] at z2
        exact hk3 k8 (Nat.le_refl _) (by omega) z2
    refine lv_null hx hb d_Zo_at_35 ?_
    exact hret none _ _ _ _ _ _ _ _ hr (Or.inl ⟨_, rfl⟩) (⟨Or.inr ⟨hno, rfl⟩, rfl⟩) hG hS (Nat.le_refl _) (Nat.le_refl _) d_Zo_at_36
  · have hat := hp15.1.nz c18
    have hmi := how k8 hat.1
    refine lv_aload_n hx hb d_Zo_at_21 rfl (lv_at hl 1 rfl) ?_
    refine zg_get (ci := 9) (C := "ZoneAnswers$Zone") (T := T_Zo) (N := 5) hx hb hts zi_Zo hown hK hG ha rfl 0 (by decide) (hts _ w_91) (fun _ h9 => h9) rfl d_Zo_at_22 ?_
    refine lv_iload_n hx hb d_Zo_at_25 rfl (lv_at hl 0 rfl) ?_
    have hGo26 := hG
    refine zk_q (va_runV (As := [.int (nI k8)]) (rest := []) ⟨hx, hb, hml, hown, hts⟩ (t_AL_get l E G la dd n cap k f hla hd hc hz k8 hat.1) (zcV 1 hts w_163 w_164 w_165 w_6 w_166 (by decide +kernel) ⟨Nat.le_of_ble_eq_true rfl, Nat.le_of_ble_eq_true rfl⟩) (zc_preV hbase hK hN hQ hG hS hla rfl) rfl rfl hl.1 rfl (lv_room (Nat.le_of_ble_eq_true rfl)) d_Zo_at_26 ⟨(by decide), (by decide)⟩) hS (fun r26 G26 H locs hp26 hG hS => ?_)
    have hG : zP E G H := hp26.2 ▸ hG
    refine zr_some (a := ow k8) (hp26.1.trans hmi.1) ?_
    refine zg_castY hx hb hown (hts _ w_177) hK hG hmi.2.1 rfl (zN.at hN (w := .castable "ZoneAnswers$Owner" "ZoneAnswers$Owner") (by decide +kernel)) d_Zo_at_29 ?_
    refine lv_goto (tgt := 36) hx hb d_Zo_at_32 (by decide) ?_
    exact hret (some (ow k8)) _ _ _ _ _ _ _ _ hr (Or.inl ⟨_, rfl⟩) (⟨Or.inl ⟨k8, hat.1, hat.2, rfl⟩, rfl⟩) hG hS (Nat.le_refl _) (Nat.le_refl _) d_Zo_at_36
