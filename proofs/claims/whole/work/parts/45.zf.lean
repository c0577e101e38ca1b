theorem w_143 : (.fieldLink "ZoneAnswers$Rrset" 43 "ZoneAnswers$Datum" "target" "LZoneAnswers$Name;" : Cond) ∈ zw := zw_at 143 (by decide +kernel) (by decide +kernel)
theorem w_893 : (.methodLink "ZoneAnswers$Rrset" 27 ⟨"java/util/ArrayList", "get", "(I)Ljava/lang/Object;"⟩ : Cond) ∈ zw := zw_at 893 (by decide +kernel) (by decide +kernel)
theorem w_894 : (.classLink "ZoneAnswers$Rrset" 31 "ZoneAnswers$Datum" : Cond) ∈ zw := zw_at 894 (by decide +kernel) (by decide +kernel)
theorem w_972 : (.instanceMethod ⟨"java/util/ArrayList", "isEmpty", "()Z"⟩ : Cond) ∈ zw := zw_at 972 (by decide +kernel) (by decide +kernel)
theorem w_973 : (.selects "java/util/ArrayList" ⟨"java/util/ArrayList", "isEmpty", "()Z"⟩ ⟨"java/util/ArrayList", "isEmpty", "()Z"⟩ : Cond) ∈ zw := zw_at 973 (by decide +kernel) (by decide +kernel)
theorem w_974 : (.code ⟨"java/util/ArrayList", "isEmpty", "()Z"⟩ prog_35_method_9_code 1 (some .boolean) : Cond) ∈ zw := zw_at 974 (by decide +kernel) (by decide +kernel)
theorem w_1183 : (.methodLink "ZoneAnswers$Rrset" 39 ⟨"java/util/ArrayList", "isEmpty", "()Z"⟩ : Cond) ∈ zw := zw_at 1183 (by decide +kernel) (by decide +kernel)
abbrev c_Rr_firstTarget : ByteArray := prog_6_method_4_code
abbrev y_Rr_firstTarget : MethodName := ⟨"ZoneAnswers$Rrset", "firstTarget", "()LZoneAnswers$Name;"⟩
theorem d_Rr_firstTarget_0 : decode c_Rr_firstTarget 0 = .ok (.aload_n 0, 1) := by decide +kernel
theorem d_Rr_firstTarget_1 : decode c_Rr_firstTarget 1 = .ok (.getfield 19, 3) := by decide +kernel
theorem d_Rr_firstTarget_4 : decode c_Rr_firstTarget 4 = .ok (.invokevirtual 39, 3) := by decide +kernel
theorem d_Rr_firstTarget_7 : decode c_Rr_firstTarget 7 = .ok (.ifCond .eq 7, 3) := by decide +kernel
theorem d_Rr_firstTarget_10 : decode c_Rr_firstTarget 10 = .ok (.aconst_null, 1) := by decide +kernel
theorem d_Rr_firstTarget_11 : decode c_Rr_firstTarget 11 = .ok (.goto 17, 3) := by decide +kernel
theorem d_Rr_firstTarget_14 : decode c_Rr_firstTarget 14 = .ok (.aload_n 0, 1) := by decide +kernel
theorem d_Rr_firstTarget_15 : decode c_Rr_firstTarget 15 = .ok (.getfield 19, 3) := by decide +kernel
theorem d_Rr_firstTarget_18 : decode c_Rr_firstTarget 18 = .ok (.iconst 0, 1) := by decide +kernel
theorem d_Rr_firstTarget_19 : decode c_Rr_firstTarget 19 = .ok (.invokevirtual 27, 3) := by decide +kernel
theorem d_Rr_firstTarget_22 : decode c_Rr_firstTarget 22 = .ok (.checkcast 31, 3) := by decide +kernel
theorem d_Rr_firstTarget_25 : decode c_Rr_firstTarget 25 = .ok (.getfield 43, 3) := by decide +kernel
theorem d_Rr_firstTarget_28 : decode c_Rr_firstTarget 28 = .ok (.areturn, 1) := by decide +kernel
abbrev rm_Rr_firstTarget : Room := { frames := 3, cells := 0, slots := 0, locals := 80 }
set_option maxHeartbeats 4000000 in
set_option maxRecDepth 100000 in
/-- Rrset.firstTarget(), of a set with data -/
theorem t_Rr_firstTarget (l : Launch) (E : zc_E) (G : zg_G) (a la : Nat) (t u : Int32) (ha : G a = some (.inr (5, [.int t, .int u, .ref la]))) (dd n cap : Nat) (k : Int32) (f : Nat → Option Nat) (hla : G la = some (.inr (0, [.ref dd, .int (nI n), .int k]))) (hd : G dd = some (.inl (E.2.1 3, cap, .inr (.inr (.inr (.inr f)))))) (hc : n ≤ cap) (hz : cap < 2 ^ 24) (q0 bd : Nat) (tg : Option Nat) (hn : 0 < n) (hfi : f 0 = some q0) (hq0 : G q0 = some (.inr (2, [.ref bd, va_rf tg]))) : zMq l E y_Rr_firstTarget c_Rr_firstTarget 1 (some (.object "ZoneAnswers$Name")) rm_Rr_firstTarget [.ref a] G (fun (r : Option Nat) (G2 : zg_G) => r = tg ∧ G2 = G) := by
  refine zMq.of (by decide) (Nat.le_of_ble_eq_true rfl) ?_
  intro p e s m args below meth c Q hZ hG hret ls hl
  obtain ⟨hx, hb, hr, hts, hown, hlocks, hml, hnm, hbase, hK, hN, hQ⟩ := hZ
  have hl : lv_has ls 1 [(0, .ref a)] := hl
  have hS : zg_S (zc_b E) s.heap s.heap [] := va_S.rf
  refine lv_aload_n hx hb d_Rr_firstTarget_0 rfl (lv_at hl 0 rfl) ?_
  refine zg_get (ci := 5) (C := "ZoneAnswers$Rrset") (T := T_Rr) (N := 3) hx hb hts zi_Rr hown hK hG ha rfl 2 (by decide) (hts _ w_625) (fun _ h9 => h9) rfl d_Rr_firstTarget_1 ?_
  refine zk_i (va_runV (As := []) (rest := []) ⟨hx, hb, hml, hown, hts⟩ (t_AL_isEmpty l E G la (.ref dd) (nI n) k hla) (zcV 0 hts w_1183 w_972 w_973 w_6 w_974 (by decide +kernel) ⟨Nat.le_of_ble_eq_true rfl, Nat.le_of_ble_eq_true rfl⟩) (zc_preV hbase hK hN hQ hG hS hla rfl) rfl rfl hl.1 rfl (lv_room (Nat.le_of_ble_eq_true rfl)) d_Rr_firstTarget_4 ⟨(by decide), (by decide)⟩) hS (fun r4 G4 H locs hp4 hG hS => ?_)
  have hG : zP E G H := hp4.2 ▸ hG
  refine zi_as (y := if nI n = 0 then 1 else 0) hp4.1 ?_
  refine lv_if_eq (tgt := 14) hx hb d_Rr_firstTarget_7 (by decide) (fun c7 => ?_) (fun c7 => ?_)
  · refine lv_aload_n hx hb d_Rr_firstTarget_14 rfl (lv_at hl 0 rfl) ?_
    refine zg_get (ci := 5) (C := "ZoneAnswers$Rrset") (T := T_Rr) (N := 3) hx hb hts zi_Rr hown hK hG ha rfl 2 (by decide) (hts _ w_625) (fun _ h9 => h9) rfl d_Rr_firstTarget_15 ?_
    refine lv_iconst (v := 0) hx hb d_Rr_firstTarget_18 (by decide) ?_
    refine zi_as (y := nI 0) (nI_0.symm) ?_
    have hGo19 := hG
    refine zk_q (va_runV (As := [.int (nI 0)]) (rest := []) ⟨hx, hb, hml, hown, hts⟩ (t_AL_get l E G la dd n cap k f hla hd hc hz 0 hn) (zcV 1 hts w_893 w_164 w_165 w_6 w_166 (by decide +kernel) ⟨Nat.le_of_ble_eq_true rfl, Nat.le_of_ble_eq_true rfl⟩) (zc_preV hbase hK hN hQ hG hS hla rfl) rfl rfl hl.1 rfl (lv_room (Nat.le_of_ble_eq_true rfl)) d_Rr_firstTarget_19 ⟨(by decide), (by decide)⟩) hS (fun r19 G19 H locs hp19 hG hS => ?_)
    have hG : zP E G H := hp19.2 ▸ hG
    refine zr_some (a := q0) (hp19.1.trans hfi) ?_
    refine zg_castY hx hb hown (hts _ w_894) hK hG hq0 rfl (zN.at hN (w := .castable "ZoneAnswers$Datum" "ZoneAnswers$Datum") (by decide +kernel)) d_Rr_firstTarget_22 ?_
    refine zg_get (ci := 2) (C := "ZoneAnswers$Datum") (T := T_Da) (N := 2) hx hb hts zi_Da hown hK hG hq0 rfl 1 (by decide) (hts _ w_143) (fun _ h9 => h9) rfl d_Rr_firstTarget_25 ?_
    exact hret tg _ _ _ _ _ _ _ _ hr (Or.inl ⟨_, rfl⟩) (⟨rfl, rfl⟩) hG hS (Nat.le_refl _) (Nat.le_refl _) d_Rr_firstTarget_28
  · exact absurd (if_neg (nI_ne0 hn (by omega))) c7
