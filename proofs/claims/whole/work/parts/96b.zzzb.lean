/-- the room of an answering, whatever the rows' sizes were -/
def zPm (os : List zOt) (W : zW) : Nat := 12 * (W.1.length + W.2.1.length + W.2.2.length) + 120 + zL47 os W.2.1
theorem zcp_bd (c n : Nat) : zcp c n ≤ c + (2 * n + 10) := by
  have := zcp_le c n
  omega
theorem zPm_le (os : List zOt) (k : Nat → Nat) (W : zW) : zPh os k W - zPh os k ([], [], []) ≤ zPm os W := by
  have h1 := zcp_bd (k 8) W.1.length
  have h2 := zcp_bd (k 9) W.2.1.length
  have h3 := zcp_bd (k 10) W.2.2.length
  have e : zPh os k ([], [], []) = 4 * (k 8 + k 9 + k 10) := by
    show 4 * (0 + 0 + 0) + 4 * (zcp (k 8) 0 + zcp (k 9) 0 + zcp (k 10) 0) + 0 = _
    show 4 * (0 + 0 + 0) + 4 * (k 8 + k 9 + k 10) + 0 = _
    omega
  rw [e]
  unfold zPh zPm
  omega
theorem zPc_0 : zPc ([], [], []) = 0 := rfl
theorem vask_n {V : zVt} {top x : np_N} {sec : Bool} {t : Int32} (h : ¬ top <:+ x) : vask V top sec t x = (5, [], [], []) := zif_y h
theorem vask_y {V : zVt} {top x : np_N} {sec : Bool} {t : Int32} (h : top <:+ x) : vask V top sec t x = ((vfo V top sec t 9 ([], [], []) x).1, (vfo V top sec t 9 ([], [], []) x).2.1.foldl (vam V top) (vfo V top sec t 9 ([], [], []) x).2) := zif_n (fun z => z h)
theorem zPm_mono {os : List zOt} {W X : zW} (h : zLe W X) : zPm os W ≤ zPm os X := by
  obtain ⟨h1, h2, h3⟩ := h
  have l1 := h1.length_le
  have l2 := h2.length_le
  have l3 := h3.length_le
  have b : zL47 os W.2.1 ≤ zL47 os X.2.1 := by
    obtain ⟨M, e⟩ := h2
    rw [← e, zL47_app]; omega
  unfold zPm
  omega
theorem w_1008 : (.methodLink "ZoneAnswers" 155 ⟨"ZoneAnswers$Answer", "begin", "(IZ)V"⟩ : Cond) ∈ zw := zw_at 1008 (by decide +kernel) (by decide +kernel)
theorem w_1009 : (.instanceMethod ⟨"ZoneAnswers$Answer", "begin", "(IZ)V"⟩ : Cond) ∈ zw := zw_at 1009 (by decide +kernel) (by decide +kernel)
theorem w_1010 : (.selects "ZoneAnswers$Answer" ⟨"ZoneAnswers$Answer", "begin", "(IZ)V"⟩ ⟨"ZoneAnswers$Answer", "begin", "(IZ)V"⟩ : Cond) ∈ zw := zw_at 1010 (by decide +kernel) (by decide +kernel)
theorem w_1011 : (.code ⟨"ZoneAnswers$Answer", "begin", "(IZ)V"⟩ prog_2_method_3_code 3 none : Cond) ∈ zw := zw_at 1011 (by decide +kernel) (by decide +kernel)
theorem w_1017 : (.methodLink "ZoneAnswers" 158 ⟨"ZoneAnswers$Answer", "follow", "(LZoneAnswers$Name;)I"⟩ : Cond) ∈ zw := zw_at 1017 (by decide +kernel) (by decide +kernel)
theorem w_1018 : (.instanceMethod ⟨"ZoneAnswers$Answer", "follow", "(LZoneAnswers$Name;)I"⟩ : Cond) ∈ zw := zw_at 1018 (by decide +kernel) (by decide +kernel)
theorem w_1019 : (.selects "ZoneAnswers$Answer" ⟨"ZoneAnswers$Answer", "follow", "(LZoneAnswers$Name;)I"⟩ ⟨"ZoneAnswers$Answer", "follow", "(LZoneAnswers$Name;)I"⟩ : Cond) ∈ zw := zw_at 1019 (by decide +kernel) (by decide +kernel)
theorem w_1020 : (.code ⟨"ZoneAnswers$Answer", "follow", "(LZoneAnswers$Name;)I"⟩ prog_2_method_4_code 10 (some .int) : Cond) ∈ zw := zw_at 1020 (by decide +kernel) (by decide +kernel)
theorem w_1184 : (.methodLink "ZoneAnswers" 162 ⟨"ZoneAnswers$Answer", "addAddresses", "()V"⟩ : Cond) ∈ zw := zw_at 1184 (by decide +kernel) (by decide +kernel)
theorem w_1185 : (.instanceMethod ⟨"ZoneAnswers$Answer", "addAddresses", "()V"⟩ : Cond) ∈ zw := zw_at 1185 (by decide +kernel) (by decide +kernel)
theorem w_1186 : (.selects "ZoneAnswers$Answer" ⟨"ZoneAnswers$Answer", "addAddresses", "()V"⟩ ⟨"ZoneAnswers$Answer", "addAddresses", "()V"⟩ : Cond) ∈ zw := zw_at 1186 (by decide +kernel) (by decide +kernel)
theorem w_1187 : (.code ⟨"ZoneAnswers$Answer", "addAddresses", "()V"⟩ prog_2_method_10_code 4 none : Cond) ∈ zw := zw_at 1187 (by decide +kernel) (by decide +kernel)

abbrev rm_ZA_ask (n0 c9 s9 : Nat) : Room := { frames := 15, cells := c9 + 10, slots := n0 + s9 + 20, locals := 540 }
set_option maxHeartbeats 4000000 in
set_option maxRecDepth 100000 in
/-- ask(type, secure) -/
theorem t_ZA_ask (l : Launch) (hoff : zl_off l) (E : zc_E) (G : zg_G) (k : Nat → Nat) (ro : zRo) (rc ty se : Int32) (os : List zOt) (top : np_N) (d1 d2 d3 : Nat) (t1 t2 t3 : List zTt) (b : Nat) (tp : List Int32) (hOb : zOb E G ro k rc ty se os top d1 d2 d3 t1 t2 t3 b tp) (hGZ : zGZ os top) (hdw : zdw os) (hdx : zdx os) (hrc : rc = nI (znr os)) (hzn : znr os < 2000) (t u : Int32) (hu : u = 0 ∨ u = 1) (c9 s9 : Nat) (hB9 : ¬ t < 1 → ¬ 65535 < t → ∀ ls, zTn tp ls → zB9 (vask (zV os) top (zscu u) t (np_low ls)).2 ∧ zPc (vask (zV os) top (zscu u) t (np_low ls)).2 + 20 ≤ c9 ∧ zPm os (vask (zV os) top (zscu u) t (np_low ls)).2 + 3000 ≤ s9) : zT l E y_ZA_ask c_ZA_ask 5 (some .int) (rm_ZA_ask tp.length c9 s9) [.ref (k 16), .int t, .int u] G (fun (v : Option Value) (G2 : zg_G) => ¬ t < 1 ∧ ¬ 65535 < t ∧ ∃ ro2 ls, zTn tp ls ∧ zOS E G2 ro2 (k 16) [] (zV os) top (znr os) (vask (zV os) top (zscu u) t (np_low ls)).2 ∧ zfr ro zKc G ro2 G2 ∧ v = some (.int (vask (zV os) top (zscu u) t (np_low ls)).1)) (fun cls => cls = "java/lang/IllegalArgumentException" ∧ (t < 1 ∨ 65535 < t ∨ ¬ ∃ ls, zTn tp ls)) := by
  refine zT.of (by decide) (Nat.le_of_ble_eq_true rfl) ?_
  intro p e s m args below meth c hZ hex hG ls hl
  obtain ⟨hx, hb, hr, hts, hown, hlocks, hml, hnm, hbase, hK, hN, hQ⟩ := hZ
  have hl : lv_has ls 5 [(0, .ref (k 16)), (1, .int t), (2, .int u)] := hl
  have hS : zg_S (zc_b E) s.heap s.heap [] := va_S.rf
  obtain ⟨hCx, hO1, hO2, hTp, hO3, hO4, hO5⟩ := id hOb
  obtain ⟨⟨hz1, hz2, hz3, hz4, hz5, soa, u9, hz6, hz7, hz8, hz9, hzA⟩, ⟨ha1, ha2, hs1, hs2, hs3⟩, hT1⟩ := id hCx
  obtain ⟨bo, fo, hno1, hno2, hno3, hno4, hno5, -⟩ := id hz4
  have hne : 0 < os.length := hGZ.2.2.1
  have hsz := hGZ.1.sz
  have hol : os.length ≤ 2000 := by have := hsz.1; omega
  have hso := hGZ.1.1
  have hE00 : G (E.2.2.2 0) = none := hQ.out hG
  have hl0 := zWt_l t1 t2 t3
  have hx0 : zx z0 G G := zx.rf
  refine lv_iload_n hx hb d_ZA_ask_0 rfl (lv_at hl 1 rfl) ?_
  refine lv_iconst (v := 1) hx hb d_ZA_ask_1 (by decide) ?_
  refine lv_icmp_lt (tgt := 18) hx hb d_ZA_ask_2 (by decide) (fun c2 => ?_) (fun c2 => ?_)
  · have hbad : t < 1 ∨ 65535 < t ∨ ¬ ∃ ls, zTn tp ls := Or.inl c2
    refine lv_null hx hb d_ZA_ask_18 ?_
    refine lv_astore_nN (lv' := [(3, .null), (0, .ref (k 16)), (1, .int t), (2, .int u)]) hx hb d_ZA_ask_19 rfl hl (by decide) rfl (fun ls hl => ?_)
    refine lv_aload_nN hx hb d_ZA_ask_20 rfl (lv_at hl 0 rfl) ?_
    refine lv_ifnonnullN hx hb d_ZA_ask_21 ?_
    exact zt_row (names := zt_up) (ic := 58) hoff hx hb (hml.trans hl.1.symm) hown hts hQ hex hlocks (zt_words hts hN hQ zt_iae) (by decide) (by decide) w_813 w_488 w_26 (⟨rfl, by first | exact hbad | exact Or.inr (Or.inr hnt)⟩) hG hS hbase (by clear hB9; dsimp only; omega) (by clear hB9; dsimp only; omega) (Nat.le_of_ble_eq_true rfl) (Nat.le_of_ble_eq_true rfl) d_ZA_ask_24 d_ZA_ask_27 d_ZA_ask_28 d_ZA_ask_31
  · refine lv_iload_n hx hb d_ZA_ask_5 rfl (lv_at hl 1 rfl) ?_
    refine lv_ldc hx hb hown (hts _ w_861) d_ZA_ask_6 ?_
    refine lv_icmp_gt (tgt := 18) hx hb d_ZA_ask_8 (by decide) (fun c8 => ?_) (fun c8 => ?_)
    · have hbad : t < 1 ∨ 65535 < t ∨ ¬ ∃ ls, zTn tp ls := Or.inr (Or.inl c8)
      refine lv_null hx hb d_ZA_ask_18 ?_
      refine lv_astore_nN (lv' := [(3, .null), (0, .ref (k 16)), (1, .int t), (2, .int u)]) hx hb d_ZA_ask_19 rfl hl (by decide) rfl (fun ls hl => ?_)
      refine lv_aload_nN hx hb d_ZA_ask_20 rfl (lv_at hl 0 rfl) ?_
      refine lv_ifnonnullN hx hb d_ZA_ask_21 ?_
      exact zt_row (names := zt_up) (ic := 58) hoff hx hb (hml.trans hl.1.symm) hown hts hQ hex hlocks (zt_words hts hN hQ zt_iae) (by decide) (by decide) w_813 w_488 w_26 (⟨rfl, by first | exact hbad | exact Or.inr (Or.inr hnt)⟩) hG hS hbase (by clear hB9; dsimp only; omega) (by clear hB9; dsimp only; omega) (Nat.le_of_ble_eq_true rfl) (Nat.le_of_ble_eq_true rfl) d_ZA_ask_24 d_ZA_ask_27 d_ZA_ask_28 d_ZA_ask_31
    · refine lv_aload_n hx hb d_ZA_ask_11 rfl (lv_at hl 0 rfl) ?_
      have hGo12 := hG
      refine zk_q (va_runV (As := []) (rest := []) ⟨hx, hb, hml, hown, hts⟩ (t_ZA_tapeName_b l E G (k 16) (k 17) (k 1) (k 0) b tp hO1 hTp hO5 (tp.length + 2) (Nat.le_refl _)) (zcV 0 hts w_991 w_993 wp_14 w_1 w_994 (by decide +kernel) ⟨Nat.le_of_ble_eq_true rfl, Nat.le_of_ble_eq_true rfl⟩) (zc_preV hbase hK hN hQ hG hS hO1 rfl) rfl rfl hl.1 rfl (lv_room (Nat.le_of_ble_eq_true rfl)) d_ZA_ask_12 ⟨(by clear hB9; dsimp only; omega), (by clear hB9; dsimp only; omega)⟩) hS (fun r12 G12 H locs hp12 hG hS => ?_)
      rcases hp12 with ⟨lsn, qn, hTn, ern, hxn, hNbn⟩ | ⟨ern, egn, hnt⟩
      · refine zr_some (a := qn) ern ?_
        obtain ⟨roN, hfN, hrN, hNqn⟩ := hNbn.nr hxn ro
        have hEN : G12 (E.2.2.2 0) = none := hQ.out hG
        have hObN := hOb.z hfN hE00 hEN
        obtain ⟨hCxN, hO1N, hO2N, hTpN, hO3N, hO4N, hO5N⟩ := id hObN
        obtain ⟨⟨hz1N, hz2N, hz3N, hz4N, hz5N, soaN, u9N, hz6N, hz7N, hz8N, hz9N, hzAN⟩, ⟨ha1N, ha2N, hs1N, hs2N, hs3N⟩, hT1N⟩ := id hCxN
        obtain ⟨boN, foN, hno1N, hno2N, hno3N, hno4N, hno5N, -⟩ := id hz4N
        obtain ⟨b_qnN, f_qnN, hq1_qnN, hq2_qnN, hq3_qnN, hq4_qnN, hq5_qnN, -⟩ := id hNqn
        refine lv_goto (tgt := 19) hx hb d_ZA_ask_15 (by decide) ?_
        refine lv_astore_n (lv' := [(3, .ref qn), (0, .ref (k 16)), (1, .int t), (2, .int u)]) hx hb d_ZA_ask_19 rfl hl (by decide) rfl (fun ls hl => ?_)
        refine lv_aload_n hx hb d_ZA_ask_20 rfl (lv_at hl 0 rfl) ?_
        refine lv_ifnonnull (tgt := 32) hx hb d_ZA_ask_21 (by decide) ?_
        refine lv_aload_n hx hb d_ZA_ask_32 rfl (lv_at hl 1 rfl) ?_
        refine zg_get (ci := 10) (C := "ZoneAnswers") (T := T_ZA) (N := 3) hx hb hts zi_ZA hown hK hG hO1N rfl 0 (by decide) (hts _ w_703) (fun _ h9 => h9) rfl d_ZA_ask_33 ?_
        refine lv_iconst (v := 0) hx hb d_ZA_ask_36 (by decide) ?_
        have hGo37 := hG
        refine zk_v (va_runV (As := [.int 0]) (rest := []) ⟨hx, hb, hml, hown, hts⟩ (t_Ta_cutTo l E G12 (k 17) b (nI tp.length) hTpN.1 0) (zcV 1 hts w_818 w_819 w_820 w_2 w_821 (by decide +kernel) ⟨Nat.le_of_ble_eq_true rfl, Nat.le_of_ble_eq_true rfl⟩) (zc_preV hbase hK hN hQ hG hS hTpN.1 rfl) rfl rfl hl.1 rfl (lv_room (Nat.le_of_ble_eq_true rfl)) d_ZA_ask_37 ⟨(by clear hB9; dsimp only; omega), (by clear hB9; dsimp only; omega)⟩) hS (fun G37 H locs hp37 hG hS => ?_)
        have hEC : G37 (E.2.2.2 0) = none := hQ.out hG
        obtain ⟨hObC, hfC⟩ := hObN.cut hEN 0 (Nat.zero_le _) (by rw [show nI 0 = 0 from nI_0, ← hp37]; exact hEC)
        rw [show nI 0 = 0 from nI_0, ← hp37] at hObC hfC
        rw [List.take_zero] at hObC
        have hcnC := (zNR.fn hNqn).2.count
        obtain ⟨hCxC, hO1C, hO2C, hTpC, hO3C, hO4C, hO5C⟩ := id hObC
        obtain ⟨⟨hz1C, hz2C, hz3C, hz4C, hz5C, soaC, u9C, hz6C, hz7C, hz8C, hz9C, hzAC⟩, ⟨ha1C, ha2C, hs1C, hs2C, hs3C⟩, hT1C⟩ := id hCxC
        obtain ⟨boC, foC, hno1C, hno2C, hno3C, hno4C, hno5C, -⟩ := id hz4C
        have hN_qnC : zNR E G37 roN qn (np_low lsn) := hNqn.fr hfC zKc_0
        obtain ⟨b_qnC, f_qnC, hq1_qnC, hq2_qnC, hq3_qnC, hq4_qnC, hq5_qnC, -⟩ := id hN_qnC
        refine lv_aload_n hx hb d_ZA_ask_40 rfl (lv_at hl 1 rfl) ?_
        refine zg_get (ci := 10) (C := "ZoneAnswers") (T := T_ZA) (N := 3) hx hb hts zi_ZA hown hK hG hO1C rfl 2 (by decide) (hts _ w_705) (fun _ h9 => h9) rfl d_ZA_ask_41 ?_
        refine lv_iload_n hx hb d_ZA_ask_44 rfl (lv_at hl 2 rfl) ?_
        refine lv_iload_n hx hb d_ZA_ask_45 rfl (lv_at hl 3 rfl) ?_
        have hGo46 := hG
        refine zk_v (va_runV (As := [.int t, .int u]) (rest := []) ⟨hx, hb, hml, hown, hts⟩ (t_An_begin l E G37 k roN rc ty se os top d1 d2 d3 t1 t2 t3 hCxC hGZ hdw hzn t u hu) (zcV 2 hts w_1008 w_1009 w_1010 w_28 w_1011 (by decide +kernel) ⟨Nat.le_of_ble_eq_true rfl, Nat.le_of_ble_eq_true rfl⟩) (zc_preV hbase hK hN hQ hG hS ha1C rfl) rfl rfl hl.1 rfl (lv_room (Nat.le_of_ble_eq_true rfl)) d_ZA_ask_46 ⟨(by clear hB9; dsimp only; omega), (by clear hB9; dsimp only; omega)⟩) hS (fun G46 H locs hp46 hG hS => ?_)
        obtain ⟨k2, hk2, hC2, hf2⟩ := hp46
        have hE2 : G46 (E.2.2.2 0) = none := hQ.out hG
        have hN2 := hN_qnC.fr hf2 zKb_0
        have ha2 : G46 (k 0) = some (.inr (1, [.ref (k2 1), .ref (k2 2), .ref (k2 3), .ref (k2 4), .int t, .int u])) := by have q := hC2.2.1.1; rw [hk2 0 (by decide) (by decide) (by decide)] at q; exact q
        have hO12 : G46 (k 16) = some (.inr (10, [.ref (k 17), .ref (k 1), .ref (k 0)])) := (hf2 _ _ hO1C (by rw [hO2C]; exact zKb_0)).1
        have hB8 : zB9 (vfo (zV os) top (zscu u) t 9 ([], [], []) (np_low lsn)).2 ∧ zPc (vfo (zV os) top (zscu u) t 9 ([], [], []) (np_low lsn)).2 + 20 ≤ c9 ∧ zPm os (vfo (zV os) top (zscu u) t 9 ([], [], []) (np_low lsn)).2 + 3000 ≤ s9 := by
          by_cases z : top <:+ np_low lsn
          · have q := hB9 c2 c8 lsn hTn
            rw [vask_y z] at q
            have hle : zLe (vfo (zV os) top (zscu u) t 9 ([], [], []) (np_low lsn)).2 ((vfo (zV os) top (zscu u) t 9 ([], [], []) (np_low lsn)).2.1.foldl (vam (zV os) top) (vfo (zV os) top (zscu u) t 9 ([], [], []) (np_low lsn)).2) := vfold_le _ (fun W e => vam_le (zV os) top W e) _ _
            exact ⟨q.1.le hle, Nat.le_trans (Nat.add_le_add_right (zPc_le hle) 20) q.2.1, Nat.le_trans (Nat.add_le_add_right (zPm_mono hle) 3000) q.2.2⟩
          · have q := hB9 c2 c8 lsn hTn
            rw [vask_n z] at q
            have e9 : (vfo (zV os) top (zscu u) t 9 ([], [], []) (np_low lsn)) = (0, [], [], []) := vfo_out z
            rw [e9]; exact q
        have hfo := t_An_follow l E G46 k2 roN rc t u os top d1 d2 d3 [] [] [] hC2 hGZ hdw hzn qn (np_low lsn) hN2 hB8.1
        rw [hk2 0 (by decide) (by decide) (by decide), show zWt [] [] [] = (([], [], []) : zW) from rfl] at hfo
        have hz9 : zPc ([], [], []) = 0 := rfl
        have hpm := zPm_le os k2 (vfo (zV os) top (zscu u) t 9 ([], [], []) (np_low lsn)).2
        have hb81 := hB8.2.1
        have hb82 := hB8.2.2
        refine lv_aload_n hx hb d_ZA_ask_49 rfl (lv_at hl 1 rfl) ?_
        refine zg_get (ci := 10) (C := "ZoneAnswers") (T := T_ZA) (N := 3) hx hb hts zi_ZA hown hK hG hO12 rfl 2 (by decide) (hts _ w_705) (fun _ h9 => h9) rfl d_ZA_ask_50 ?_
        refine lv_aload_n hx hb d_ZA_ask_53 rfl (lv_at hl 0 rfl) ?_
        have hGo54 := hG
        refine zk_i (va_runV (As := [.ref qn]) (rest := []) ⟨hx, hb, hml, hown, hts⟩ (hfo) (zcV 1 hts w_1017 w_1018 w_1019 w_28 w_1020 (by decide +kernel) ⟨Nat.le_of_ble_eq_true rfl, Nat.le_of_ble_eq_true rfl⟩) (zc_preV hbase hK hN hQ hG hS ha2 rfl) rfl rfl hl.1 rfl (lv_room (Nat.le_of_ble_eq_true rfl)) d_ZA_ask_54 ⟨(by clear hB9; dsimp only; omega), (by clear hB9; dsimp only; omega)⟩) hS (fun r54 G54 H locs hp54 hG hS => ?_)
        obtain ⟨ro3, e1, e2, e3, v1, v2, v3, hC3, hf3, hr3⟩ := hp54
        have hE3 : G54 (E.2.2.2 0) = none := hQ.out hG
        have ha3 : G54 (k 0) = some (.inr (1, [.ref (k2 1), .ref (k2 2), .ref (k2 3), .ref (k2 4), .int t, .int u])) := by have q := hC3.2.1.1; rw [hk2 0 (by decide) (by decide) (by decide)] at q; exact q
        have hO13 : G54 (k 16) = some (.inr (10, [.ref (k 17), .ref (k 1), .ref (k 0)])) := (hf3 _ _ hO12 (by rw [hO2C]; exact zKa_0)).1
        obtain ⟨eA, eB⟩ : r54 = (vask (zV os) top (zscu u) t (np_low lsn)).1 ∧ (zWt v1 v2 v3).1.foldl (vam (zV os) top) (zWt v1 v2 v3) = (vask (zV os) top (zscu u) t (np_low lsn)).2 := by
          rcases hr3 with ⟨z, q1, q2⟩ | ⟨z, q1, q2⟩
          · rw [vask_n z, q2]; exact ⟨q1, rfl⟩
          · rw [vask_y z, q2]; exact ⟨q1, rfl⟩
        have eW : zWt v1 v2 v3 = (vfo (zV os) top (zscu u) t 9 ([], [], []) (np_low lsn)).2 := by
          rcases hr3 with ⟨z, q1, q2⟩ | ⟨z, q1, q2⟩
          · rw [q2, vfo_out z]
          · exact q2
        have hcp := congrArg zPc eW
        have hch := congrArg (zPh os k2) eW
        have hc3 := (hB9 c2 c8 lsn hTn).2.1
        have hc4 := (hB9 c2 c8 lsn hTn).2.2
        have hao := t_An_addAddresses l E G54 k2 ro3 rc t u os top e1 e2 e3 v1 v2 v3 hC3 hGZ hdw hzn (by rw [eB]; exact (hB9 c2 c8 lsn hTn).1)
        rw [hk2 0 (by decide) (by decide) (by decide), eB] at hao
        have hpm2 := zPm_le os k2 (vask (zV os) top (zscu u) t (np_low lsn)).2
        have hleX : zLe (zWt v1 v2 v3) (vask (zV os) top (zscu u) t (np_low lsn)).2 := by rw [← eB]; exact vfold_le _ (fun W e => vam_le (zV os) top W e) _ _
        have hpaX := zPh_le (os := os) (k := k2) hleX
        have hpdX := zPc_le hleX
        have hz0 : zPh os k2 ([], [], []) ≤ zPh os k2 (zWt v1 v2 v3) := zPh_le ⟨List.nil_prefix, List.nil_prefix, List.nil_prefix⟩
        refine zi_as (y := (vask (zV os) top (zscu u) t (np_low lsn)).1) eA ?_
        refine lv_istore (lv' := [(4, .int ((vask (zV os) top (zscu u) t (np_low lsn)).1)), (3, .ref qn), (0, .ref (k 16)), (1, .int t), (2, .int u)]) hx hb d_ZA_ask_57 hl (by decide) rfl (fun ls hl => ?_)
        refine lv_aload_n hx hb d_ZA_ask_59 rfl (lv_at hl 2 rfl) ?_
        refine zg_get (ci := 10) (C := "ZoneAnswers") (T := T_ZA) (N := 3) hx hb hts zi_ZA hown hK hG hO13 rfl 2 (by decide) (hts _ w_705) (fun _ h9 => h9) rfl d_ZA_ask_60 ?_
        have hGo63 := hG
        refine zk_v (va_runV (As := []) (rest := []) ⟨hx, hb, hml, hown, hts⟩ (hao) (zcV 0 hts w_1184 w_1185 w_1186 w_28 w_1187 (by decide +kernel) ⟨Nat.le_of_ble_eq_true rfl, Nat.le_of_ble_eq_true rfl⟩) (zc_preV hbase hK hN hQ hG hS ha3 rfl) rfl rfl hl.1 rfl (lv_room (Nat.le_of_ble_eq_true rfl)) d_ZA_ask_63 ⟨(by clear hB9; dsimp only; omega), (by clear hB9; dsimp only; omega)⟩) hS (fun G63 H locs hp63 hG hS => ?_)
        obtain ⟨ro4, g1, g2, g3, x1, x2, x3, hC4, hf4, hW4⟩ := hp63
        have hfA : zfr roN zKb G37 ro4 G63 := (hf2.tr (hf3.w (fun _ z => Or.inl z))).tr (hf4.w (fun _ z => Or.inl z))
        have hOb4 := hObC.fr (K := zKb) hC4 (hk2 0 (by decide) (by decide) (by decide)) (hk2 1 (by decide) (by decide) (by decide)) (hk2 16 (by decide) (by decide) (by decide)) (hk2 17 (by decide) (by decide) (by decide)) hfA zKb_0 ⟨by rintro (z | z) <;> simp [zKa] at z, by rintro (z | z) <;> simp [zKa] at z⟩
        have hst4 := hOb4.st hGZ hdw hdx hrc
        rw [hW4, (hk2 16 (by decide) (by decide) (by decide))] at hst4
        have hf9 : zfr ro zKc G ro4 G63 := ((hfN.w (fun _ z => z.elim)).tr hfC).tr (hfA.w zKc_b)
        refine lv_iload hx hb d_ZA_ask_66 (lv_at hl 0 rfl) ?_
        exact zt_iret hx hb hr hlocks (rfl) (⟨c2, c8, ro4, lsn, hTn, hst4, hf9, rfl⟩) hG hS (by clear hB9; dsimp only; omega) (by clear hB9; dsimp only; omega) d_ZA_ask_68
      · have hG : zP E G H := egn ▸ hG
        refine zr_none ern ?_
        refine lv_goto (tgt := 19) hx hb d_ZA_ask_15 (by decide) ?_
        refine lv_astore_nN (lv' := [(3, .null), (0, .ref (k 16)), (1, .int t), (2, .int u)]) hx hb d_ZA_ask_19 rfl hl (by decide) rfl (fun ls hl => ?_)
        refine lv_aload_nN hx hb d_ZA_ask_20 rfl (lv_at hl 0 rfl) ?_
        refine lv_ifnonnullN hx hb d_ZA_ask_21 ?_
        exact zt_row (names := zt_up) (ic := 58) hoff hx hb (hml.trans hl.1.symm) hown hts hQ hex hlocks (zt_words hts hN hQ zt_iae) (by decide) (by decide) w_813 w_488 w_26 (⟨rfl, by first | exact hbad | exact Or.inr (Or.inr hnt)⟩) hG hS hbase (by clear hB9; dsimp only; omega) (by clear hB9; dsimp only; omega) (Nat.le_of_ble_eq_true rfl) (Nat.le_of_ble_eq_true rfl) d_ZA_ask_24 d_ZA_ask_27 d_ZA_ask_28 d_ZA_ask_31
