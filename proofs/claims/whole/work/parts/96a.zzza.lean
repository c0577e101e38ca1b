theorem w_118 : (.fieldLink "ZoneAnswers" 203 "ZoneAnswers$Name" "labels" "I" : Cond) ∈ zw := zw_at 118 (by decide +kernel) (by decide +kernel)
theorem w_879 : (.methodLink "ZoneAnswers" 84 ⟨"ZoneAnswers$Zone", "at", "(LZoneAnswers$Name;)LZoneAnswers$Owner;"⟩ : Cond) ∈ zw := zw_at 879 (by decide +kernel) (by decide +kernel)
theorem w_1242 : (.methodLink "ZoneAnswers" 200 ⟨"ZoneAnswers$Zone", "depth", "(LZoneAnswers$Name;)I"⟩ : Cond) ∈ zw := zw_at 1242 (by decide +kernel) (by decide +kernel)
theorem w_1243 : (.methodLink "ZoneAnswers" 206 ⟨"ZoneAnswers$Owner", "isGivenAway", "()Z"⟩ : Cond) ∈ zw := zw_at 1243 (by decide +kernel) (by decide +kernel)
theorem w_1244 : (.methodLink "ZoneAnswers" 209 ⟨"ZoneAnswers$Owner", "isCut", "()Z"⟩ : Cond) ∈ zw := zw_at 1244 (by decide +kernel) (by decide +kernel)

abbrev rm_ZA_state (n0 : Nat) : Room := { frames := 8, cells := 3, slots := n0 + 10, locals := 200 }
set_option maxHeartbeats 4000000 in
set_option maxRecDepth 100000 in
/-- state() -/
theorem t_ZA_state (l : Launch) (hoff : zl_off l) (E : zc_E) (G : zg_G) (k : Nat → Nat) (ro : zRo) (rc ty se : Int32) (os : List zOt) (top : np_N) (d1 d2 d3 : Nat) (t1 t2 t3 : List zTt) (b : Nat) (tp : List Int32) (hOb : zOb E G ro k rc ty se os top d1 d2 d3 t1 t2 t3 b tp) (hGZ : zGZ os top) (hdw : zdw os) (hdx : zdx os) (hrc : rc = nI (znr os)) (hzn : znr os < 2000) : zT l E y_ZA_state c_ZA_state 3 (some .int) (rm_ZA_state tp.length) [.ref (k 16)] G (fun (v : Option Value) (G2 : zg_G) => ∃ ro2, zOS E G2 ro2 (k 16) [] (zV os) top (znr os) (zWt t1 t2 t3) ∧ zfr ro zKc G ro2 G2 ∧ ∃ ls, zTn tp ls ∧ v = some (.int (vstt (zV os) top (np_low ls)))) (fun cls => cls = "java/lang/IllegalArgumentException" ∧ ¬ ∃ ls, zTn tp ls) := by
  refine zT.of (by decide) (Nat.le_of_ble_eq_true rfl) ?_
  intro p e s m args below meth c hZ hex hG ls hl
  obtain ⟨hx, hb, hr, hts, hown, hlocks, hml, hnm, hbase, hK, hN, hQ⟩ := hZ
  have hl : lv_has ls 3 [(0, .ref (k 16))] := hl
  have hS : zg_S (zc_b E) s.heap s.heap [] := va_S.rf
  obtain ⟨hCx, hO1, hO2, hTp, hO3, hO4, hO5⟩ := id hOb
  obtain ⟨⟨hz1, hz2, hz3, hz4, hz5, soa, u9, hz6, hz7, hz8, hz9, hzA⟩, ⟨ha1, ha2, hs1, hs2, hs3⟩, hT1⟩ := id hCx
  obtain ⟨bo, fo, hno1, hno2, hno3, hno4, hno5, -⟩ := id hz4
  have hne : 0 < os.length := hGZ.2.2.1
  have hsz := hGZ.1.sz
  have hol : os.length ≤ 2000 := by have := hsz.1; omega
  have hso := hGZ.1.1
  have hE00 : G (E.2.2.2 0) = none := hQ.out hG
  have hl0 := zWt_l t1 t2 t3
  have hx0 : zx z0 G G := zx.rf
  refine lv_aload_n hx hb d_ZA_state_0 rfl (lv_at hl 0 rfl) ?_
  have hGo1 := hG
  refine zk_q (va_runV (As := []) (rest := []) ⟨hx, hb, hml, hown, hts⟩ (t_ZA_tapeName_b l E G (k 16) (k 17) (k 1) (k 0) b tp hO1 hTp hO5 (tp.length + 2) (Nat.le_refl _)) (zcV 0 hts w_991 w_993 wp_14 w_1 w_994 (by decide +kernel) ⟨Nat.le_of_ble_eq_true rfl, Nat.le_of_ble_eq_true rfl⟩) (zc_preV hbase hK hN hQ hG hS hO1 rfl) rfl rfl hl.1 rfl (lv_room (Nat.le_of_ble_eq_true rfl)) d_ZA_state_1 ⟨(by dsimp only; omega), (by dsimp only; omega)⟩) hS (fun r1 G1 H locs hp1 hG hS => ?_)
  rcases hp1 with ⟨lsn, qn, hTn, ern, hxn, hNbn⟩ | ⟨ern, egn, hnt⟩
  · refine zr_some (a := qn) ern ?_
    obtain ⟨roN, hfN, hrN, hNqn⟩ := hNbn.nr hxn ro
    have hEN : G1 (E.2.2.2 0) = none := hQ.out hG
    have hObN := hOb.z hfN hE00 hEN
    obtain ⟨hCxN, hO1N, hO2N, hTpN, hO3N, hO4N, hO5N⟩ := id hObN
    obtain ⟨⟨hz1N, hz2N, hz3N, hz4N, hz5N, soaN, u9N, hz6N, hz7N, hz8N, hz9N, hzAN⟩, ⟨ha1N, ha2N, hs1N, hs2N, hs3N⟩, hT1N⟩ := id hCxN
    obtain ⟨boN, foN, hno1N, hno2N, hno3N, hno4N, hno5N, -⟩ := id hz4N
    obtain ⟨b_qnN, f_qnN, hq1_qnN, hq2_qnN, hq3_qnN, hq4_qnN, hq5_qnN, -⟩ := id hNqn
    refine lv_astore_n (lv' := [(1, .ref qn), (0, .ref (k 16))]) hx hb d_ZA_state_4 rfl hl (by decide) rfl (fun ls hl => ?_)
    refine lv_aload_n hx hb d_ZA_state_5 rfl (lv_at hl 0 rfl) ?_
    refine lv_ifnonnull (tgt := 17) hx hb d_ZA_state_6 (by decide) ?_
    refine lv_aload_n hx hb d_ZA_state_17 rfl (lv_at hl 1 rfl) ?_
    refine zg_get (ci := 10) (C := "ZoneAnswers") (T := T_ZA) (N := 3) hx hb hts zi_ZA hown hK hG hO1N rfl 0 (by decide) (hts _ w_703) (fun _ h9 => h9) rfl d_ZA_state_18 ?_
    refine lv_iconst (v := 0) hx hb d_ZA_state_21 (by decide) ?_
    have hGo22 := hG
    refine zk_v (va_runV (As := [.int 0]) (rest := []) ⟨hx, hb, hml, hown, hts⟩ (t_Ta_cutTo l E G1 (k 17) b (nI tp.length) hTpN.1 0) (zcV 1 hts w_818 w_819 w_820 w_2 w_821 (by decide +kernel) ⟨Nat.le_of_ble_eq_true rfl, Nat.le_of_ble_eq_true rfl⟩) (zc_preV hbase hK hN hQ hG hS hTpN.1 rfl) rfl rfl hl.1 rfl (lv_room (Nat.le_of_ble_eq_true rfl)) d_ZA_state_22 ⟨(by dsimp only; omega), (by dsimp only; omega)⟩) hS (fun G22 H locs hp22 hG hS => ?_)
    have hEC : G22 (E.2.2.2 0) = none := hQ.out hG
    obtain ⟨hObC, hfC⟩ := hObN.cut hEN 0 (Nat.zero_le _) (by rw [show nI 0 = 0 from nI_0, ← hp22]; exact hEC)
    rw [show nI 0 = 0 from nI_0, ← hp22] at hObC hfC
    rw [List.take_zero] at hObC
    have hcnC := (zNR.fn hNqn).2.count
    obtain ⟨hCxC, hO1C, hO2C, hTpC, hO3C, hO4C, hO5C⟩ := id hObC
    obtain ⟨⟨hz1C, hz2C, hz3C, hz4C, hz5C, soaC, u9C, hz6C, hz7C, hz8C, hz9C, hzAC⟩, ⟨ha1C, ha2C, hs1C, hs2C, hs3C⟩, hT1C⟩ := id hCxC
    obtain ⟨boC, foC, hno1C, hno2C, hno3C, hno4C, hno5C, -⟩ := id hz4C
    have hN_qnC : zNR E G22 roN qn (np_low lsn) := hNqn.fr hfC zKc_0
    obtain ⟨b_qnC, f_qnC, hq1_qnC, hq2_qnC, hq3_qnC, hq4_qnC, hq5_qnC, -⟩ := id hN_qnC
    refine lv_aload_n hx hb d_ZA_state_25 rfl (lv_at hl 0 rfl) ?_
    refine lv_aload_n hx hb d_ZA_state_26 rfl (lv_at hl 1 rfl) ?_
    refine zg_get (ci := 10) (C := "ZoneAnswers") (T := T_ZA) (N := 3) hx hb hts zi_ZA hown hK hG hO1C rfl 1 (by decide) (hts _ w_704) (fun _ h9 => h9) rfl d_ZA_state_27 ?_
    refine zk_q (va_runV (As := []) (rest := [.ref qn]) ⟨hx, hb, hml, hown, hts⟩ (t_Zo_top l E G22 (k 1) (k 11) (k 12) (k 13) (k 14) rc hz1C) (zcV 0 hts w_874 w_875 w_876 w_3 w_877 (by decide +kernel) ⟨Nat.le_of_ble_eq_true rfl, Nat.le_of_ble_eq_true rfl⟩) (zc_preV hbase hK hN hQ hG hS hz1C rfl) rfl rfl hl.1 rfl (lv_room (Nat.le_of_ble_eq_true rfl)) d_ZA_state_30 ⟨(by dsimp only; omega), (by dsimp only; omega)⟩) hS (fun r30 G30 H locs hp30 hG hS => ?_)
    have hG : zP E G22 H := hp30.2 ▸ hG
    refine zr_some (a := k 12) hp30.1 ?_
    refine zk_i (va_runV (As := [.ref (k 12)]) (rest := []) ⟨hx, hb, hml, hown, hts⟩ (t_Na_isAtOrBelow l E G22 qn b_qnC (np_low lsn) f_qnC hq1_qnC hq2_qnC hq3_qnC hq4_qnC (k 12) boC top foC hno1C hno2C hno3C hno4C) (zcV 1 hts w_878 w_650 w_651 w_7 w_652 (by decide +kernel) ⟨Nat.le_of_ble_eq_true rfl, Nat.le_of_ble_eq_true rfl⟩) (zc_preV hbase hK hN hQ hG hS hq1_qnC rfl) rfl rfl hl.1 rfl (lv_room (Nat.le_of_ble_eq_true rfl)) d_ZA_state_33 ⟨(by dsimp only; omega), (by dsimp only; omega)⟩) hS (fun r33 G33 H locs hp33 hG hS => ?_)
    have hG : zP E G22 H := hp33.2 ▸ hG
    refine lv_if_ne (tgt := 41) hx hb d_ZA_state_36 (by decide) (fun c36 => ?_) (fun c36 => ?_)
    · have hxt := hp33.1.nz c36
      refine lv_aload_n hx hb d_ZA_state_41 rfl (lv_at hl 1 rfl) ?_
      refine zg_get (ci := 10) (C := "ZoneAnswers") (T := T_ZA) (N := 3) hx hb hts zi_ZA hown hK hG hO1C rfl 1 (by decide) (hts _ w_704) (fun _ h9 => h9) rfl d_ZA_state_42 ?_
      refine lv_aload_n hx hb d_ZA_state_45 rfl (lv_at hl 0 rfl) ?_
      have hGo46 := hG
      refine zk_q (va_runV (As := [.ref qn]) (rest := []) ⟨hx, hb, hml, hown, hts⟩ (t_Zo_at_t l hz1C hz3C hne hso hq1_qnC hq2_qnC hq3_qnC hq4_qnC hq5_qnC) (zcV 1 hts w_879 w_880 w_881 w_3 w_882 (by decide +kernel) ⟨Nat.le_of_ble_eq_true rfl, Nat.le_of_ble_eq_true rfl⟩) (zc_preV hbase hK hN hQ hG hS hz1C rfl) rfl rfl hl.1 rfl (lv_room (Nat.le_of_ble_eq_true rfl)) d_ZA_state_46 ⟨(by dsimp only; omega), (by dsimp only; omega)⟩) hS (fun r46 G46 H locs hp46 hG hS => ?_)
      rcases hp46 with ⟨⟨oi, hoi, ho2, er46⟩ | ⟨hno, er46⟩, eg46⟩
      · have hG : zP E G22 H := eg46 ▸ hG
        refine zr_some (a := oA (oe os oi)) er46 ?_
        have how9 := hz3C.2 _ (oe_mem hoi)
        have hvD : vD (zV os) (np_low lsn) := by rw [← ho2]; exact vD_of hGZ.1 hoi
        have hvt : vth (zV os) (np_low lsn) := ⟨_, hvD, List.suffix_refl _⟩
        refine lv_astore_n (lv' := [(2, .ref (oA (oe os oi))), (1, .ref qn), (0, .ref (k 16))]) hx hb d_ZA_state_49 rfl hl (by decide) rfl (fun ls hl => ?_)
        refine lv_aload_n hx hb d_ZA_state_50 rfl (lv_at hl 0 rfl) ?_
        refine lv_ifnonnull (tgt := 75) hx hb d_ZA_state_51 (by decide) ?_
        refine lv_aload_n hx hb d_ZA_state_75 rfl (lv_at hl 0 rfl) ?_
        refine zk_i (va_runV (As := []) (rest := []) ⟨hx, hb, hml, hown, hts⟩ (t_Ow_isGivenAway_t l how9) (zcV 0 hts w_1243 w_758 w_759 w_12 w_760 (by decide +kernel) ⟨Nat.le_of_ble_eq_true rfl, Nat.le_of_ble_eq_true rfl⟩) (zc_preV hbase hK hN hQ hG hS how9.1 rfl) rfl rfl hl.1 rfl (lv_room (Nat.le_of_ble_eq_true rfl)) d_ZA_state_76 ⟨(by dsimp only; omega), (by dsimp only; omega)⟩) hS (fun r76 G76 H locs hp76 hG hS => ?_)
        have hG : zP E G22 H := hp76.2 ▸ hG
        refine lv_if_eq (tgt := 84) hx hb d_ZA_state_79 (by decide) (fun c79 => ?_) (fun c79 => ?_)
        · have hga : ¬ vaw (zV os) top (np_low lsn) := fun z => hp76.1.z c79 ((hGZ.gb hoi).mpr (by rw [ho2]; exact z))
          refine lv_aload_n hx hb d_ZA_state_84 rfl (lv_at hl 0 rfl) ?_
          refine zk_i (va_runV (As := []) (rest := []) ⟨hx, hb, hml, hown, hts⟩ (t_Ow_isCut l E G22 (oA (oe os oi)) (oN (oe os oi)) (oL (oe os oi)) (oC (oe os oi)) how9.1) (zcV 0 hts w_1244 w_1110 w_1111 w_12 w_1112 (by decide +kernel) ⟨Nat.le_of_ble_eq_true rfl, Nat.le_of_ble_eq_true rfl⟩) (zc_preV hbase hK hN hQ hG hS how9.1 rfl) rfl rfl hl.1 rfl (lv_room (Nat.le_of_ble_eq_true rfl)) d_ZA_state_85 ⟨(by dsimp only; omega), (by dsimp only; omega)⟩) hS (fun r85 G85 H locs hp85 hG hS => ?_)
          have hG : zP E G22 H := hp85.2 ▸ hG
          refine lv_if_eq (tgt := 95) hx hb d_ZA_state_88 (by decide) (fun c88 => ?_) (fun c88 => ?_)
          · have hev : vstt (zV os) top (np_low lsn) = 3 := by unfold vstt; rw [zif_n (fun z => z hxt), zif_n (fun z => z hvt), zif_n (fun z => z hvD), zif_n hga, zif_n (fun z => hp85.1.z c88 ((hGZ.cut hoi).mpr (by rw [ho2]; exact z)))]
            refine lv_iconst (v := 3) hx hb d_ZA_state_95 (by decide) ?_
            exact zt_iret hx hb hr hlocks (rfl) (⟨roN, hObC.st hGZ hdw hdx hrc, (hfN.w (fun _ z => z.elim)).tr hfC, lsn, hTn, by rw [hev]⟩) hG hS (by dsimp only; omega) (by dsimp only; omega) d_ZA_state_96
          · have hev : vstt (zV os) top (np_low lsn) = 4 := by unfold vstt; rw [zif_n (fun z => z hxt), zif_n (fun z => z hvt), zif_n (fun z => z hvD), zif_n hga, zif_y (by have q := (hGZ.cut hoi).mp (hp85.1.nz c88); rw [ho2] at q; exact q)]
            refine lv_iconst (v := 4) hx hb d_ZA_state_91 (by decide) ?_
            refine lv_goto (tgt := 96) hx hb d_ZA_state_92 (by decide) ?_
            exact zt_iret hx hb hr hlocks (rfl) (⟨roN, hObC.st hGZ hdw hdx hrc, (hfN.w (fun _ z => z.elim)).tr hfC, lsn, hTn, by rw [hev]⟩) hG hS (by dsimp only; omega) (by dsimp only; omega) d_ZA_state_96
        · have hev : vstt (zV os) top (np_low lsn) = 5 := by unfold vstt; rw [zif_n (fun z => z hxt), zif_n (fun z => z hvt), zif_n (fun z => z hvD), zif_y (by have q := (hGZ.gb hoi).mp (hp76.1.nz c79); rw [ho2] at q; exact q)]
          refine lv_iconst (v := 5) hx hb d_ZA_state_82 (by decide) ?_
          exact zt_iret hx hb hr hlocks (rfl) (⟨roN, hObC.st hGZ hdw hdx hrc, (hfN.w (fun _ z => z.elim)).tr hfC, lsn, hTn, by rw [hev]⟩) hG hS (by dsimp only; omega) (by dsimp only; omega) d_ZA_state_83
      · have hG : zP E G22 H := eg46 ▸ hG
        refine zr_none er46 ?_
        have hvD : ¬ vD (zV os) (np_low lsn) := fun z => by obtain ⟨i, hi, e9⟩ := vD_ix z; exact hno i hi e9
        refine lv_astore_nN (lv' := [(2, .null), (1, .ref qn), (0, .ref (k 16))]) hx hb d_ZA_state_49 rfl hl (by decide) rfl (fun ls hl => ?_)
        refine lv_aload_nN hx hb d_ZA_state_50 rfl (lv_at hl 0 rfl) ?_
        refine lv_ifnonnullN hx hb d_ZA_state_51 ?_
        refine lv_aload_n hx hb d_ZA_state_54 rfl (lv_at hl 2 rfl) ?_
        refine zg_get (ci := 10) (C := "ZoneAnswers") (T := T_ZA) (N := 3) hx hb hts zi_ZA hown hK hG hO1C rfl 1 (by decide) (hts _ w_704) (fun _ h9 => h9) rfl d_ZA_state_55 ?_
        refine lv_aload_n hx hb d_ZA_state_58 rfl (lv_at hl 1 rfl) ?_
        have hGo59 := hG
        refine zk_i (va_runV (As := [.ref qn]) (rest := []) ⟨hx, hb, hml, hown, hts⟩ ((t_Zo_depth l E G22 (k 1) (k 11) (k 12) (k 13) (k 14) rc hz1C roN (k 15) os hz3C hne hol hso qn b_qnC (np_low lsn) f_qnC hq1_qnC hq2_qnC hq3_qnC hq4_qnC hq5_qnC).imp (p2 := fun r9 G9 => (∃ d, d ≤ (np_low lsn).length ∧ isCl (zV os) (np_low lsn) ((np_low lsn).drop ((np_low lsn).length - d)) ∧ (d = (np_low lsn).length ↔ vth (zV os) (np_low lsn)) ∧ r9 = nI d) ∧ G9 = G22) (fun r9 G9 q9 => ⟨hGZ.dpO (zNR.fn hN_qnC).1 q9.1, q9.2⟩)) (zcV 1 hts w_1242 w_1147 w_1148 w_3 w_1149 (by decide +kernel) ⟨Nat.le_of_ble_eq_true rfl, Nat.le_of_ble_eq_true rfl⟩) (zc_preV hbase hK hN hQ hG hS hz1C rfl) rfl rfl hl.1 rfl (lv_room (Nat.le_of_ble_eq_true rfl)) d_ZA_state_59 ⟨(by dsimp only; omega), (by dsimp only; omega)⟩) hS (fun r59 G59 H locs hp59 hG hS => ?_)
        obtain ⟨⟨dp9, hdp1, hdp2, hdp3, er59⟩, eg59⟩ := hp59
        have hG : zP E G22 H := eg59 ▸ hG
        refine zi_as (y := nI dp9) er59 ?_
        refine lv_aload_n hx hb d_ZA_state_62 rfl (lv_at hl 1 rfl) ?_
        refine zg_get (ci := 3) (C := "ZoneAnswers$Name") (T := T_Na) (N := 2) hx hb hts zi_Na hown hK hG hq1_qnC rfl 1 (by decide) (hts _ w_118) (fun _ h9 => h9) rfl d_ZA_state_63 ?_
        refine lv_icmp_ge (tgt := 73) hx hb d_ZA_state_66 (by decide) (fun c66 => ?_) (fun c66 => ?_)
        · have b66 : ((np_low lsn).length) ≤ dp9 := (nI_leI (a := ((np_low lsn).length)) (b := dp9) (by omega) (by omega)).mp c66
          have hev : vstt (zV os) top (np_low lsn) = 2 := by unfold vstt; rw [zif_n (fun z => z hxt), zif_n (fun z => z (hdp3.mp (by omega))), zif_y hvD]
          refine lv_iconst (v := 2) hx hb d_ZA_state_73 (by decide) ?_
          exact zt_iret hx hb hr hlocks (rfl) (⟨roN, hObC.st hGZ hdw hdx hrc, (hfN.w (fun _ z => z.elim)).tr hfC, lsn, hTn, by rw [hev]⟩) hG hS (by dsimp only; omega) (by dsimp only; omega) d_ZA_state_74
        · have b66 : ¬ ((np_low lsn).length) ≤ dp9 := fun q => c66 ((nI_leI (a := ((np_low lsn).length)) (b := dp9) (by omega) (by omega)).mpr q)
          have hev : vstt (zV os) top (np_low lsn) = 1 := by unfold vstt; rw [zif_n (fun z => z hxt), zif_y (fun z => by have := hdp3.mpr z; omega)]
          refine lv_iconst (v := 1) hx hb d_ZA_state_69 (by decide) ?_
          refine lv_goto (tgt := 74) hx hb d_ZA_state_70 (by decide) ?_
          exact zt_iret hx hb hr hlocks (rfl) (⟨roN, hObC.st hGZ hdw hdx hrc, (hfN.w (fun _ z => z.elim)).tr hfC, lsn, hTn, by rw [hev]⟩) hG hS (by dsimp only; omega) (by dsimp only; omega) d_ZA_state_74
    · have hev : vstt (zV os) top (np_low lsn) = 0 := by unfold vstt; rw [zif_y (hp33.1.z c36)]
      refine lv_iconst (v := 0) hx hb d_ZA_state_39 (by decide) ?_
      exact zt_iret hx hb hr hlocks (rfl) (⟨roN, hObC.st hGZ hdw hdx hrc, (hfN.w (fun _ z => z.elim)).tr hfC, lsn, hTn, by rw [hev]⟩) hG hS (by dsimp only; omega) (by dsimp only; omega) d_ZA_state_40
  · have hG : zP E G H := egn ▸ hG
    refine zr_none ern ?_
    refine lv_astore_nN (lv' := [(1, .null), (0, .ref (k 16))]) hx hb d_ZA_state_4 rfl hl (by decide) rfl (fun ls hl => ?_)
    refine lv_aload_nN hx hb d_ZA_state_5 rfl (lv_at hl 0 rfl) ?_
    refine lv_ifnonnullN hx hb d_ZA_state_6 ?_
    exact zt_row (names := zt_up) (ic := 58) hoff hx hb (hml.trans hl.1.symm) hown hts hQ hex hlocks (zt_words hts hN hQ zt_iae) (by decide) (by decide) w_813 w_488 w_26 (⟨rfl, hnt⟩) hG hS hbase (by dsimp only; omega) (by dsimp only; omega) (Nat.le_of_ble_eq_true rfl) (Nat.le_of_ble_eq_true rfl) d_ZA_state_9 d_ZA_state_12 d_ZA_state_13 d_ZA_state_16
