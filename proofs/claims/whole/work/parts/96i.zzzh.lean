/-- a set with its time, and perhaps one more -/
def vpt (V : zVt) (x : np_N) (t tm : Int32) (N : List (Int32 × List Int32)) : zVt := fun y u => if y = x ∧ u = t then (V y u ++ N).map (fun p => (tm, p.2)) else V y u
theorem vpt_ne {V : zVt} {x y : np_N} {t tm u : Int32} {N : List (Int32 × List Int32)} (h : vpt V x t tm N y u ≠ []) : V y u ≠ [] ∨ (y = x ∧ u = t) := by
  unfold vpt at h
  split at h
  · rename_i z; exact Or.inr z
  · exact Or.inl h
theorem zsz {os : List zOt} (h : zgo os) {B : Nat} (hB : 2 * znr os + 10 ≤ B) (hn : znr os < 2000) : (2 * os.length + 10 ≤ B) ∧ (∀ i, i < os.length → (oX (oe os i)).length < 2000 ∧ 2 * (oX (oe os i)).length + 10 ≤ B) ∧ ∀ i, i < os.length → ∀ j, j < (oX (oe os i)).length → (sX (oS (oe os i) j)).length < 2000 ∧ 2 * (sX (oS (oe os i) j)).length + 10 ≤ B := by
  obtain ⟨h1, h2⟩ := h.sz
  refine ⟨by omega, fun i hi => ?_, fun i hi j hj => ?_⟩
  · have := (h2 i hi).1; omega
  · have := (h2 i hi).2 j hj; omega
theorem w_34 : (.initialized "java/lang/UnsupportedOperationException" : Cond) ∈ zw := zw_at 34 (by decide +kernel) (by decide +kernel)
theorem w_624 : (.fieldLink "ZoneAnswers" 115 "ZoneAnswers$Rrset" "time" "I" : Cond) ∈ zw := zw_at 624 (by decide +kernel) (by decide +kernel)
theorem w_904 : (.methodLink "ZoneAnswers" 101 ⟨"ZoneAnswers$Zone", "isFull", "()Z"⟩ : Cond) ∈ zw := zw_at 904 (by decide +kernel) (by decide +kernel)
theorem w_905 : (.instanceMethod ⟨"ZoneAnswers$Zone", "isFull", "()Z"⟩ : Cond) ∈ zw := zw_at 905 (by decide +kernel) (by decide +kernel)
theorem w_906 : (.selects "ZoneAnswers$Zone" ⟨"ZoneAnswers$Zone", "isFull", "()Z"⟩ ⟨"ZoneAnswers$Zone", "isFull", "()Z"⟩ : Cond) ∈ zw := zw_at 906 (by decide +kernel) (by decide +kernel)
theorem w_907 : (.code ⟨"ZoneAnswers$Zone", "isFull", "()Z"⟩ prog_10_method_5_code 1 (some .boolean) : Cond) ∈ zw := zw_at 907 (by decide +kernel) (by decide +kernel)
theorem w_908 : (.classLink "ZoneAnswers" 104 "java/lang/UnsupportedOperationException" : Cond) ∈ zw := zw_at 908 (by decide +kernel) (by decide +kernel)
theorem w_909 : (.instantiable "java/lang/UnsupportedOperationException" 6 : Cond) ∈ zw := zw_at 909 (by decide +kernel) (by decide +kernel)
theorem w_923 : (.methodLink "ZoneAnswers" 107 ⟨"ZoneAnswers$Tape", "datum", "(II)LZoneAnswers$Datum;"⟩ : Cond) ∈ zw := zw_at 923 (by decide +kernel) (by decide +kernel)
theorem w_924 : (.instanceMethod ⟨"ZoneAnswers$Tape", "datum", "(II)LZoneAnswers$Datum;"⟩ : Cond) ∈ zw := zw_at 924 (by decide +kernel) (by decide +kernel)
theorem w_925 : (.selects "ZoneAnswers$Tape" ⟨"ZoneAnswers$Tape", "datum", "(II)LZoneAnswers$Datum;"⟩ ⟨"ZoneAnswers$Tape", "datum", "(II)LZoneAnswers$Datum;"⟩ : Cond) ∈ zw := zw_at 925 (by decide +kernel) (by decide +kernel)
theorem w_926 : (.code ⟨"ZoneAnswers$Tape", "datum", "(II)LZoneAnswers$Datum;"⟩ prog_8_method_10_code 5 (some (.object "ZoneAnswers$Datum")) : Cond) ∈ zw := zw_at 926 (by decide +kernel) (by decide +kernel)
theorem w_931 : (.methodLink "ZoneAnswers" 111 ⟨"ZoneAnswers$Zone", "insert", "(LZoneAnswers$Name;ILZoneAnswers$Datum;)LZoneAnswers$Rrset;"⟩ : Cond) ∈ zw := zw_at 931 (by decide +kernel) (by decide +kernel)

abbrev rm_ZA_put (s9 : Nat) : Room := { frames := 12, cells := 20, slots := s9, locals := 440 }
set_option maxHeartbeats 4000000 in
set_option maxRecDepth 100000 in
/-- put(type, time) -/
theorem t_ZA_put (l : Launch) (hoff : zl_off l) (E : zc_E) (G : zg_G) (k : Nat → Nat) (ro : zRo) (rc ty se : Int32) (os : List zOt) (top : np_N) (d1 d2 d3 : Nat) (t1 t2 t3 : List zTt) (b : Nat) (tp : List Int32) (hOb : zOb E G ro k rc ty se os top d1 d2 d3 t1 t2 t3 b tp) (hGZ : zGZ os top) (hdw : zdw os) (hdx : zdx os) (hrc : rc = nI (znr os)) (hzn : znr os < 2000) (hbg : zbg (zV os)) (t tm : Int32) (s9 : Nat) (h10 : tp.length + 30 ≤ s9) (hs9 : ¬ tm < 0 → ∀ x D, zRec tp t top x D → (∀ q, q ∈ zV os x t → q.2 ≠ D) → ¬ (vD (zV os) x ∧ (t = 5 ∨ zV os x 5 ≠ [])) → 3 * tp.length + 6 * znr os + 200 ≤ s9) : zT l E y_ZA_put c_ZA_put 6 (some .int) (rm_ZA_put s9) [.ref (k 16), .int t, .int tm] G (fun (v : Option Value) (G2 : zg_G) => ¬ tm < 0 ∧ ∃ ro2 x D n2, zRec tp t top x D ∧ zfr ro zKc G ro2 G2 ∧ (((∃ j, isFst (zV os x t) D j) ∧ zOS E G2 ro2 (k 16) [] (vpt (zV os) x t tm []) top n2 (zWt t1 t2 t3) ∧ v = some (.int (nI ((vpt (zV os) x t tm [] x t).length)))) ∨ ((∀ q, q ∈ zV os x t → q.2 ≠ D) ∧ ¬ (vD (zV os) x ∧ (t = 5 ∨ zV os x 5 ≠ [])) ∧ zOS E G2 ro2 (k 16) [] (vpt (zV os) x t tm [(0, D)]) top n2 (zWt t1 t2 t3) ∧ v = some (.int (nI ((vpt (zV os) x t tm [(0, D)] x t).length)))))) (fun cls => (cls = "java/lang/IllegalArgumentException" ∧ (tm < 0 ∨ ¬ ∃ x D, zRec tp t top x D)) ∨ (cls = "java/lang/UnsupportedOperationException" ∧ ¬ tm < 0 ∧ ∃ x D, zRec tp t top x D ∧ (∀ q, q ∈ zV os x t → q.2 ≠ D) ∧ vD (zV os) x ∧ (t = 5 ∨ zV os x 5 ≠ []))) := by
  refine zT.of (by decide) (Nat.le_of_ble_eq_true rfl) ?_
  intro p e s m args below meth c hZ hex hG ls hl
  obtain ⟨hx, hb, hr, hts, hown, hlocks, hml, hnm, hbase, hK, hN, hQ⟩ := hZ
  have hl : lv_has ls 6 [(0, .ref (k 16)), (1, .int t), (2, .int tm)] := hl
  have hS : zg_S (zc_b E) s.heap s.heap [] := va_S.rf
  obtain ⟨hCx, hO1, hO2, hTp, hO3, hO4, hO5⟩ := id hOb
  obtain ⟨⟨hz1, hz2, hz3, hz4, hz5, soa, u9, hz6, hz7, hz8, hz9, hzA⟩, ⟨ha1, ha2, hs1, hs2, hs3⟩, hT1⟩ := id hCx
  obtain ⟨bo, fo, hno1, hno2, hno3, hno4, hno5, -⟩ := id hz4
  have hne : 0 < os.length := hGZ.2.2.1
  have hsz := hGZ.1.sz
  have hol : os.length ≤ 2000 := by have := hsz.1; omega
  have hso := hGZ.1.1
  have hE00 : G (E.2.2.2 0) = none := hQ.out hG
  have hl0 := zWt_l t1 t2 t3
  have hx0 : zx z0 G G := zx.rf
  refine lv_aload_n hx hb d_ZA_put_0 rfl (lv_at hl 0 rfl) ?_
  refine lv_iload_n hx hb d_ZA_put_1 rfl (lv_at hl 1 rfl) ?_
  have hGo2 := hG
  refine zk_q (va_runV (As := [.int t]) (rest := []) ⟨hx, hb, hml, hown, hts⟩ (t_ZA_recordName_b l E G (k 16) (k 17) (k 1) (k 0) b tp hO1 hTp hO5 (k 11) (k 12) (k 13) (k 14) rc hz1 bo top fo hno1 hno2 hno3 hno4 t (tp.length + 2) (Nat.le_refl _)) (zcV 1 hts w_854 w_856 wp_10 w_1 w_857 (by decide +kernel) ⟨Nat.le_of_ble_eq_true rfl, Nat.le_of_ble_eq_true rfl⟩) (zc_preV hbase hK hN hQ hG hS hO1 rfl) rfl rfl hl.1 rfl (lv_room (Nat.le_of_ble_eq_true rfl)) d_ZA_put_2 ⟨(by dsimp only; omega), (by dsimp only; omega)⟩) hS (fun r2 G2 H locs hp2 hG hS => ?_)
  rcases hp2 with ⟨lsn, qn, hRn, hxt, ern, hxn, hNbn⟩ | ⟨ern, hxn, hnt⟩
  · refine zr_some (a := qn) ern ?_
    obtain ⟨roN, hfN, hrN, hNqn⟩ := hNbn.nr hxn ro
    have hEN : G2 (E.2.2.2 0) = none := hQ.out hG
    have hObN := hOb.z hfN hE00 hEN
    obtain ⟨hCxN, hO1N, hO2N, hTpN, hO3N, hO4N, hO5N⟩ := id hObN
    obtain ⟨⟨hz1N, hz2N, hz3N, hz4N, hz5N, soaN, u9N, hz6N, hz7N, hz8N, hz9N, hzAN⟩, ⟨ha1N, ha2N, hs1N, hs2N, hs3N⟩, hT1N⟩ := id hCxN
    obtain ⟨boN, foN, hno1N, hno2N, hno3N, hno4N, hno5N, -⟩ := id hz4N
    obtain ⟨b_qnN, f_qnN, hq1_qnN, hq2_qnN, hq3_qnN, hq4_qnN, hq5_qnN, -⟩ := id hNqn
    obtain ⟨hnmm, hpt, hdat⟩ := id hRn
    have hxl : np_len lsn ≤ tp.length := by have := hnmm.2.1; omega
    have hrecD : zRec tp t top (np_low lsn) (zdb tp t (np_len lsn)) := ⟨lsn, hRn, hxt, rfl, rfl⟩
    have hunD : ∀ x D, zRec tp t top x D → x = np_low lsn ∧ D = zdb tp t (np_len lsn) := fun x D ⟨l2, z1, z2, z3, z4⟩ => by rw [zRn_un hRn z1] at z3 z4; exact ⟨z3, z4⟩
    have hlow : np_len (np_low lsn) = np_len lsn := np_low_len hnmm.1.1
    refine lv_astore_n (lv' := [(3, .ref qn), (0, .ref (k 16)), (1, .int t), (2, .int tm)]) hx hb d_ZA_put_5 rfl hl (by decide) rfl (fun ls hl => ?_)
    refine lv_aload_n hx hb d_ZA_put_6 rfl (lv_at hl 0 rfl) ?_
    refine lv_ifnull hx hb d_ZA_put_7 ?_
    refine lv_iload_n hx hb d_ZA_put_10 rfl (lv_at hl 3 rfl) ?_
    refine lv_if_ge (tgt := 22) hx hb d_ZA_put_11 (by decide) (fun c11 => ?_) (fun c11 => ?_)
    · have htm : ¬ tm < 0 := Int32.not_lt.mpr c11
      refine lv_aload_n hx hb d_ZA_put_22 rfl (lv_at hl 1 rfl) ?_
      refine zg_get (ci := 10) (C := "ZoneAnswers") (T := T_ZA) (N := 3) hx hb hts zi_ZA hown hK hG hO1N rfl 1 (by decide) (hts _ w_704) (fun _ h9 => h9) rfl d_ZA_put_23 ?_
      refine lv_aload_n hx hb d_ZA_put_26 rfl (lv_at hl 0 rfl) ?_
      have hGo27 := hG
      refine zk_q (va_runV (As := [.ref qn]) (rest := []) ⟨hx, hb, hml, hown, hts⟩ (t_Zo_at_t l hz1N hz3N hne hso hq1_qnN hq2_qnN hq3_qnN hq4_qnN hq5_qnN) (zcV 1 hts w_879 w_880 w_881 w_3 w_882 (by decide +kernel) ⟨Nat.le_of_ble_eq_true rfl, Nat.le_of_ble_eq_true rfl⟩) (zc_preV hbase hK hN hQ hG hS hz1N rfl) rfl rfl hl.1 rfl (lv_room (Nat.le_of_ble_eq_true rfl)) d_ZA_put_27 ⟨(by dsimp only; omega), (by dsimp only; omega)⟩) hS (fun r27 G27 H locs hp27 hG hS => ?_)
      rcases hp27 with ⟨⟨oi, hoi, ho2, er27⟩ | ⟨hno, er27⟩, eg27⟩
      · have hG : zP E G2 H := eg27 ▸ hG
        refine zr_some (a := oA (oe os oi)) er27 ?_
        have how9 := hz3N.2 _ (oe_mem hoi)
        have hszo := (hsz.2 oi hoi).1
        have hvD : vD (zV os) (np_low lsn) := by rw [← ho2]; exact vD_of hGZ.1 hoi
        refine lv_astore (lv' := [(4, .ref (oA (oe os oi))), (3, .ref qn), (0, .ref (k 16)), (1, .int t), (2, .int tm)]) hx hb d_ZA_put_30 hl (by decide) rfl (fun ls hl => ?_)
        refine lv_aload hx hb d_ZA_put_32 (lv_at hl 0 rfl) ?_
        refine lv_ifnonnull (tgt := 41) hx hb d_ZA_put_34 (by decide) ?_
        refine lv_aload hx hb d_ZA_put_41 (lv_at hl 0 rfl) ?_
        refine lv_iload_n hx hb d_ZA_put_43 rfl (lv_at hl 3 rfl) ?_
        have hGo44 := hG
        refine zk_q (va_runV (As := [.int t]) (rest := []) ⟨hx, hb, hml, hown, hts⟩ (t_Ow_find_t l how9 (hGZ.1.2 oi hoi).2.1 t) (zcV 1 hts w_883 w_654 w_655 w_12 w_656 (by decide +kernel) ⟨Nat.le_of_ble_eq_true rfl, Nat.le_of_ble_eq_true rfl⟩) (zc_preV hbase hK hN hQ hG hS how9.1 rfl) rfl rfl hl.1 rfl (lv_room (Nat.le_of_ble_eq_true rfl)) d_ZA_put_44 ⟨(by dsimp only; omega), (by dsimp only; omega)⟩) hS (fun r44 G44 H locs hp44 hG hS => ?_)
        rcases hp44 with ⟨⟨j9, hj9, ht9, hj93, er44⟩ | ⟨hj9n, er44⟩, eg44⟩
        · have hG : zP E G2 H := eg44 ▸ hG
          refine zr_some (a := sA (oS (oe os oi) j9)) er44 ?_
          have hsr9 := how9.2.2.2.2 _ (oS_mem hj9)
          have hd0 := (hGZ.1.2 oi hoi).2.2 j9 hj9
          have hszd := (hsz.2 oi hoi).2 j9 hj9
          have hbi := hbig_of hdw hdx hbg hGZ.1 hoi hj9
          have hVs := zV_s hGZ.1 hoi hj9
          rw [ho2, ht9] at hVs
          rw [ht9] at hbi
          have hcg : ∀ i, i < (sX (oS (oe os oi) j9)).length → (zsame tp (np_len lsn) (zpl (sE (oS (oe os oi) j9) i)) (sE (oS (oe os oi) j9) i).2.1 ↔ (sE (oS (oe os oi) j9) i).2.1 = zdb tp t (np_len lsn)) := fun i hi => zsame_db (hbi _ (sE_mem hi)).2.1 (hbi _ (sE_mem hi)).2.2
          have hVi : ∀ i, i < (sX (oS (oe os oi) j9)).length → (zV os (np_low lsn) t)[i]? = some (sU (oS (oe os oi) j9), (sE (oS (oe os oi) j9) i).2.1) := fun i hi => by rw [hVs, List.getElem?_map, sE_q hi]; rfl
          have hVl : (zV os (np_low lsn) t).length = (sX (oS (oe os oi) j9)).length := by rw [hVs, List.length_map]
          refine lv_astore (lv' := [(5, .ref (sA (oS (oe os oi) j9))), (4, .ref (oA (oe os oi))), (3, .ref qn), (0, .ref (k 16)), (1, .int t), (2, .int tm)]) hx hb d_ZA_put_47 hl (by decide) rfl (fun ls hl => ?_)
          refine lv_aload hx hb d_ZA_put_49 (lv_at hl 0 rfl) ?_
          refine lv_ifnull hx hb d_ZA_put_51 ?_
          refine lv_aload hx hb d_ZA_put_54 (lv_at hl 0 rfl) ?_
          refine lv_aload_n hx hb d_ZA_put_56 rfl (lv_at hl 3 rfl) ?_
          refine zg_get (ci := 10) (C := "ZoneAnswers") (T := T_ZA) (N := 3) hx hb hts zi_ZA hown hK hG hO1N rfl 0 (by decide) (hts _ w_703) (fun _ h9 => h9) rfl d_ZA_put_57 ?_
          refine lv_aload_n hx hb d_ZA_put_60 rfl (lv_at hl 2 rfl) ?_
          have hGo61 := hG
          refine zk_i (va_runV (As := []) (rest := [.ref (k 17), .ref (sA (oS (oe os oi) j9))]) ⟨hx, hb, hml, hown, hts⟩ (t_Na_length l E G2 qn b_qnN (np_low lsn) f_qnN hq1_qnN hq2_qnN hq3_qnN hq4_qnN) (zcV 0 hts w_884 w_885 w_886 w_7 w_887 (by decide +kernel) ⟨Nat.le_of_ble_eq_true rfl, Nat.le_of_ble_eq_true rfl⟩) (zc_preV hbase hK hN hQ hG hS hq1_qnN rfl) rfl rfl hl.1 rfl (lv_room (Nat.le_of_ble_eq_true rfl)) d_ZA_put_61 ⟨(by dsimp only; omega), (by dsimp only; omega)⟩) hS (fun r61 G61 H locs hp61 hG hS => ?_)
          have hG : zP E G2 H := hp61.2 ▸ hG
          refine zi_as (y := nI (np_len lsn)) (hp61.1.trans (by rw [hlow])) ?_
          have hGo64 := hG
          refine zk_i (va_runV (As := [.ref (k 17), .int (nI (np_len lsn))]) (rest := []) ⟨hx, hb, hml, hown, hts⟩ (t_Rr_place l E G2 (k 17) b tp hTpN hO5 (np_len lsn) hxl roN (oA (oe os oi)) (oS (oe os oi) j9) hsr9 hd0 (fun d hd => (hbi d hd).1)) (zcV 2 hts w_888 w_889 w_890 w_27 w_891 (by decide +kernel) ⟨Nat.le_of_ble_eq_true rfl, Nat.le_of_ble_eq_true rfl⟩) (zc_preV hbase hK hN hQ hG hS hsr9.1 rfl) rfl rfl hl.1 rfl (lv_room (Nat.le_of_ble_eq_true rfl)) d_ZA_put_64 ⟨(by dsimp only; omega), (by dsimp only; omega)⟩) hS (fun r64 G64 H locs hp64 hG hS => ?_)
          rcases hp64 with ⟨⟨jp, hjp, hsm, hlt, er64⟩ | ⟨hnsm, er64⟩, eg64⟩
          · have hG : zP E G2 H := eg64 ▸ hG
            refine zi_as (y := nI jp) er64 ?_
            have hfst : isFst (zV os (np_low lsn) t) (zdb tp t (np_len lsn)) jp := ⟨⟨_, by rw [hVi jp hjp, (hcg jp hjp).mp hsm]⟩, fun i hi q hq e9 => hlt i hi ((hcg i (by omega)).mpr (by rw [hVi i (by omega)] at hq; cases hq; exact e9))⟩
            refine lv_if_ge (tgt := 138) hx hb d_ZA_put_67 (by decide) (fun c67 => ?_) (fun c67 => ?_)
            · have b67 : 0 ≤ jp := (nI_leI (a := 0) (b := jp) (by omega) (by omega)).mp c67
              refine lv_aload hx hb d_ZA_put_138 (lv_at hl 0 rfl) ?_
              refine lv_iload_n hx hb d_ZA_put_140 rfl (lv_at hl 5 rfl) ?_
              refine zg_put (ci := 5) (v := .int tm) (ty := .int) (C := "ZoneAnswers$Rrset") (T := T_Rr) (N := 3) hx hb hts zi_Rr t_Rr t_Rr_ok n_Rr hown hK hG hS hsr9.1 rfl 1 (by decide) (hts _ w_624) (fun _ h9 => h9) rfl (by decide +kernel) rfl rfl (Nat.le_of_ble_eq_true rfl) d_ZA_put_141 (fun H locs hG hS => ?_)
              obtain ⟨G1, eG1⟩ : ∃ z : zg_G, z = zg_up G2 (sA (oS (oe os oi) j9)) (.inr (5, [.int (sT (oS (oe os oi) j9)), .int tm, .ref (sL (oS (oe os oi) j9))])) := ⟨_, rfl⟩
              have hG : zP E G1 H := by rw [eG1]; exact hG
              have k2 : G1 (k 1) = some (.inr (9, [.ref (k 11), .ref (k 12), .ref (k 13), .ref (k 14), .int rc])) := by rw [eG1, zg_up_ne (zg_ne hz1N hsr9.1 (by intro h; simp at h))]; exact hz1N
              have k3 : G1 (sA (oS (oe os oi) j9)) = some (.inr (5, [.int (sT (oS (oe os oi) j9)), .int tm, .ref (sL (oS (oe os oi) j9))])) := by rw [eG1]; exact zg_up_self _ _ _
              obtain ⟨os7, hZ7, hfr7, hgo7, hct7, hnr7, hln7, hgt7, hsa7⟩ := zTim (u := tm) hz3N hGZ.1 hoi hj9 hEN
              rw [← eG1] at hZ7 hfr7
              have hE7 : G1 (E.2.2.2 0) = none := hQ.out hG
              have hV7 : zV os7 = vpt (zV os) (np_low lsn) t tm [] := zV_cg (fun y u => by
                rw [hgt7, ho2, ht9]; unfold vpt
                by_cases z : y = np_low lsn ∧ u = t
                · rw [if_pos z, if_pos z]; unfold zV; rw [List.map_map, List.append_nil, List.map_map]; rfl
                · rw [if_neg z, if_neg z]; rfl)
              have hst7 : ∀ y u, vpt (zV os) (np_low lsn) t tm [] y u ≠ [] → zV os y u ≠ [] ∨ (y = np_low lsn ∧ u = t) := fun y u => vpt_ne
              have ht6 : vpt (zV os) (np_low lsn) t tm [] top 6 = zV os top 6 := by unfold vpt; rw [if_neg (fun z => zput_n6 hpt z.2.symm)]
              obtain ⟨hq1, hq2, hq3⟩ := hGZ.all
              have hGZ7 : zGZ os7 top := zGZ.of hgo7 (hct7 hGZ.2.1) hZ7 ⟨6, by rw [hV7, ht6, hz8N]; simp⟩ (fun x ⟨u, hxu⟩ => (hst7 x u (by rw [← hV7]; exact hxu)).elim (fun z => hq2 x ⟨u, z⟩) (fun z => by rw [z.1]; exact hxt)) (fun x u hxu => (hst7 x u (by rw [← hV7]; exact hxu)).elim (hq3 x u) (fun z => by rw [z.2]; exact zput_ty hpt))
              have hsub : ∀ x u q, q ∈ zgt os7 x u → (∃ q2 ∈ zgt os x u, q2.2 = q.2) := fun x u q hq => by
                rw [hgt7, ho2, ht9] at hq
                by_cases z : x = np_low lsn ∧ u = t
                · rw [if_pos z] at hq
                  obtain ⟨q2, h1, h2⟩ := List.mem_map.mp hq
                  exact ⟨q2, h1, by rw [← h2]⟩
                · rw [if_neg z] at hq; exact ⟨q, hq, rfl⟩
              have hdw7 : zdw os7 := zdw_iff.mpr (fun x u q hq => by obtain ⟨q2, h1, h2⟩ := hsub x u q hq; rw [← h2]; exact zdw_iff.mp hdw x u q2 h1)
              have hdx7 : zdx os7 := fun x u q hq => by obtain ⟨q2, h1, h2⟩ := hsub x u q hq; rw [← h2]; exact hdx x u q2 h1
              have hrc7 : rc = nI (znr os7) := by rw [hnr7]; exact hrc
              have haz7 : G1 (k 1) = some (.inr (9, [.ref (k 11), .ref (k 12), .ref (k 13), .ref (k 14), .int (rc)])) := k2
              have hZn7 : zZn E G1 roN k (rc) os7 top := ⟨haz7, hz2N, hZ7, hz4N.fr hfr7 zKz_0, hsa7 _ _ _ (hz5N), soaN, u9N, (hz6N.fr hz7N hfr7 zKz_0).1, (hz6N.fr hz7N hfr7 zKz_0).2, by rw [hV7, ht6]; exact hz8N, hz9N, hzAN⟩
              have hOb7 : zOb E G1 roN k (rc) ty se os7 top d1 d2 d3 t1 t2 t3 b tp := hObN.zn hfr7 hEN hE7 hZn7 (fun n hn => rfl)
              have hTp7 : G1 (k 17) = some (.inr (7, [.ref b, .int (nI tp.length)])) := hOb7.2.2.2.1.1
              have hO17 : G1 (k 16) = some (.inr (10, [.ref (k 17), .ref (k 1), .ref (k 0)])) := hOb7.2.1
              obtain ⟨i7, s7, hi7, hMi7, hs7, hTi7, hA7⟩ := zsa_ix (hsa7 (np_low lsn) t (sA (oS (oe os oi) j9)) (by rw [← ho2, ← ht9]; exact zsa_of hoi hj9))
              have hVl7 := congrArg List.length (zV_s hgo7 hi7 hs7)
              rw [hMi7, hTi7, hV7, List.length_map] at hVl7
              have hSR7 := (hZ7.2 _ (oe_mem hi7)).2.2.2.2 _ (oS_mem hs7)
              obtain ⟨⟨⟨kl7, hql7⟩, -⟩, -⟩ := id hSR7.2.2.1
              rw [List.length_map] at hql7
              have hsc7 := hSR7.1
              rw [hA7] at hsc7
              refine lv_aload_n hx hb d_ZA_put_144 rfl (lv_at hl 3 rfl) ?_
              refine zg_get (ci := 10) (C := "ZoneAnswers") (T := T_ZA) (N := 3) hx hb hts zi_ZA hown hK hG hO17 rfl 0 (by decide) (hts _ w_703) (fun _ h9 => h9) rfl d_ZA_put_145 ?_
              refine lv_iconst (v := 0) hx hb d_ZA_put_148 (by decide) ?_
              have hGo149 := hG
              refine zk_v (va_runV (As := [.int 0]) (rest := []) ⟨hx, hb, hml, hown, hts⟩ (t_Ta_cutTo l E G1 (k 17) b (nI tp.length) hTp7 0) (zcV 1 hts w_818 w_819 w_820 w_2 w_821 (by decide +kernel) ⟨Nat.le_of_ble_eq_true rfl, Nat.le_of_ble_eq_true rfl⟩) (zc_preV hbase hK hN hQ hG hS hTp7 rfl) rfl rfl hl.1 rfl (lv_room (Nat.le_of_ble_eq_true rfl)) d_ZA_put_149 ⟨(by dsimp only; omega), (by dsimp only; omega)⟩) hS (fun G149 H locs hp149 hG hS => ?_)
              have hEC : G149 (E.2.2.2 0) = none := hQ.out hG
              obtain ⟨hObC, hfC⟩ := hOb7.cut hE7 0 (Nat.zero_le _) (by rw [show nI 0 = 0 from nI_0]; exact hp149 ▸ hEC)
              have hObC2 : zOb E G149 roN k (rc) ty se os7 top d1 d2 d3 t1 t2 t3 b (tp.take 0) := by rw [hp149, ← nI_0]; exact hObC
              have hfC2 : zfr roN zKc G1 roN G149 := by rw [hp149, ← nI_0]; exact hfC
              rw [List.take_zero] at hObC2
              have hstC := hObC2.st hGZ7 hdw7 hdx7 hrc7
              rw [hV7] at hstC
              have hscC : G149 (sA (oS (oe os oi) j9)) = some (.inr (5, [.int (sT (oS (oe os7 i7) s7)), .int (sU (oS (oe os7 i7) s7)), .ref (sL (oS (oe os7 i7) s7))])) := by rw [hp149, zg_up_ne (zg_ne hsc7 hTp7 (by intro h; simp at h))]; exact hsc7
              have hslC : G149 (sL (oS (oe os7 i7) s7)) = some (.inr (0, [.ref (sD (oS (oe os7 i7) s7)), .int (nI ((sX (oS (oe os7 i7) s7)).length)), .int kl7])) := by rw [hp149, zg_up_ne (zg_ne hql7 hTp7 (by intro h; simp at h))]; exact hql7
              refine lv_aload hx hb d_ZA_put_152 (lv_at hl 0 rfl) ?_
              refine zk_i (va_runV (As := []) (rest := []) ⟨hx, hb, hml, hown, hts⟩ (t_Rr_size l E G149 (sA (oS (oe os oi) j9)) (sT (oS (oe os7 i7) s7)) (sU (oS (oe os7 i7) s7)) (sL (oS (oe os7 i7) s7)) (.ref (sD (oS (oe os7 i7) s7))) (nI ((sX (oS (oe os7 i7) s7)).length)) kl7 hslC hscC) (zcV 0 hts w_932 w_933 w_934 w_27 w_935 (by decide +kernel) ⟨Nat.le_of_ble_eq_true rfl, Nat.le_of_ble_eq_true rfl⟩) (zc_preV hbase hK hN hQ hG hS hscC rfl) rfl rfl hl.1 rfl (lv_room (Nat.le_of_ble_eq_true rfl)) d_ZA_put_154 ⟨(by dsimp only; omega), (by dsimp only; omega)⟩) hS (fun r154 G154 H locs hp154 hG hS => ?_)
              have hG : zP E G149 H := hp154.2 ▸ hG
              refine zi_as (y := nI ((sX (oS (oe os7 i7) s7)).length)) hp154.1 ?_
              exact zt_iret hx hb hr hlocks (rfl) (⟨htm, roN, _, _, _, hrecD, ((hfN.w (fun _ z => z.elim)).tr (hfr7.w zKc_z)).tr hfC2, Or.inl ⟨⟨jp, hfst⟩, hstC, by rw [hVl7]⟩⟩) hG hS (by dsimp only; omega) (by dsimp only; omega) d_ZA_put_157
            · have b67 : ¬ 0 ≤ jp := fun q => c67 ((nI_leI (a := 0) (b := jp) (by omega) (by omega)).mpr q)
              exact absurd (Nat.zero_le _) b67
          · have hG : zP E G2 H := eg64 ▸ hG
            refine zi_as (y := -1) er64 ?_
            have hnod : ∀ q, q ∈ zV os (np_low lsn) t → q.2 ≠ zdb tp t (np_len lsn) := fun q hq e9 => by
              obtain ⟨i, hi, ei⟩ := List.getElem_of_mem hq
              rw [hVl] at hi
              have q9 := hVi i hi
              rw [List.getElem?_eq_getElem (by rw [hVl]; exact hi), ei] at q9
              have q8 := Option.some.inj q9
              exact hnsm i hi ((hcg i hi).mpr (by rw [← e9, q8]))
            refine lv_if_ge (tgt := 138) hx hb d_ZA_put_67 (by decide) (fun c67 => ?_) (fun c67 => ?_)
            · exact absurd c67 (by decide)
            · refine lv_aload_n hx hb d_ZA_put_70 rfl (lv_at hl 3 rfl) ?_
              refine zg_get (ci := 10) (C := "ZoneAnswers") (T := T_ZA) (N := 3) hx hb hts zi_ZA hown hK hG hO1N rfl 1 (by decide) (hts _ w_704) (fun _ h9 => h9) rfl d_ZA_put_71 ?_
              refine zk_i (va_runV (As := []) (rest := []) ⟨hx, hb, hml, hown, hts⟩ (t_Zo_isFull l E G2 (k 1) (k 11) (k 12) (k 13) (k 14) rc hz1N) (zcV 0 hts w_904 w_905 w_906 w_3 w_907 (by decide +kernel) ⟨Nat.le_of_ble_eq_true rfl, Nat.le_of_ble_eq_true rfl⟩) (zc_preV hbase hK hN hQ hG hS hz1N rfl) rfl rfl hl.1 rfl (lv_room (Nat.le_of_ble_eq_true rfl)) d_ZA_put_74 ⟨(by dsimp only; omega), (by dsimp only; omega)⟩) hS (fun r74 G74 H locs hp74 hG hS => ?_)
              have hG : zP E G2 H := hp74.2 ▸ hG
              refine lv_if_eq (tgt := 88) hx hb d_ZA_put_77 (by decide) (fun c77 => ?_) (fun c77 => ?_)
              · refine lv_aload hx hb d_ZA_put_88 (lv_at hl 1 rfl) ?_
                refine lv_ifnull hx hb d_ZA_put_90 ?_
                refine lv_iload_n hx hb d_ZA_put_93 rfl (lv_at hl 4 rfl) ?_
                refine lv_iconst (v := 5) hx hb d_ZA_put_94 (by decide) ?_
                refine lv_icmp_eq (tgt := 107) hx hb d_ZA_put_95 (by decide) (fun c95 => ?_) (fun c95 => ?_)
                · have hbad : (vD (zV os) (np_low lsn) ∧ (t = 5 ∨ zV os (np_low lsn) 5 ≠ [])) := ⟨hvD, Or.inl c95⟩
                  exact zt_row (names := zt_up) (ic := 106) hoff hx hb (hml.trans hl.1.symm) hown hts hQ hex hlocks (zt_words hts hN hQ zt_uoe) (by decide) (by decide) w_908 w_909 w_34 (Or.inr ⟨rfl, htm, _, _, hrecD, hnod, hbad⟩) (zg_P.sub hG (fun _ _ h9 => hxn.o h9)) hS hbase (by dsimp only; omega) (by dsimp only; omega) (Nat.le_of_ble_eq_true rfl) (Nat.le_of_ble_eq_true rfl) d_ZA_put_107 d_ZA_put_110 d_ZA_put_111 d_ZA_put_114
                · refine lv_aload hx hb d_ZA_put_98 (lv_at hl 1 rfl) ?_
                  refine lv_iconst (v := 5) hx hb d_ZA_put_100 (by decide) ?_
                  have hGo101 := hG
                  refine zk_q (va_runV (As := [.int 5]) (rest := []) ⟨hx, hb, hml, hown, hts⟩ (t_Ow_find_t l how9 (hGZ.1.2 oi hoi).2.1 5) (zcV 1 hts w_883 w_654 w_655 w_12 w_656 (by decide +kernel) ⟨Nat.le_of_ble_eq_true rfl, Nat.le_of_ble_eq_true rfl⟩) (zc_preV hbase hK hN hQ hG hS how9.1 rfl) rfl rfl hl.1 rfl (lv_room (Nat.le_of_ble_eq_true rfl)) d_ZA_put_101 ⟨(by dsimp only; omega), (by dsimp only; omega)⟩) hS (fun r101 G101 H locs hp101 hG hS => ?_)
                  rcases hp101 with ⟨⟨jc, hjc, htc, hjc3, er101⟩ | ⟨hjcn, er101⟩, eg101⟩
                  · have hG : zP E G2 H := eg101 ▸ hG
                    refine zr_some (a := sA (oS (oe os oi) jc)) er101 ?_
                    have hbad : (vD (zV os) (np_low lsn) ∧ (t = 5 ∨ zV os (np_low lsn) 5 ≠ [])) := ⟨hvD, Or.inr (by rw [← ho2]; exact (zV_ne hGZ.1 hoi).mpr ⟨jc, hjc, htc⟩)⟩
                    refine lv_ifnull hx hb d_ZA_put_104 ?_
                    exact zt_row (names := zt_up) (ic := 106) hoff hx hb (hml.trans hl.1.symm) hown hts hQ hex hlocks (zt_words hts hN hQ zt_uoe) (by decide) (by decide) w_908 w_909 w_34 (Or.inr ⟨rfl, htm, _, _, hrecD, hnod, hbad⟩) (zg_P.sub hG (fun _ _ h9 => hxn.o h9)) hS hbase (by dsimp only; omega) (by dsimp only; omega) (Nat.le_of_ble_eq_true rfl) (Nat.le_of_ble_eq_true rfl) d_ZA_put_107 d_ZA_put_110 d_ZA_put_111 d_ZA_put_114
                  · have hG : zP E G2 H := eg101 ▸ hG
                    refine zr_none er101 ?_
                    have hgood : ¬ (vD (zV os) (np_low lsn) ∧ (t = 5 ∨ zV os (np_low lsn) 5 ≠ [])) := fun z => z.2.elim c95 (fun q => q (by rw [← ho2]; exact zV_fd hGZ.1 hoi hjcn))
                    refine lv_ifnullN (tgt := 115) hx hb d_ZA_put_104 (by decide) ?_
                    refine lv_aload_n hx hb d_ZA_put_115 rfl (lv_at hl 3 rfl) ?_
                    refine zg_get (ci := 10) (C := "ZoneAnswers") (T := T_ZA) (N := 3) hx hb hts zi_ZA hown hK hG hO1N rfl 1 (by decide) (hts _ w_704) (fun _ h9 => h9) rfl d_ZA_put_116 ?_
                    refine lv_aload_n hx hb d_ZA_put_119 rfl (lv_at hl 2 rfl) ?_
                    refine lv_iload_n hx hb d_ZA_put_120 rfl (lv_at hl 4 rfl) ?_
                    refine lv_aload_n hx hb d_ZA_put_121 rfl (lv_at hl 3 rfl) ?_
                    refine zg_get (ci := 10) (C := "ZoneAnswers") (T := T_ZA) (N := 3) hx hb hts zi_ZA hown hK hG hO1N rfl 0 (by decide) (hts _ w_703) (fun _ h9 => h9) rfl d_ZA_put_122 ?_
                    refine lv_iload_n hx hb d_ZA_put_125 rfl (lv_at hl 4 rfl) ?_
                    refine lv_aload_n hx hb d_ZA_put_126 rfl (lv_at hl 2 rfl) ?_
                    have hbig := hs9 htm _ _ hrecD hnod hgood
                    have hGo127 := hG
                    refine zk_i (va_runV (As := []) (rest := [.int t, .ref (k 17), .int t, .ref qn, .ref (k 1)]) ⟨hx, hb, hml, hown, hts⟩ (t_Na_length l E G2 qn b_qnN (np_low lsn) f_qnN hq1_qnN hq2_qnN hq3_qnN hq4_qnN) (zcV 0 hts w_884 w_885 w_886 w_7 w_887 (by decide +kernel) ⟨Nat.le_of_ble_eq_true rfl, Nat.le_of_ble_eq_true rfl⟩) (zc_preV hbase hK hN hQ hG hS hq1_qnN rfl) rfl rfl hl.1 rfl (lv_room (Nat.le_of_ble_eq_true rfl)) d_ZA_put_127 ⟨(by dsimp only; omega), (by dsimp only; omega)⟩) hS (fun r127 G127 H locs hp127 hG hS => ?_)
                    have hG : zP E G2 H := hp127.2 ▸ hG
                    refine zi_as (y := nI (np_len lsn)) (hp127.1.trans (by rw [hlow])) ?_
                    have hGo130 := hG
                    refine zk_q (va_runV (As := [.int t, .int (nI (np_len lsn))]) (rest := [.int t, .ref qn, .ref (k 1)]) ⟨hx, hb, hml, hown, hts⟩ (t_Ta_datum l E G2 (k 17) b tp hTpN hO5 t (np_len lsn) hxl hdat) (zcV 2 hts w_923 w_924 w_925 w_2 w_926 (by decide +kernel) ⟨Nat.le_of_ble_eq_true rfl, Nat.le_of_ble_eq_true rfl⟩) (zc_preV hbase hK hN hQ hG hS hTpN.1 rfl) rfl rfl hl.1 rfl (lv_room (Nat.le_of_ble_eq_true rfl)) d_ZA_put_130 ⟨(by dsimp only; omega), (by dsimp only; omega)⟩) hS (fun r130 G130 H locs hp130 hG hS => ?_)
                    obtain ⟨qd, tg, er130, hDn, hdA, hdB⟩ := hp130
                    refine zr_some (a := qd) er130 ?_
                    obtain ⟨roD, hrD, hDD⟩ := hDn.2 roN
                    have hED : G130 (E.2.2.2 0) = none := hQ.out hG
                    have hfD : zfr roN (fun _ => False) _ roD _ := zfr.z hDn.1 hrD
                    have hObD := hObN.z hfD hEN hED
                    have hNqD := hNqn.fr hfD id
                    obtain ⟨hCxD, hO1D, hO2D, hTpD, hO3D, hO4D, hO5D⟩ := id hObD
                    obtain ⟨⟨hz1D, hz2D, hz3D, hz4D, hz5D, soaD, u9D, hz6D, hz7D, hz8D, hz9D, hzAD⟩, ⟨ha1D, ha2D, hs1D, hs2D, hs3D⟩, hT1D⟩ := id hCxD
                    obtain ⟨boD, foD, hno1D, hno2D, hno3D, hno4D, hno5D, -⟩ := id hz4D
                    have hszB := zsz hGZ.1 (Nat.le_refl _) hzn
                    have hosz := hsz.1
                    have hGo133 := hG
                    refine zk_q (va_runV (As := [.ref qn, .int t, .ref qd]) (rest := []) ⟨hx, hb, hml, hown, hts⟩ (t_Zo_insert l E G130 (k 1) (k 11) (k 12) (k 13) (k 14) rc hz1D roD (k 15) os hz3D hz2D hGZ.1 (by omega) (2 * znr os + 10) hszB.1 hszB.2.1 hszB.2.2 qn (np_low lsn) hNqD t (qd, zdb tp t (np_len lsn), tg) hDD) (zcV 3 hts w_931 w_152 w_153 w_3 w_154 (by decide +kernel) ⟨Nat.le_of_ble_eq_true rfl, Nat.le_of_ble_eq_true rfl⟩) (zc_preV hbase hK hN hQ hG hS hz1D rfl) rfl rfl hl.1 rfl (lv_room (Nat.le_of_ble_eq_true rfl)) d_ZA_put_133 ⟨(by dsimp only; omega), (by dsimp only; omega)⟩) hS (fun r133 G133 H locs hp133 hG hS => ?_)
                    obtain ⟨ro4, dd4, os4, kk9, si9, hZ4, hfr4, hra4, haz4, hgo4, hln4, hnr4, hkk4, hM4, hsi4, hT4, er4, hgt4, hc4, hsa4⟩ := hp133
                    obtain ⟨os5, e5⟩ : ∃ z, z = zmc os4 := ⟨_, rfl⟩
                    rw [← e5] at hZ4
                    have hkk5 : kk9 < os5.length := by rw [e5, zmc_len]; exact hkk4
                    have hM5 : oM (oe os5 kk9) = np_low lsn := by rw [e5, (zmc_o hkk4).2.1]; exact hM4
                    have hS5 : oS (oe os5 kk9) si9 = oS (oe os4 kk9) si9 := by rw [e5]; exact zmc_s hkk4
                    have hsi5 : si9 < (oX (oe os5 kk9)).length := by rw [e5, (zmc_o hkk4).2.2]; exact hsi4
                    have hT5 : sT (oS (oe os5 kk9) si9) = t := by rw [hS5]; exact hT4
                    have hgo5 : zgo os5 := by rw [e5]; exact zmc_go hgo4
                    have hgt5 : ∀ y u, zgt os5 y u = if y = np_low lsn ∧ u = t then zgt os y u ++ [(sU (oS (oe os5 kk9) si9), (zdb tp t (np_len lsn), tg))] else zgt os y u := fun y u => by rw [e5, zmc_gt, hgt4, ← e5, hS5]
                    have hct5 : zctd os5 := by rw [e5]; exact zctd_mc (hc4 (Or.inr (zctd_0 hGZ.2.1 hne)))
                    have hnr5 : znr os5 = znr os + 1 := by rw [e5, zmc_nr, hnr4]
                    have hE4 : G133 (E.2.2.2 0) = none := hQ.out hG
                    have hSR4 := (hZ4.2 _ (oe_mem hkk5)).2.2.2.2 _ (oS_mem hsi5)
                    have hsa5 : ∀ y u q, zsa os y u q → zsa os5 y u q := fun y u q z => by rw [e5]; exact zsa_mc (hsa4 y u q z)
                    refine zr_some (a := sA (oS (oe os5 kk9) si9)) (er4.trans (by rw [hS5])) ?_
                    refine lv_astore (lv' := [(5, .ref (sA (oS (oe os5 kk9) si9))), (4, .ref (oA (oe os oi))), (3, .ref qn), (0, .ref (k 16)), (1, .int t), (2, .int tm)]) hx hb d_ZA_put_136 hl (by decide) rfl (fun ls hl => ?_)
                    refine lv_aload hx hb d_ZA_put_138 (lv_at hl 0 rfl) ?_
                    refine lv_iload_n hx hb d_ZA_put_140 rfl (lv_at hl 5 rfl) ?_
                    refine zg_put (ci := 5) (v := .int tm) (ty := .int) (C := "ZoneAnswers$Rrset") (T := T_Rr) (N := 3) hx hb hts zi_Rr t_Rr t_Rr_ok n_Rr hown hK hG hS hSR4.1 rfl 1 (by decide) (hts _ w_624) (fun _ h9 => h9) rfl (by decide +kernel) rfl rfl (Nat.le_of_ble_eq_true rfl) d_ZA_put_141 (fun H locs hG hS => ?_)
                    obtain ⟨G4, eG4⟩ : ∃ z : zg_G, z = zg_up G133 (sA (oS (oe os5 kk9) si9)) (.inr (5, [.int (sT (oS (oe os5 kk9) si9)), .int tm, .ref (sL (oS (oe os5 kk9) si9))])) := ⟨_, rfl⟩
                    have hG : zP E G4 H := by rw [eG4]; exact hG
                    have k5 : G4 (k 1) = some (.inr (9, [.ref (k 11), .ref (k 12), .ref (k 13), .ref (k 14), .int (rc + 1)])) := by rw [eG4, zg_up_ne (zg_ne haz4 hSR4.1 (by intro h; simp at h))]; exact haz4
                    have k6 : G4 (sA (oS (oe os5 kk9) si9)) = some (.inr (5, [.int (sT (oS (oe os5 kk9) si9)), .int tm, .ref (sL (oS (oe os5 kk9) si9))])) := by rw [eG4]; exact zg_up_self _ _ _
                    obtain ⟨os7, hZ7, hfr7, hgo7, hct7, hnr7, hln7, hgt7, hsa7⟩ := zTim (u := tm) hZ4 hgo5 hkk5 hsi5 hE4
                    rw [← eG4] at hZ7 hfr7
                    have hE7 : G4 (E.2.2.2 0) = none := hQ.out hG
                    have hV7 : zV os7 = vpt (zV os) (np_low lsn) t tm [(0, zdb tp t (np_len lsn))] := zV_cg (fun y u => by
                      rw [hgt7, hM5, hT5]; unfold vpt
                      by_cases z : y = np_low lsn ∧ u = t
                      · rw [if_pos z, if_pos z, hgt5, if_pos z]; unfold zV; rw [List.map_map, List.map_append, List.map_append, List.map_map]; rfl
                      · rw [if_neg z, if_neg z, hgt5, if_neg z]; rfl)
                    have hst7 : ∀ y u, vpt (zV os) (np_low lsn) t tm [(0, zdb tp t (np_len lsn))] y u ≠ [] → zV os y u ≠ [] ∨ (y = np_low lsn ∧ u = t) := fun y u => vpt_ne
                    have ht6 : vpt (zV os) (np_low lsn) t tm [(0, zdb tp t (np_len lsn))] top 6 = zV os top 6 := by unfold vpt; rw [if_neg (fun z => zput_n6 hpt z.2.symm)]
                    obtain ⟨hq1, hq2, hq3⟩ := hGZ.all
                    have hGZ7 : zGZ os7 top := zGZ.of hgo7 (hct7 hct5) hZ7 ⟨6, by rw [hV7, ht6, hz8N]; simp⟩ (fun x ⟨u, hxu⟩ => (hst7 x u (by rw [← hV7]; exact hxu)).elim (fun z => hq2 x ⟨u, z⟩) (fun z => by rw [z.1]; exact hxt)) (fun x u hxu => (hst7 x u (by rw [← hV7]; exact hxu)).elim (hq3 x u) (fun z => by rw [z.2]; exact zput_ty hpt))
                    have hsub : ∀ x u q, q ∈ zgt os7 x u → (∃ q2 ∈ zgt os x u, q2.2 = q.2) ∨ (u = t ∧ q.2 = (zdb tp t (np_len lsn), tg)) := fun x u q hq => by
                      rw [hgt7, hM5, hT5] at hq
                      by_cases z : x = np_low lsn ∧ u = t
                      · rw [if_pos z] at hq
                        obtain ⟨q2, h1, h2⟩ := List.mem_map.mp hq
                        rw [hgt5, if_pos z] at h1
                        rcases List.mem_append.mp h1 with h1 | h1
                        · exact Or.inl ⟨q2, h1, by rw [← h2]⟩
                        · exact Or.inr ⟨z.2, by rw [← h2, List.mem_singleton.mp h1]⟩
                      · rw [if_neg z, hgt5, if_neg z] at hq; exact Or.inl ⟨q, hq, rfl⟩
                    have hdw7 : zdw os7 := zdw_iff.mpr (fun x u q hq => by
                      rcases hsub x u q hq with ⟨q2, h1, h2⟩ | ⟨h1, h2⟩
                      · rw [← h2]; exact zdw_iff.mp hdw x u q2 h1
                      · rw [h1, h2]; exact hdA)
                    have hdx7 : zdx os7 := fun x u q hq => by
                      rcases hsub x u q hq with ⟨q2, h1, h2⟩ | ⟨h1, h2⟩
                      · rw [← h2]; exact hdx x u q2 h1
                      · rw [h1, h2]; exact hdB
                    have hrc7 : rc + 1 = nI (znr os7) := by rw [hrc, hnr7, hnr5, show (1 : Int32) = nI 1 from rfl, nI_add]
                    have haz7 : G4 (k 1) = some (.inr (9, [.ref (k 11), .ref (k 12), .ref (k 13), .ref (k 14), .int (rc + 1)])) := k5
                    have hZn7 : zZn E G4 ro4 (ku k 15 dd4) (rc + 1) os7 top := ⟨haz7, hra4, hZ7, hz4D.fr (hfr4.tr hfr7) zKz_0, hsa7 _ _ _ (hsa5 _ _ _ hz5N), soaD, u9D, (hz6D.fr hz7D (hfr4.tr hfr7) zKz_0).1, (hz6D.fr hz7D (hfr4.tr hfr7) zKz_0).2, by rw [hV7, ht6]; exact hz8D, hz9D, hzAD⟩
                    have hOb7 : zOb E G4 ro4 (ku k 15 dd4) (rc + 1) ty se os7 top d1 d2 d3 t1 t2 t3 b tp := hObD.zn (hfr4.tr hfr7) hED hE7 hZn7 (fun n hn => if_neg (by omega))
                    have hTp7 : G4 (k 17) = some (.inr (7, [.ref b, .int (nI tp.length)])) := hOb7.2.2.2.1.1
                    have hO17 : G4 (k 16) = some (.inr (10, [.ref (k 17), .ref (k 1), .ref (k 0)])) := hOb7.2.1
                    obtain ⟨i7, s7, hi7, hMi7, hs7, hTi7, hA7⟩ := zsa_ix (hsa7 (np_low lsn) t (sA (oS (oe os5 kk9) si9)) (by rw [← hM5, ← hT5]; exact zsa_of hkk5 hsi5))
                    have hVl7 := congrArg List.length (zV_s hgo7 hi7 hs7)
                    rw [hMi7, hTi7, hV7, List.length_map] at hVl7
                    have hSR7 := (hZ7.2 _ (oe_mem hi7)).2.2.2.2 _ (oS_mem hs7)
                    obtain ⟨⟨⟨kl7, hql7⟩, -⟩, -⟩ := id hSR7.2.2.1
                    rw [List.length_map] at hql7
                    have hsc7 := hSR7.1
                    rw [hA7] at hsc7
                    refine lv_aload_n hx hb d_ZA_put_144 rfl (lv_at hl 3 rfl) ?_
                    refine zg_get (ci := 10) (C := "ZoneAnswers") (T := T_ZA) (N := 3) hx hb hts zi_ZA hown hK hG hO17 rfl 0 (by decide) (hts _ w_703) (fun _ h9 => h9) rfl d_ZA_put_145 ?_
                    refine lv_iconst (v := 0) hx hb d_ZA_put_148 (by decide) ?_
                    have hGo149 := hG
                    refine zk_v (va_runV (As := [.int 0]) (rest := []) ⟨hx, hb, hml, hown, hts⟩ (t_Ta_cutTo l E G4 (k 17) b (nI tp.length) hTp7 0) (zcV 1 hts w_818 w_819 w_820 w_2 w_821 (by decide +kernel) ⟨Nat.le_of_ble_eq_true rfl, Nat.le_of_ble_eq_true rfl⟩) (zc_preV hbase hK hN hQ hG hS hTp7 rfl) rfl rfl hl.1 rfl (lv_room (Nat.le_of_ble_eq_true rfl)) d_ZA_put_149 ⟨(by dsimp only; omega), (by dsimp only; omega)⟩) hS (fun G149 H locs hp149 hG hS => ?_)
                    have hEC : G149 (E.2.2.2 0) = none := hQ.out hG
                    obtain ⟨hObC, hfC⟩ := hOb7.cut hE7 0 (Nat.zero_le _) (by rw [show nI 0 = 0 from nI_0]; exact hp149 ▸ hEC)
                    have hObC2 : zOb E G149 ro4 (ku k 15 dd4) (rc + 1) ty se os7 top d1 d2 d3 t1 t2 t3 b (tp.take 0) := by rw [hp149, ← nI_0]; exact hObC
                    have hfC2 : zfr ro4 zKc G4 ro4 G149 := by rw [hp149, ← nI_0]; exact hfC
                    rw [List.take_zero] at hObC2
                    have hstC := hObC2.st hGZ7 hdw7 hdx7 hrc7
                    rw [hV7] at hstC
                    have hscC : G149 (sA (oS (oe os5 kk9) si9)) = some (.inr (5, [.int (sT (oS (oe os7 i7) s7)), .int (sU (oS (oe os7 i7) s7)), .ref (sL (oS (oe os7 i7) s7))])) := by rw [hp149, zg_up_ne (zg_ne hsc7 hTp7 (by intro h; simp at h))]; exact hsc7
                    have hslC : G149 (sL (oS (oe os7 i7) s7)) = some (.inr (0, [.ref (sD (oS (oe os7 i7) s7)), .int (nI ((sX (oS (oe os7 i7) s7)).length)), .int kl7])) := by rw [hp149, zg_up_ne (zg_ne hql7 hTp7 (by intro h; simp at h))]; exact hql7
                    refine lv_aload hx hb d_ZA_put_152 (lv_at hl 0 rfl) ?_
                    refine zk_i (va_runV (As := []) (rest := []) ⟨hx, hb, hml, hown, hts⟩ (t_Rr_size l E G149 (sA (oS (oe os5 kk9) si9)) (sT (oS (oe os7 i7) s7)) (sU (oS (oe os7 i7) s7)) (sL (oS (oe os7 i7) s7)) (.ref (sD (oS (oe os7 i7) s7))) (nI ((sX (oS (oe os7 i7) s7)).length)) kl7 hslC hscC) (zcV 0 hts w_932 w_933 w_934 w_27 w_935 (by decide +kernel) ⟨Nat.le_of_ble_eq_true rfl, Nat.le_of_ble_eq_true rfl⟩) (zc_preV hbase hK hN hQ hG hS hscC rfl) rfl rfl hl.1 rfl (lv_room (Nat.le_of_ble_eq_true rfl)) d_ZA_put_154 ⟨(by dsimp only; omega), (by dsimp only; omega)⟩) hS (fun r154 G154 H locs hp154 hG hS => ?_)
                    have hG : zP E G149 H := hp154.2 ▸ hG
                    refine zi_as (y := nI ((sX (oS (oe os7 i7) s7)).length)) hp154.1 ?_
                    exact zt_iret hx hb hr hlocks (rfl) (⟨htm, ro4, _, _, _, hrecD, ((((hfN.w (fun _ z => z.elim)).tr (hfD.w (fun _ z => z.elim))).tr (hfr4.w zKc_z)).tr (hfr7.w zKc_z)).tr hfC2, Or.inr ⟨hnod, hgood, hstC, by rw [hVl7]⟩⟩) hG hS (by dsimp only; omega) (by dsimp only; omega) d_ZA_put_157
              · exact absurd (by rw [hrc]; exact (nI_ltI (a := znr os) (b := 2000) (by omega) (by omega)).mpr hzn) (hp74.1.nz c77)
        · have hG : zP E G2 H := eg44 ▸ hG
          refine zr_none er44 ?_
          have hnod : ∀ q, q ∈ zV os (np_low lsn) t → q.2 ≠ zdb tp t (np_len lsn) := fun q hq => by rw [← ho2, zV_fd hGZ.1 hoi hj9n] at hq; cases hq
          refine lv_astoreN (lv' := [(5, .null), (4, .ref (oA (oe os oi))), (3, .ref qn), (0, .ref (k 16)), (1, .int t), (2, .int tm)]) hx hb d_ZA_put_47 hl (by decide) rfl (fun ls hl => ?_)
          refine lv_aloadN hx hb d_ZA_put_49 (lv_at hl 0 rfl) ?_
          refine lv_ifnullN (tgt := 70) hx hb d_ZA_put_51 (by decide) ?_
          refine lv_aload_n hx hb d_ZA_put_70 rfl (lv_at hl 3 rfl) ?_
          refine zg_get (ci := 10) (C := "ZoneAnswers") (T := T_ZA) (N := 3) hx hb hts zi_ZA hown hK hG hO1N rfl 1 (by decide) (hts _ w_704) (fun _ h9 => h9) rfl d_ZA_put_71 ?_
          refine zk_i (va_runV (As := []) (rest := []) ⟨hx, hb, hml, hown, hts⟩ (t_Zo_isFull l E G2 (k 1) (k 11) (k 12) (k 13) (k 14) rc hz1N) (zcV 0 hts w_904 w_905 w_906 w_3 w_907 (by decide +kernel) ⟨Nat.le_of_ble_eq_true rfl, Nat.le_of_ble_eq_true rfl⟩) (zc_preV hbase hK hN hQ hG hS hz1N rfl) rfl rfl hl.1 rfl (lv_room (Nat.le_of_ble_eq_true rfl)) d_ZA_put_74 ⟨(by dsimp only; omega), (by dsimp only; omega)⟩) hS (fun r74 G74 H locs hp74 hG hS => ?_)
          have hG : zP E G2 H := hp74.2 ▸ hG
          refine lv_if_eq (tgt := 88) hx hb d_ZA_put_77 (by decide) (fun c77 => ?_) (fun c77 => ?_)
          · refine lv_aload hx hb d_ZA_put_88 (lv_at hl 1 rfl) ?_
            refine lv_ifnull hx hb d_ZA_put_90 ?_
            refine lv_iload_n hx hb d_ZA_put_93 rfl (lv_at hl 4 rfl) ?_
            refine lv_iconst (v := 5) hx hb d_ZA_put_94 (by decide) ?_
            refine lv_icmp_eq (tgt := 107) hx hb d_ZA_put_95 (by decide) (fun c95 => ?_) (fun c95 => ?_)
            · have hbad : (vD (zV os) (np_low lsn) ∧ (t = 5 ∨ zV os (np_low lsn) 5 ≠ [])) := ⟨hvD, Or.inl c95⟩
              exact zt_row (names := zt_up) (ic := 106) hoff hx hb (hml.trans hl.1.symm) hown hts hQ hex hlocks (zt_words hts hN hQ zt_uoe) (by decide) (by decide) w_908 w_909 w_34 (Or.inr ⟨rfl, htm, _, _, hrecD, hnod, hbad⟩) (zg_P.sub hG (fun _ _ h9 => hxn.o h9)) hS hbase (by dsimp only; omega) (by dsimp only; omega) (Nat.le_of_ble_eq_true rfl) (Nat.le_of_ble_eq_true rfl) d_ZA_put_107 d_ZA_put_110 d_ZA_put_111 d_ZA_put_114
            · refine lv_aload hx hb d_ZA_put_98 (lv_at hl 1 rfl) ?_
              refine lv_iconst (v := 5) hx hb d_ZA_put_100 (by decide) ?_
              have hGo101 := hG
              refine zk_q (va_runV (As := [.int 5]) (rest := []) ⟨hx, hb, hml, hown, hts⟩ (t_Ow_find_t l how9 (hGZ.1.2 oi hoi).2.1 5) (zcV 1 hts w_883 w_654 w_655 w_12 w_656 (by decide +kernel) ⟨Nat.le_of_ble_eq_true rfl, Nat.le_of_ble_eq_true rfl⟩) (zc_preV hbase hK hN hQ hG hS how9.1 rfl) rfl rfl hl.1 rfl (lv_room (Nat.le_of_ble_eq_true rfl)) d_ZA_put_101 ⟨(by dsimp only; omega), (by dsimp only; omega)⟩) hS (fun r101 G101 H locs hp101 hG hS => ?_)
              rcases hp101 with ⟨⟨jc, hjc, htc, hjc3, er101⟩ | ⟨hjcn, er101⟩, eg101⟩
              · have hG : zP E G2 H := eg101 ▸ hG
                refine zr_some (a := sA (oS (oe os oi) jc)) er101 ?_
                have hbad : (vD (zV os) (np_low lsn) ∧ (t = 5 ∨ zV os (np_low lsn) 5 ≠ [])) := ⟨hvD, Or.inr (by rw [← ho2]; exact (zV_ne hGZ.1 hoi).mpr ⟨jc, hjc, htc⟩)⟩
                refine lv_ifnull hx hb d_ZA_put_104 ?_
                exact zt_row (names := zt_up) (ic := 106) hoff hx hb (hml.trans hl.1.symm) hown hts hQ hex hlocks (zt_words hts hN hQ zt_uoe) (by decide) (by decide) w_908 w_909 w_34 (Or.inr ⟨rfl, htm, _, _, hrecD, hnod, hbad⟩) (zg_P.sub hG (fun _ _ h9 => hxn.o h9)) hS hbase (by dsimp only; omega) (by dsimp only; omega) (Nat.le_of_ble_eq_true rfl) (Nat.le_of_ble_eq_true rfl) d_ZA_put_107 d_ZA_put_110 d_ZA_put_111 d_ZA_put_114
              · have hG : zP E G2 H := eg101 ▸ hG
                refine zr_none er101 ?_
                have hgood : ¬ (vD (zV os) (np_low lsn) ∧ (t = 5 ∨ zV os (np_low lsn) 5 ≠ [])) := fun z => z.2.elim c95 (fun q => q (by rw [← ho2]; exact zV_fd hGZ.1 hoi hjcn))
                refine lv_ifnullN (tgt := 115) hx hb d_ZA_put_104 (by decide) ?_
                refine lv_aload_n hx hb d_ZA_put_115 rfl (lv_at hl 3 rfl) ?_
                refine zg_get (ci := 10) (C := "ZoneAnswers") (T := T_ZA) (N := 3) hx hb hts zi_ZA hown hK hG hO1N rfl 1 (by decide) (hts _ w_704) (fun _ h9 => h9) rfl d_ZA_put_116 ?_
                refine lv_aload_n hx hb d_ZA_put_119 rfl (lv_at hl 2 rfl) ?_
                refine lv_iload_n hx hb d_ZA_put_120 rfl (lv_at hl 4 rfl) ?_
                refine lv_aload_n hx hb d_ZA_put_121 rfl (lv_at hl 3 rfl) ?_
                refine zg_get (ci := 10) (C := "ZoneAnswers") (T := T_ZA) (N := 3) hx hb hts zi_ZA hown hK hG hO1N rfl 0 (by decide) (hts _ w_703) (fun _ h9 => h9) rfl d_ZA_put_122 ?_
                refine lv_iload_n hx hb d_ZA_put_125 rfl (lv_at hl 4 rfl) ?_
                refine lv_aload_n hx hb d_ZA_put_126 rfl (lv_at hl 2 rfl) ?_
                have hbig := hs9 htm _ _ hrecD hnod hgood
                have hGo127 := hG
                refine zk_i (va_runV (As := []) (rest := [.int t, .ref (k 17), .int t, .ref qn, .ref (k 1)]) ⟨hx, hb, hml, hown, hts⟩ (t_Na_length l E G2 qn b_qnN (np_low lsn) f_qnN hq1_qnN hq2_qnN hq3_qnN hq4_qnN) (zcV 0 hts w_884 w_885 w_886 w_7 w_887 (by decide +kernel) ⟨Nat.le_of_ble_eq_true rfl, Nat.le_of_ble_eq_true rfl⟩) (zc_preV hbase hK hN hQ hG hS hq1_qnN rfl) rfl rfl hl.1 rfl (lv_room (Nat.le_of_ble_eq_true rfl)) d_ZA_put_127 ⟨(by dsimp only; omega), (by dsimp only; omega)⟩) hS (fun r127 G127 H locs hp127 hG hS => ?_)
                have hG : zP E G2 H := hp127.2 ▸ hG
                refine zi_as (y := nI (np_len lsn)) (hp127.1.trans (by rw [hlow])) ?_
                have hGo130 := hG
                refine zk_q (va_runV (As := [.int t, .int (nI (np_len lsn))]) (rest := [.int t, .ref qn, .ref (k 1)]) ⟨hx, hb, hml, hown, hts⟩ (t_Ta_datum l E G2 (k 17) b tp hTpN hO5 t (np_len lsn) hxl hdat) (zcV 2 hts w_923 w_924 w_925 w_2 w_926 (by decide +kernel) ⟨Nat.le_of_ble_eq_true rfl, Nat.le_of_ble_eq_true rfl⟩) (zc_preV hbase hK hN hQ hG hS hTpN.1 rfl) rfl rfl hl.1 rfl (lv_room (Nat.le_of_ble_eq_true rfl)) d_ZA_put_130 ⟨(by dsimp only; omega), (by dsimp only; omega)⟩) hS (fun r130 G130 H locs hp130 hG hS => ?_)
                obtain ⟨qd, tg, er130, hDn, hdA, hdB⟩ := hp130
                refine zr_some (a := qd) er130 ?_
                obtain ⟨roD, hrD, hDD⟩ := hDn.2 roN
                have hED : G130 (E.2.2.2 0) = none := hQ.out hG
                have hfD : zfr roN (fun _ => False) _ roD _ := zfr.z hDn.1 hrD
                have hObD := hObN.z hfD hEN hED
                have hNqD := hNqn.fr hfD id
                obtain ⟨hCxD, hO1D, hO2D, hTpD, hO3D, hO4D, hO5D⟩ := id hObD
                obtain ⟨⟨hz1D, hz2D, hz3D, hz4D, hz5D, soaD, u9D, hz6D, hz7D, hz8D, hz9D, hzAD⟩, ⟨ha1D, ha2D, hs1D, hs2D, hs3D⟩, hT1D⟩ := id hCxD
                obtain ⟨boD, foD, hno1D, hno2D, hno3D, hno4D, hno5D, -⟩ := id hz4D
                have hszB := zsz hGZ.1 (Nat.le_refl _) hzn
                have hosz := hsz.1
                have hGo133 := hG
                refine zk_q (va_runV (As := [.ref qn, .int t, .ref qd]) (rest := []) ⟨hx, hb, hml, hown, hts⟩ (t_Zo_insert l E G130 (k 1) (k 11) (k 12) (k 13) (k 14) rc hz1D roD (k 15) os hz3D hz2D hGZ.1 (by omega) (2 * znr os + 10) hszB.1 hszB.2.1 hszB.2.2 qn (np_low lsn) hNqD t (qd, zdb tp t (np_len lsn), tg) hDD) (zcV 3 hts w_931 w_152 w_153 w_3 w_154 (by decide +kernel) ⟨Nat.le_of_ble_eq_true rfl, Nat.le_of_ble_eq_true rfl⟩) (zc_preV hbase hK hN hQ hG hS hz1D rfl) rfl rfl hl.1 rfl (lv_room (Nat.le_of_ble_eq_true rfl)) d_ZA_put_133 ⟨(by dsimp only; omega), (by dsimp only; omega)⟩) hS (fun r133 G133 H locs hp133 hG hS => ?_)
                obtain ⟨ro4, dd4, os4, kk9, si9, hZ4, hfr4, hra4, haz4, hgo4, hln4, hnr4, hkk4, hM4, hsi4, hT4, er4, hgt4, hc4, hsa4⟩ := hp133
                obtain ⟨os5, e5⟩ : ∃ z, z = zmc os4 := ⟨_, rfl⟩
                rw [← e5] at hZ4
                have hkk5 : kk9 < os5.length := by rw [e5, zmc_len]; exact hkk4
                have hM5 : oM (oe os5 kk9) = np_low lsn := by rw [e5, (zmc_o hkk4).2.1]; exact hM4
                have hS5 : oS (oe os5 kk9) si9 = oS (oe os4 kk9) si9 := by rw [e5]; exact zmc_s hkk4
                have hsi5 : si9 < (oX (oe os5 kk9)).length := by rw [e5, (zmc_o hkk4).2.2]; exact hsi4
                have hT5 : sT (oS (oe os5 kk9) si9) = t := by rw [hS5]; exact hT4
                have hgo5 : zgo os5 := by rw [e5]; exact zmc_go hgo4
                have hgt5 : ∀ y u, zgt os5 y u = if y = np_low lsn ∧ u = t then zgt os y u ++ [(sU (oS (oe os5 kk9) si9), (zdb tp t (np_len lsn), tg))] else zgt os y u := fun y u => by rw [e5, zmc_gt, hgt4, ← e5, hS5]
                have hct5 : zctd os5 := by rw [e5]; exact zctd_mc (hc4 (Or.inr (zctd_0 hGZ.2.1 hne)))
                have hnr5 : znr os5 = znr os + 1 := by rw [e5, zmc_nr, hnr4]
                have hE4 : G133 (E.2.2.2 0) = none := hQ.out hG
                have hSR4 := (hZ4.2 _ (oe_mem hkk5)).2.2.2.2 _ (oS_mem hsi5)
                have hsa5 : ∀ y u q, zsa os y u q → zsa os5 y u q := fun y u q z => by rw [e5]; exact zsa_mc (hsa4 y u q z)
                refine zr_some (a := sA (oS (oe os5 kk9) si9)) (er4.trans (by rw [hS5])) ?_
                refine lv_astore (lv' := [(5, .ref (sA (oS (oe os5 kk9) si9))), (4, .ref (oA (oe os oi))), (3, .ref qn), (0, .ref (k 16)), (1, .int t), (2, .int tm)]) hx hb d_ZA_put_136 hl (by decide) rfl (fun ls hl => ?_)
                refine lv_aload hx hb d_ZA_put_138 (lv_at hl 0 rfl) ?_
                refine lv_iload_n hx hb d_ZA_put_140 rfl (lv_at hl 5 rfl) ?_
                refine zg_put (ci := 5) (v := .int tm) (ty := .int) (C := "ZoneAnswers$Rrset") (T := T_Rr) (N := 3) hx hb hts zi_Rr t_Rr t_Rr_ok n_Rr hown hK hG hS hSR4.1 rfl 1 (by decide) (hts _ w_624) (fun _ h9 => h9) rfl (by decide +kernel) rfl rfl (Nat.le_of_ble_eq_true rfl) d_ZA_put_141 (fun H locs hG hS => ?_)
                obtain ⟨G7, eG7⟩ : ∃ z : zg_G, z = zg_up G133 (sA (oS (oe os5 kk9) si9)) (.inr (5, [.int (sT (oS (oe os5 kk9) si9)), .int tm, .ref (sL (oS (oe os5 kk9) si9))])) := ⟨_, rfl⟩
                have hG : zP E G7 H := by rw [eG7]; exact hG
                have k8 : G7 (k 1) = some (.inr (9, [.ref (k 11), .ref (k 12), .ref (k 13), .ref (k 14), .int (rc + 1)])) := by rw [eG7, zg_up_ne (zg_ne haz4 hSR4.1 (by intro h; simp at h))]; exact haz4
                have k9 : G7 (sA (oS (oe os5 kk9) si9)) = some (.inr (5, [.int (sT (oS (oe os5 kk9) si9)), .int tm, .ref (sL (oS (oe os5 kk9) si9))])) := by rw [eG7]; exact zg_up_self _ _ _
                obtain ⟨os7, hZ7, hfr7, hgo7, hct7, hnr7, hln7, hgt7, hsa7⟩ := zTim (u := tm) hZ4 hgo5 hkk5 hsi5 hE4
                rw [← eG7] at hZ7 hfr7
                have hE7 : G7 (E.2.2.2 0) = none := hQ.out hG
                have hV7 : zV os7 = vpt (zV os) (np_low lsn) t tm [(0, zdb tp t (np_len lsn))] := zV_cg (fun y u => by
                  rw [hgt7, hM5, hT5]; unfold vpt
                  by_cases z : y = np_low lsn ∧ u = t
                  · rw [if_pos z, if_pos z, hgt5, if_pos z]; unfold zV; rw [List.map_map, List.map_append, List.map_append, List.map_map]; rfl
                  · rw [if_neg z, if_neg z, hgt5, if_neg z]; rfl)
                have hst7 : ∀ y u, vpt (zV os) (np_low lsn) t tm [(0, zdb tp t (np_len lsn))] y u ≠ [] → zV os y u ≠ [] ∨ (y = np_low lsn ∧ u = t) := fun y u => vpt_ne
                have ht6 : vpt (zV os) (np_low lsn) t tm [(0, zdb tp t (np_len lsn))] top 6 = zV os top 6 := by unfold vpt; rw [if_neg (fun z => zput_n6 hpt z.2.symm)]
                obtain ⟨hq1, hq2, hq3⟩ := hGZ.all
                have hGZ7 : zGZ os7 top := zGZ.of hgo7 (hct7 hct5) hZ7 ⟨6, by rw [hV7, ht6, hz8N]; simp⟩ (fun x ⟨u, hxu⟩ => (hst7 x u (by rw [← hV7]; exact hxu)).elim (fun z => hq2 x ⟨u, z⟩) (fun z => by rw [z.1]; exact hxt)) (fun x u hxu => (hst7 x u (by rw [← hV7]; exact hxu)).elim (hq3 x u) (fun z => by rw [z.2]; exact zput_ty hpt))
                have hsub : ∀ x u q, q ∈ zgt os7 x u → (∃ q2 ∈ zgt os x u, q2.2 = q.2) ∨ (u = t ∧ q.2 = (zdb tp t (np_len lsn), tg)) := fun x u q hq => by
                  rw [hgt7, hM5, hT5] at hq
                  by_cases z : x = np_low lsn ∧ u = t
                  · rw [if_pos z] at hq
                    obtain ⟨q2, h1, h2⟩ := List.mem_map.mp hq
                    rw [hgt5, if_pos z] at h1
                    rcases List.mem_append.mp h1 with h1 | h1
                    · exact Or.inl ⟨q2, h1, by rw [← h2]⟩
                    · exact Or.inr ⟨z.2, by rw [← h2, List.mem_singleton.mp h1]⟩
                  · rw [if_neg z, hgt5, if_neg z] at hq; exact Or.inl ⟨q, hq, rfl⟩
                have hdw7 : zdw os7 := zdw_iff.mpr (fun x u q hq => by
                  rcases hsub x u q hq with ⟨q2, h1, h2⟩ | ⟨h1, h2⟩
                  · rw [← h2]; exact zdw_iff.mp hdw x u q2 h1
                  · rw [h1, h2]; exact hdA)
                have hdx7 : zdx os7 := fun x u q hq => by
                  rcases hsub x u q hq with ⟨q2, h1, h2⟩ | ⟨h1, h2⟩
                  · rw [← h2]; exact hdx x u q2 h1
                  · rw [h1, h2]; exact hdB
                have hrc7 : rc + 1 = nI (znr os7) := by rw [hrc, hnr7, hnr5, show (1 : Int32) = nI 1 from rfl, nI_add]
                have haz7 : G7 (k 1) = some (.inr (9, [.ref (k 11), .ref (k 12), .ref (k 13), .ref (k 14), .int (rc + 1)])) := k8
                have hZn7 : zZn E G7 ro4 (ku k 15 dd4) (rc + 1) os7 top := ⟨haz7, hra4, hZ7, hz4D.fr (hfr4.tr hfr7) zKz_0, hsa7 _ _ _ (hsa5 _ _ _ hz5N), soaD, u9D, (hz6D.fr hz7D (hfr4.tr hfr7) zKz_0).1, (hz6D.fr hz7D (hfr4.tr hfr7) zKz_0).2, by rw [hV7, ht6]; exact hz8D, hz9D, hzAD⟩
                have hOb7 : zOb E G7 ro4 (ku k 15 dd4) (rc + 1) ty se os7 top d1 d2 d3 t1 t2 t3 b tp := hObD.zn (hfr4.tr hfr7) hED hE7 hZn7 (fun n hn => if_neg (by omega))
                have hTp7 : G7 (k 17) = some (.inr (7, [.ref b, .int (nI tp.length)])) := hOb7.2.2.2.1.1
                have hO17 : G7 (k 16) = some (.inr (10, [.ref (k 17), .ref (k 1), .ref (k 0)])) := hOb7.2.1
                obtain ⟨i7, s7, hi7, hMi7, hs7, hTi7, hA7⟩ := zsa_ix (hsa7 (np_low lsn) t (sA (oS (oe os5 kk9) si9)) (by rw [← hM5, ← hT5]; exact zsa_of hkk5 hsi5))
                have hVl7 := congrArg List.length (zV_s hgo7 hi7 hs7)
                rw [hMi7, hTi7, hV7, List.length_map] at hVl7
                have hSR7 := (hZ7.2 _ (oe_mem hi7)).2.2.2.2 _ (oS_mem hs7)
                obtain ⟨⟨⟨kl7, hql7⟩, -⟩, -⟩ := id hSR7.2.2.1
                rw [List.length_map] at hql7
                have hsc7 := hSR7.1
                rw [hA7] at hsc7
                refine lv_aload_n hx hb d_ZA_put_144 rfl (lv_at hl 3 rfl) ?_
                refine zg_get (ci := 10) (C := "ZoneAnswers") (T := T_ZA) (N := 3) hx hb hts zi_ZA hown hK hG hO17 rfl 0 (by decide) (hts _ w_703) (fun _ h9 => h9) rfl d_ZA_put_145 ?_
                refine lv_iconst (v := 0) hx hb d_ZA_put_148 (by decide) ?_
                have hGo149 := hG
                refine zk_v (va_runV (As := [.int 0]) (rest := []) ⟨hx, hb, hml, hown, hts⟩ (t_Ta_cutTo l E G7 (k 17) b (nI tp.length) hTp7 0) (zcV 1 hts w_818 w_819 w_820 w_2 w_821 (by decide +kernel) ⟨Nat.le_of_ble_eq_true rfl, Nat.le_of_ble_eq_true rfl⟩) (zc_preV hbase hK hN hQ hG hS hTp7 rfl) rfl rfl hl.1 rfl (lv_room (Nat.le_of_ble_eq_true rfl)) d_ZA_put_149 ⟨(by dsimp only; omega), (by dsimp only; omega)⟩) hS (fun G149 H locs hp149 hG hS => ?_)
                have hEC : G149 (E.2.2.2 0) = none := hQ.out hG
                obtain ⟨hObC, hfC⟩ := hOb7.cut hE7 0 (Nat.zero_le _) (by rw [show nI 0 = 0 from nI_0]; exact hp149 ▸ hEC)
                have hObC2 : zOb E G149 ro4 (ku k 15 dd4) (rc + 1) ty se os7 top d1 d2 d3 t1 t2 t3 b (tp.take 0) := by rw [hp149, ← nI_0]; exact hObC
                have hfC2 : zfr ro4 zKc G7 ro4 G149 := by rw [hp149, ← nI_0]; exact hfC
                rw [List.take_zero] at hObC2
                have hstC := hObC2.st hGZ7 hdw7 hdx7 hrc7
                rw [hV7] at hstC
                have hscC : G149 (sA (oS (oe os5 kk9) si9)) = some (.inr (5, [.int (sT (oS (oe os7 i7) s7)), .int (sU (oS (oe os7 i7) s7)), .ref (sL (oS (oe os7 i7) s7))])) := by rw [hp149, zg_up_ne (zg_ne hsc7 hTp7 (by intro h; simp at h))]; exact hsc7
                have hslC : G149 (sL (oS (oe os7 i7) s7)) = some (.inr (0, [.ref (sD (oS (oe os7 i7) s7)), .int (nI ((sX (oS (oe os7 i7) s7)).length)), .int kl7])) := by rw [hp149, zg_up_ne (zg_ne hql7 hTp7 (by intro h; simp at h))]; exact hql7
                refine lv_aload hx hb d_ZA_put_152 (lv_at hl 0 rfl) ?_
                refine zk_i (va_runV (As := []) (rest := []) ⟨hx, hb, hml, hown, hts⟩ (t_Rr_size l E G149 (sA (oS (oe os5 kk9) si9)) (sT (oS (oe os7 i7) s7)) (sU (oS (oe os7 i7) s7)) (sL (oS (oe os7 i7) s7)) (.ref (sD (oS (oe os7 i7) s7))) (nI ((sX (oS (oe os7 i7) s7)).length)) kl7 hslC hscC) (zcV 0 hts w_932 w_933 w_934 w_27 w_935 (by decide +kernel) ⟨Nat.le_of_ble_eq_true rfl, Nat.le_of_ble_eq_true rfl⟩) (zc_preV hbase hK hN hQ hG hS hscC rfl) rfl rfl hl.1 rfl (lv_room (Nat.le_of_ble_eq_true rfl)) d_ZA_put_154 ⟨(by dsimp only; omega), (by dsimp only; omega)⟩) hS (fun r154 G154 H locs hp154 hG hS => ?_)
                have hG : zP E G149 H := hp154.2 ▸ hG
                refine zi_as (y := nI ((sX (oS (oe os7 i7) s7)).length)) hp154.1 ?_
                exact zt_iret hx hb hr hlocks (rfl) (⟨htm, ro4, _, _, _, hrecD, ((((hfN.w (fun _ z => z.elim)).tr (hfD.w (fun _ z => z.elim))).tr (hfr4.w zKc_z)).tr (hfr7.w zKc_z)).tr hfC2, Or.inr ⟨hnod, hgood, hstC, by rw [hVl7]⟩⟩) hG hS (by dsimp only; omega) (by dsimp only; omega) d_ZA_put_157
          · exact absurd (by rw [hrc]; exact (nI_ltI (a := znr os) (b := 2000) (by omega) (by omega)).mpr hzn) (hp74.1.nz c77)
      · have hG : zP E G2 H := eg27 ▸ hG
        refine zr_none er27 ?_
        have hnod : ∀ q, q ∈ zV os (np_low lsn) t → q.2 ≠ zdb tp t (np_len lsn) := fun q hq => by rw [zV_nil hno] at hq; cases hq
        have hgood : ¬ (vD (zV os) (np_low lsn) ∧ (t = 5 ∨ zV os (np_low lsn) 5 ≠ [])) := fun z => by obtain ⟨i, hi, e9⟩ := vD_ix z.1; exact hno i hi e9
        refine lv_astoreN (lv' := [(4, .null), (3, .ref qn), (0, .ref (k 16)), (1, .int t), (2, .int tm)]) hx hb d_ZA_put_30 hl (by decide) rfl (fun ls hl => ?_)
        refine lv_aloadN hx hb d_ZA_put_32 (lv_at hl 0 rfl) ?_
        refine lv_ifnonnullN hx hb d_ZA_put_34 ?_
        refine lv_null hx hb d_ZA_put_37 ?_
        refine lv_goto (tgt := 47) hx hb d_ZA_put_38 (by decide) ?_
        refine lv_astoreN (lv' := [(5, .null), (4, .null), (3, .ref qn), (0, .ref (k 16)), (1, .int t), (2, .int tm)]) hx hb d_ZA_put_47 hl (by decide) rfl (fun ls hl => ?_)
        refine lv_aloadN hx hb d_ZA_put_49 (lv_at hl 0 rfl) ?_
        refine lv_ifnullN (tgt := 70) hx hb d_ZA_put_51 (by decide) ?_
        refine lv_aload_n hx hb d_ZA_put_70 rfl (lv_at hl 3 rfl) ?_
        refine zg_get (ci := 10) (C := "ZoneAnswers") (T := T_ZA) (N := 3) hx hb hts zi_ZA hown hK hG hO1N rfl 1 (by decide) (hts _ w_704) (fun _ h9 => h9) rfl d_ZA_put_71 ?_
        refine zk_i (va_runV (As := []) (rest := []) ⟨hx, hb, hml, hown, hts⟩ (t_Zo_isFull l E G2 (k 1) (k 11) (k 12) (k 13) (k 14) rc hz1N) (zcV 0 hts w_904 w_905 w_906 w_3 w_907 (by decide +kernel) ⟨Nat.le_of_ble_eq_true rfl, Nat.le_of_ble_eq_true rfl⟩) (zc_preV hbase hK hN hQ hG hS hz1N rfl) rfl rfl hl.1 rfl (lv_room (Nat.le_of_ble_eq_true rfl)) d_ZA_put_74 ⟨(by dsimp only; omega), (by dsimp only; omega)⟩) hS (fun r74 G74 H locs hp74 hG hS => ?_)
        have hG : zP E G2 H := hp74.2 ▸ hG
        refine lv_if_eq (tgt := 88) hx hb d_ZA_put_77 (by decide) (fun c77 => ?_) (fun c77 => ?_)
        · refine lv_aloadN hx hb d_ZA_put_88 (lv_at hl 1 rfl) ?_
          refine lv_ifnullN (tgt := 115) hx hb d_ZA_put_90 (by decide) ?_
          refine lv_aload_n hx hb d_ZA_put_115 rfl (lv_at hl 3 rfl) ?_
          refine zg_get (ci := 10) (C := "ZoneAnswers") (T := T_ZA) (N := 3) hx hb hts zi_ZA hown hK hG hO1N rfl 1 (by decide) (hts _ w_704) (fun _ h9 => h9) rfl d_ZA_put_116 ?_
          refine lv_aload_n hx hb d_ZA_put_119 rfl (lv_at hl 2 rfl) ?_
          refine lv_iload_n hx hb d_ZA_put_120 rfl (lv_at hl 4 rfl) ?_
          refine lv_aload_n hx hb d_ZA_put_121 rfl (lv_at hl 3 rfl) ?_
          refine zg_get (ci := 10) (C := "ZoneAnswers") (T := T_ZA) (N := 3) hx hb hts zi_ZA hown hK hG hO1N rfl 0 (by decide) (hts _ w_703) (fun _ h9 => h9) rfl d_ZA_put_122 ?_
          refine lv_iload_n hx hb d_ZA_put_125 rfl (lv_at hl 4 rfl) ?_
          refine lv_aload_n hx hb d_ZA_put_126 rfl (lv_at hl 2 rfl) ?_
          have hbig := hs9 htm _ _ hrecD hnod hgood
          have hGo127 := hG
          refine zk_i (va_runV (As := []) (rest := [.int t, .ref (k 17), .int t, .ref qn, .ref (k 1)]) ⟨hx, hb, hml, hown, hts⟩ (t_Na_length l E G2 qn b_qnN (np_low lsn) f_qnN hq1_qnN hq2_qnN hq3_qnN hq4_qnN) (zcV 0 hts w_884 w_885 w_886 w_7 w_887 (by decide +kernel) ⟨Nat.le_of_ble_eq_true rfl, Nat.le_of_ble_eq_true rfl⟩) (zc_preV hbase hK hN hQ hG hS hq1_qnN rfl) rfl rfl hl.1 rfl (lv_room (Nat.le_of_ble_eq_true rfl)) d_ZA_put_127 ⟨(by dsimp only; omega), (by dsimp only; omega)⟩) hS (fun r127 G127 H locs hp127 hG hS => ?_)
          have hG : zP E G2 H := hp127.2 ▸ hG
          refine zi_as (y := nI (np_len lsn)) (hp127.1.trans (by rw [hlow])) ?_
          have hGo130 := hG
          refine zk_q (va_runV (As := [.int t, .int (nI (np_len lsn))]) (rest := [.int t, .ref qn, .ref (k 1)]) ⟨hx, hb, hml, hown, hts⟩ (t_Ta_datum l E G2 (k 17) b tp hTpN hO5 t (np_len lsn) hxl hdat) (zcV 2 hts w_923 w_924 w_925 w_2 w_926 (by decide +kernel) ⟨Nat.le_of_ble_eq_true rfl, Nat.le_of_ble_eq_true rfl⟩) (zc_preV hbase hK hN hQ hG hS hTpN.1 rfl) rfl rfl hl.1 rfl (lv_room (Nat.le_of_ble_eq_true rfl)) d_ZA_put_130 ⟨(by dsimp only; omega), (by dsimp only; omega)⟩) hS (fun r130 G130 H locs hp130 hG hS => ?_)
          obtain ⟨qd, tg, er130, hDn, hdA, hdB⟩ := hp130
          refine zr_some (a := qd) er130 ?_
          obtain ⟨roD, hrD, hDD⟩ := hDn.2 roN
          have hED : G130 (E.2.2.2 0) = none := hQ.out hG
          have hfD : zfr roN (fun _ => False) _ roD _ := zfr.z hDn.1 hrD
          have hObD := hObN.z hfD hEN hED
          have hNqD := hNqn.fr hfD id
          obtain ⟨hCxD, hO1D, hO2D, hTpD, hO3D, hO4D, hO5D⟩ := id hObD
          obtain ⟨⟨hz1D, hz2D, hz3D, hz4D, hz5D, soaD, u9D, hz6D, hz7D, hz8D, hz9D, hzAD⟩, ⟨ha1D, ha2D, hs1D, hs2D, hs3D⟩, hT1D⟩ := id hCxD
          obtain ⟨boD, foD, hno1D, hno2D, hno3D, hno4D, hno5D, -⟩ := id hz4D
          have hszB := zsz hGZ.1 (Nat.le_refl _) hzn
          have hosz := hsz.1
          have hGo133 := hG
          refine zk_q (va_runV (As := [.ref qn, .int t, .ref qd]) (rest := []) ⟨hx, hb, hml, hown, hts⟩ (t_Zo_insert l E G130 (k 1) (k 11) (k 12) (k 13) (k 14) rc hz1D roD (k 15) os hz3D hz2D hGZ.1 (by omega) (2 * znr os + 10) hszB.1 hszB.2.1 hszB.2.2 qn (np_low lsn) hNqD t (qd, zdb tp t (np_len lsn), tg) hDD) (zcV 3 hts w_931 w_152 w_153 w_3 w_154 (by decide +kernel) ⟨Nat.le_of_ble_eq_true rfl, Nat.le_of_ble_eq_true rfl⟩) (zc_preV hbase hK hN hQ hG hS hz1D rfl) rfl rfl hl.1 rfl (lv_room (Nat.le_of_ble_eq_true rfl)) d_ZA_put_133 ⟨(by dsimp only; omega), (by dsimp only; omega)⟩) hS (fun r133 G133 H locs hp133 hG hS => ?_)
          obtain ⟨ro4, dd4, os4, kk9, si9, hZ4, hfr4, hra4, haz4, hgo4, hln4, hnr4, hkk4, hM4, hsi4, hT4, er4, hgt4, hc4, hsa4⟩ := hp133
          obtain ⟨os5, e5⟩ : ∃ z, z = zmc os4 := ⟨_, rfl⟩
          rw [← e5] at hZ4
          have hkk5 : kk9 < os5.length := by rw [e5, zmc_len]; exact hkk4
          have hM5 : oM (oe os5 kk9) = np_low lsn := by rw [e5, (zmc_o hkk4).2.1]; exact hM4
          have hS5 : oS (oe os5 kk9) si9 = oS (oe os4 kk9) si9 := by rw [e5]; exact zmc_s hkk4
          have hsi5 : si9 < (oX (oe os5 kk9)).length := by rw [e5, (zmc_o hkk4).2.2]; exact hsi4
          have hT5 : sT (oS (oe os5 kk9) si9) = t := by rw [hS5]; exact hT4
          have hgo5 : zgo os5 := by rw [e5]; exact zmc_go hgo4
          have hgt5 : ∀ y u, zgt os5 y u = if y = np_low lsn ∧ u = t then zgt os y u ++ [(sU (oS (oe os5 kk9) si9), (zdb tp t (np_len lsn), tg))] else zgt os y u := fun y u => by rw [e5, zmc_gt, hgt4, ← e5, hS5]
          have hct5 : zctd os5 := by rw [e5]; exact zctd_mc (hc4 (Or.inr (zctd_0 hGZ.2.1 hne)))
          have hnr5 : znr os5 = znr os + 1 := by rw [e5, zmc_nr, hnr4]
          have hE4 : G133 (E.2.2.2 0) = none := hQ.out hG
          have hSR4 := (hZ4.2 _ (oe_mem hkk5)).2.2.2.2 _ (oS_mem hsi5)
          have hsa5 : ∀ y u q, zsa os y u q → zsa os5 y u q := fun y u q z => by rw [e5]; exact zsa_mc (hsa4 y u q z)
          refine zr_some (a := sA (oS (oe os5 kk9) si9)) (er4.trans (by rw [hS5])) ?_
          refine lv_astore (lv' := [(5, .ref (sA (oS (oe os5 kk9) si9))), (4, .null), (3, .ref qn), (0, .ref (k 16)), (1, .int t), (2, .int tm)]) hx hb d_ZA_put_136 hl (by decide) rfl (fun ls hl => ?_)
          refine lv_aload hx hb d_ZA_put_138 (lv_at hl 0 rfl) ?_
          refine lv_iload_n hx hb d_ZA_put_140 rfl (lv_at hl 5 rfl) ?_
          refine zg_put (ci := 5) (v := .int tm) (ty := .int) (C := "ZoneAnswers$Rrset") (T := T_Rr) (N := 3) hx hb hts zi_Rr t_Rr t_Rr_ok n_Rr hown hK hG hS hSR4.1 rfl 1 (by decide) (hts _ w_624) (fun _ h9 => h9) rfl (by decide +kernel) rfl rfl (Nat.le_of_ble_eq_true rfl) d_ZA_put_141 (fun H locs hG hS => ?_)
          obtain ⟨G10, eG10⟩ : ∃ z : zg_G, z = zg_up G133 (sA (oS (oe os5 kk9) si9)) (.inr (5, [.int (sT (oS (oe os5 kk9) si9)), .int tm, .ref (sL (oS (oe os5 kk9) si9))])) := ⟨_, rfl⟩
          have hG : zP E G10 H := by rw [eG10]; exact hG
          have k11 : G10 (k 1) = some (.inr (9, [.ref (k 11), .ref (k 12), .ref (k 13), .ref (k 14), .int (rc + 1)])) := by rw [eG10, zg_up_ne (zg_ne haz4 hSR4.1 (by intro h; simp at h))]; exact haz4
          have k12 : G10 (sA (oS (oe os5 kk9) si9)) = some (.inr (5, [.int (sT (oS (oe os5 kk9) si9)), .int tm, .ref (sL (oS (oe os5 kk9) si9))])) := by rw [eG10]; exact zg_up_self _ _ _
          obtain ⟨os7, hZ7, hfr7, hgo7, hct7, hnr7, hln7, hgt7, hsa7⟩ := zTim (u := tm) hZ4 hgo5 hkk5 hsi5 hE4
          rw [← eG10] at hZ7 hfr7
          have hE7 : G10 (E.2.2.2 0) = none := hQ.out hG
          have hV7 : zV os7 = vpt (zV os) (np_low lsn) t tm [(0, zdb tp t (np_len lsn))] := zV_cg (fun y u => by
            rw [hgt7, hM5, hT5]; unfold vpt
            by_cases z : y = np_low lsn ∧ u = t
            · rw [if_pos z, if_pos z, hgt5, if_pos z]; unfold zV; rw [List.map_map, List.map_append, List.map_append, List.map_map]; rfl
            · rw [if_neg z, if_neg z, hgt5, if_neg z]; rfl)
          have hst7 : ∀ y u, vpt (zV os) (np_low lsn) t tm [(0, zdb tp t (np_len lsn))] y u ≠ [] → zV os y u ≠ [] ∨ (y = np_low lsn ∧ u = t) := fun y u => vpt_ne
          have ht6 : vpt (zV os) (np_low lsn) t tm [(0, zdb tp t (np_len lsn))] top 6 = zV os top 6 := by unfold vpt; rw [if_neg (fun z => zput_n6 hpt z.2.symm)]
          obtain ⟨hq1, hq2, hq3⟩ := hGZ.all
          have hGZ7 : zGZ os7 top := zGZ.of hgo7 (hct7 hct5) hZ7 ⟨6, by rw [hV7, ht6, hz8N]; simp⟩ (fun x ⟨u, hxu⟩ => (hst7 x u (by rw [← hV7]; exact hxu)).elim (fun z => hq2 x ⟨u, z⟩) (fun z => by rw [z.1]; exact hxt)) (fun x u hxu => (hst7 x u (by rw [← hV7]; exact hxu)).elim (hq3 x u) (fun z => by rw [z.2]; exact zput_ty hpt))
          have hsub : ∀ x u q, q ∈ zgt os7 x u → (∃ q2 ∈ zgt os x u, q2.2 = q.2) ∨ (u = t ∧ q.2 = (zdb tp t (np_len lsn), tg)) := fun x u q hq => by
            rw [hgt7, hM5, hT5] at hq
            by_cases z : x = np_low lsn ∧ u = t
            · rw [if_pos z] at hq
              obtain ⟨q2, h1, h2⟩ := List.mem_map.mp hq
              rw [hgt5, if_pos z] at h1
              rcases List.mem_append.mp h1 with h1 | h1
              · exact Or.inl ⟨q2, h1, by rw [← h2]⟩
              · exact Or.inr ⟨z.2, by rw [← h2, List.mem_singleton.mp h1]⟩
            · rw [if_neg z, hgt5, if_neg z] at hq; exact Or.inl ⟨q, hq, rfl⟩
          have hdw7 : zdw os7 := zdw_iff.mpr (fun x u q hq => by
            rcases hsub x u q hq with ⟨q2, h1, h2⟩ | ⟨h1, h2⟩
            · rw [← h2]; exact zdw_iff.mp hdw x u q2 h1
            · rw [h1, h2]; exact hdA)
          have hdx7 : zdx os7 := fun x u q hq => by
            rcases hsub x u q hq with ⟨q2, h1, h2⟩ | ⟨h1, h2⟩
            · rw [← h2]; exact hdx x u q2 h1
            · rw [h1, h2]; exact hdB
          have hrc7 : rc + 1 = nI (znr os7) := by rw [hrc, hnr7, hnr5, show (1 : Int32) = nI 1 from rfl, nI_add]
          have haz7 : G10 (k 1) = some (.inr (9, [.ref (k 11), .ref (k 12), .ref (k 13), .ref (k 14), .int (rc + 1)])) := k11
          have hZn7 : zZn E G10 ro4 (ku k 15 dd4) (rc + 1) os7 top := ⟨haz7, hra4, hZ7, hz4D.fr (hfr4.tr hfr7) zKz_0, hsa7 _ _ _ (hsa5 _ _ _ hz5N), soaD, u9D, (hz6D.fr hz7D (hfr4.tr hfr7) zKz_0).1, (hz6D.fr hz7D (hfr4.tr hfr7) zKz_0).2, by rw [hV7, ht6]; exact hz8D, hz9D, hzAD⟩
          have hOb7 : zOb E G10 ro4 (ku k 15 dd4) (rc + 1) ty se os7 top d1 d2 d3 t1 t2 t3 b tp := hObD.zn (hfr4.tr hfr7) hED hE7 hZn7 (fun n hn => if_neg (by omega))
          have hTp7 : G10 (k 17) = some (.inr (7, [.ref b, .int (nI tp.length)])) := hOb7.2.2.2.1.1
          have hO17 : G10 (k 16) = some (.inr (10, [.ref (k 17), .ref (k 1), .ref (k 0)])) := hOb7.2.1
          obtain ⟨i7, s7, hi7, hMi7, hs7, hTi7, hA7⟩ := zsa_ix (hsa7 (np_low lsn) t (sA (oS (oe os5 kk9) si9)) (by rw [← hM5, ← hT5]; exact zsa_of hkk5 hsi5))
          have hVl7 := congrArg List.length (zV_s hgo7 hi7 hs7)
          rw [hMi7, hTi7, hV7, List.length_map] at hVl7
          have hSR7 := (hZ7.2 _ (oe_mem hi7)).2.2.2.2 _ (oS_mem hs7)
          obtain ⟨⟨⟨kl7, hql7⟩, -⟩, -⟩ := id hSR7.2.2.1
          rw [List.length_map] at hql7
          have hsc7 := hSR7.1
          rw [hA7] at hsc7
          refine lv_aload_n hx hb d_ZA_put_144 rfl (lv_at hl 3 rfl) ?_
          refine zg_get (ci := 10) (C := "ZoneAnswers") (T := T_ZA) (N := 3) hx hb hts zi_ZA hown hK hG hO17 rfl 0 (by decide) (hts _ w_703) (fun _ h9 => h9) rfl d_ZA_put_145 ?_
          refine lv_iconst (v := 0) hx hb d_ZA_put_148 (by decide) ?_
          have hGo149 := hG
          refine zk_v (va_runV (As := [.int 0]) (rest := []) ⟨hx, hb, hml, hown, hts⟩ (t_Ta_cutTo l E G10 (k 17) b (nI tp.length) hTp7 0) (zcV 1 hts w_818 w_819 w_820 w_2 w_821 (by decide +kernel) ⟨Nat.le_of_ble_eq_true rfl, Nat.le_of_ble_eq_true rfl⟩) (zc_preV hbase hK hN hQ hG hS hTp7 rfl) rfl rfl hl.1 rfl (lv_room (Nat.le_of_ble_eq_true rfl)) d_ZA_put_149 ⟨(by dsimp only; omega), (by dsimp only; omega)⟩) hS (fun G149 H locs hp149 hG hS => ?_)
          have hEC : G149 (E.2.2.2 0) = none := hQ.out hG
          obtain ⟨hObC, hfC⟩ := hOb7.cut hE7 0 (Nat.zero_le _) (by rw [show nI 0 = 0 from nI_0]; exact hp149 ▸ hEC)
          have hObC2 : zOb E G149 ro4 (ku k 15 dd4) (rc + 1) ty se os7 top d1 d2 d3 t1 t2 t3 b (tp.take 0) := by rw [hp149, ← nI_0]; exact hObC
          have hfC2 : zfr ro4 zKc G10 ro4 G149 := by rw [hp149, ← nI_0]; exact hfC
          rw [List.take_zero] at hObC2
          have hstC := hObC2.st hGZ7 hdw7 hdx7 hrc7
          rw [hV7] at hstC
          have hscC : G149 (sA (oS (oe os5 kk9) si9)) = some (.inr (5, [.int (sT (oS (oe os7 i7) s7)), .int (sU (oS (oe os7 i7) s7)), .ref (sL (oS (oe os7 i7) s7))])) := by rw [hp149, zg_up_ne (zg_ne hsc7 hTp7 (by intro h; simp at h))]; exact hsc7
          have hslC : G149 (sL (oS (oe os7 i7) s7)) = some (.inr (0, [.ref (sD (oS (oe os7 i7) s7)), .int (nI ((sX (oS (oe os7 i7) s7)).length)), .int kl7])) := by rw [hp149, zg_up_ne (zg_ne hql7 hTp7 (by intro h; simp at h))]; exact hql7
          refine lv_aload hx hb d_ZA_put_152 (lv_at hl 0 rfl) ?_
          refine zk_i (va_runV (As := []) (rest := []) ⟨hx, hb, hml, hown, hts⟩ (t_Rr_size l E G149 (sA (oS (oe os5 kk9) si9)) (sT (oS (oe os7 i7) s7)) (sU (oS (oe os7 i7) s7)) (sL (oS (oe os7 i7) s7)) (.ref (sD (oS (oe os7 i7) s7))) (nI ((sX (oS (oe os7 i7) s7)).length)) kl7 hslC hscC) (zcV 0 hts w_932 w_933 w_934 w_27 w_935 (by decide +kernel) ⟨Nat.le_of_ble_eq_true rfl, Nat.le_of_ble_eq_true rfl⟩) (zc_preV hbase hK hN hQ hG hS hscC rfl) rfl rfl hl.1 rfl (lv_room (Nat.le_of_ble_eq_true rfl)) d_ZA_put_154 ⟨(by dsimp only; omega), (by dsimp only; omega)⟩) hS (fun r154 G154 H locs hp154 hG hS => ?_)
          have hG : zP E G149 H := hp154.2 ▸ hG
          refine zi_as (y := nI ((sX (oS (oe os7 i7) s7)).length)) hp154.1 ?_
          exact zt_iret hx hb hr hlocks (rfl) (⟨htm, ro4, _, _, _, hrecD, ((((hfN.w (fun _ z => z.elim)).tr (hfD.w (fun _ z => z.elim))).tr (hfr4.w zKc_z)).tr (hfr7.w zKc_z)).tr hfC2, Or.inr ⟨hnod, hgood, hstC, by rw [hVl7]⟩⟩) hG hS (by dsimp only; omega) (by dsimp only; omega) d_ZA_put_157
        · exact absurd (by rw [hrc]; exact (nI_ltI (a := znr os) (b := 2000) (by omega) (by omega)).mpr hzn) (hp74.1.nz c77)
    · have htn : tm < 0 := Int32.not_le.mp c11
      exact zt_row (names := zt_up) (ic := 58) hoff hx hb (hml.trans hl.1.symm) hown hts hQ hex hlocks (zt_words hts hN hQ zt_iae) (by decide) (by decide) w_813 w_488 w_26 (Or.inl ⟨rfl, by first | exact Or.inl htn | exact Or.inr hnr⟩) (zg_P.sub hG (fun _ _ h9 => hxn.o h9)) hS hbase (by dsimp only; omega) (by dsimp only; omega) (Nat.le_of_ble_eq_true rfl) (Nat.le_of_ble_eq_true rfl) d_ZA_put_14 d_ZA_put_17 d_ZA_put_18 d_ZA_put_21
  · refine zr_none ern ?_
    have hnr := zRec_no hnt
    refine lv_astore_nN (lv' := [(3, .null), (0, .ref (k 16)), (1, .int t), (2, .int tm)]) hx hb d_ZA_put_5 rfl hl (by decide) rfl (fun ls hl => ?_)
    refine lv_aload_nN hx hb d_ZA_put_6 rfl (lv_at hl 0 rfl) ?_
    refine lv_ifnullN (tgt := 14) hx hb d_ZA_put_7 (by decide) ?_
    exact zt_row (names := zt_up) (ic := 58) hoff hx hb (hml.trans hl.1.symm) hown hts hQ hex hlocks (zt_words hts hN hQ zt_iae) (by decide) (by decide) w_813 w_488 w_26 (Or.inl ⟨rfl, by first | exact Or.inl htn | exact Or.inr hnr⟩) (zg_P.sub hG (fun _ _ h9 => hxn.o h9)) hS hbase (by dsimp only; omega) (by dsimp only; omega) (Nat.le_of_ble_eq_true rfl) (Nat.le_of_ble_eq_true rfl) d_ZA_put_14 d_ZA_put_17 d_ZA_put_18 d_ZA_put_21
