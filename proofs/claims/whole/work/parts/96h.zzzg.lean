theorem t_Ta_datum (l : Launch) (E : zc_E) (G : zg_G) (ta b : Nat) (tp : List Int32) (hT : zTp E G ta b tp) (hlen : tp.length ≤ 65536) (t : Int32) (x : Nat) (hx : x ≤ tp.length) (hd : zdat tp t x) : zMq l E y_Ta_datum c_Ta_datum 5 (some (.object "ZoneAnswers$Datum")) (rm_Ta_datum_s tp.length) [.ref ta, .int t, .int (nI x)] G (fun r G2 => ∃ q tg, r = some q ∧ zDnew E G G2 (q, zdb tp t x, tg) ∧ zdA t (zdb tp t x, tg) ∧ zdB t (zdb tp t x, tg)) := by
  by_cases hof : zoff t < 0
  · refine (t_Ta_datum_n l E G ta b tp hT hlen t x hx hof).imp (fun r G' q => ?_)
    obtain ⟨d, h1, h2⟩ := q
    exact ⟨d, none, h1, h2, fun z => absurd hof (by rw [(zoff_n z).1]; exact nI_pos (by have := (zoff_n z).2; omega)), fun _ => rfl⟩
  · have hn : zdn tp t x := by
      unfold zdat at hd
      by_cases h1 : t = 1
      · rw [h1] at hof; exact absurd (by decide) hof
      · rw [if_neg h1] at hd
        by_cases h2 : t = 16
        · rw [h2] at hof; exact absurd (by decide) hof
        · rw [if_neg h2] at hd
          by_cases h3 : t = 28
          · rw [h3] at hof; exact absurd (by decide) hof
          · rw [if_neg h3] at hd
            exact hd.resolve_left hof
    obtain ⟨o, ls, e1, e2, e3, e4⟩ := hn
    refine (t_Ta_datum_s l E G ta b tp hT hlen t x o ls e1 e2 e3 e4).imp (fun r G' q => ?_)
    obtain ⟨d, h1, h2⟩ := q
    refine ⟨d, some (np_low ls), h1, h2, fun z => ⟨np_low ls, rfl, ?_, np_low_g e3.1⟩, fun z => ?_⟩
    · have := (zoff_n z).1
      rw [e1] at this
      have ho : o = voff t := (nI_eq (by omega) (by have := (zoff_n z).2; omega)).mp this
      rw [← ho]; exact np_low_db e1 e2 e3 e4
    · rw [zoff_o z] at hof; exact absurd (by decide) hof
/-- a record on the tape -/
def zRec (tp : List Int32) (t : Int32) (top x : np_N) (D : List Int32) : Prop := ∃ ls, zRn tp t ls ∧ top <:+ np_low ls ∧ x = np_low ls ∧ D = zdb tp t (np_len ls)
/-- the j-th of a set gone -/
def vtk (V : zVt) (x : np_N) (t : Int32) (j : Nat) : zVt := fun y u => if y = x ∧ u = t then zdr (V y u) j else V y u
def zbg (V : zVt) : Prop := ∀ x t, ∀ p ∈ V x t, p.2.length < 2 ^ 24
/-- the first of the set with these data -/
def isFst (L : List (Int32 × List Int32)) (D : List Int32) (j : Nat) : Prop := (∃ u, L[j]? = some (u, D)) ∧ ∀ i, i < j → ∀ p, L[i]? = some p → p.2 ≠ D
theorem zdr_sub {α : Type} {xs : List α} {j : Nat} {x : α} (h : x ∈ zdr xs j) : x ∈ xs := zdr_mem h
theorem zdr_nil {α : Type} (j : Nat) : zdr ([] : List α) j = [] := by unfold zdr; simp
theorem hbig_of {os : List zOt} (hdw : zdw os) (hdx : zdx os) (hbg : zbg (zV os)) (hgo : zgo os) {i j : Nat} (hi : i < os.length) (hj : j < (oX (oe os i)).length) : ∀ d ∈ sX (oS (oe os i) j), (d.2.1.length < 2 ^ 24 ∧ ∀ ls, d.2.2 = some ls → np_len ls ≤ d.2.1.length) ∧ zdA (sT (oS (oe os i) j)) d.2 ∧ zdB (sT (oS (oe os i) j)) d.2 := by
  intro d hd
  have hm : (sU (oS (oe os i) j), d.2) ∈ zgt os (oM (oe os i)) (sT (oS (oe os i) j)) := by rw [zgt_s hgo hi hj]; exact List.mem_map.mpr ⟨d, hd, rfl⟩
  have hA := zdw_iff.mp hdw _ _ _ hm
  have hB := hdx _ _ _ hm
  refine ⟨⟨hbg _ _ (sU (oS (oe os i) j), d.2.1) (by unfold zV; exact List.mem_map.mpr ⟨_, hm, rfl⟩), fun ls e => ?_⟩, hA, hB⟩
  by_cases z : sT (oS (oe os i) j) = 2 ∨ sT (oS (oe os i) j) = 5 ∨ sT (oS (oe os i) j) = 12 ∨ sT (oS (oe os i) j) = 15 ∨ sT (oS (oe os i) j) = 33
  · obtain ⟨l2, e1, e2, -⟩ := hA z
    rw [e] at e1
    cases e1
    have := congrArg List.length e2
    rw [np_enc_len, List.length_drop] at this
    show np_len ls ≤ d.2.1.length
    have h3 : np_len ls = d.2.1.length - voff (sT (oS (oe os i) j)) := this
    omega
  · have h3 := hB z
    rw [e] at h3; cases h3
theorem zRn_un {tp : List Int32} {t : Int32} {x y : np_N} (h : zRn tp t x) (h2 : zRn tp t y) : y = x := zNm_un h2.1 h.1
theorem zRec_no {tp : List Int32} {t : Int32} {top : np_N} (h : ¬ ∃ ls, zRn tp t ls ∧ top <:+ np_low ls) : ¬ ∃ x D, zRec tp t top x D := fun ⟨_, _, ls, h1, h2, _⟩ => h ⟨ls, h1, h2⟩
theorem h0rm {os : List zOt} {top : np_N} {oi j q : Nat} {t : Int32} (h : zGZ os top) (hoi : oi < os.length) (hj : j < (oX (oe os oi)).length) (ht : sT (oS (oe os oi) j) = t) (h6 : ¬ t = 6) (hsa : zsa os top 6 q) : 0 < oi ∨ 1 < (oX (oe os oi)).length := by
  rcases Nat.eq_zero_or_pos oi with w | w
  · obtain ⟨i, si, h1, h2, h3, h4, -⟩ := zsa_ix hsa
    have e : i = oi := h.ix h1 hoi (by rw [h2, w, h.2.2.2.1])
    subst e
    have hne : si ≠ j := fun z => by rw [z, ht] at h4; exact h6 h4
    exact Or.inr (by omega)
  · exact Or.inl w
theorem zput_n6 {t : Int32} (h : zput t) : ¬ t = 6 := fun e => by rw [e] at h; exact zput_6 h
theorem zput_ty {t : Int32} (h : zput t) : 1 ≤ t ∧ t ≤ 65535 := ⟨Int32.not_lt.mp h.1, Int32.not_lt.mp h.2.1⟩
theorem w_883 : (.methodLink "ZoneAnswers" 88 ⟨"ZoneAnswers$Owner", "find", "(I)LZoneAnswers$Rrset;"⟩ : Cond) ∈ zw := zw_at 883 (by decide +kernel) (by decide +kernel)
theorem w_888 : (.methodLink "ZoneAnswers" 95 ⟨"ZoneAnswers$Rrset", "place", "(LZoneAnswers$Tape;I)I"⟩ : Cond) ∈ zw := zw_at 888 (by decide +kernel) (by decide +kernel)
theorem w_889 : (.instanceMethod ⟨"ZoneAnswers$Rrset", "place", "(LZoneAnswers$Tape;I)I"⟩ : Cond) ∈ zw := zw_at 889 (by decide +kernel) (by decide +kernel)
theorem w_890 : (.selects "ZoneAnswers$Rrset" ⟨"ZoneAnswers$Rrset", "place", "(LZoneAnswers$Tape;I)I"⟩ ⟨"ZoneAnswers$Rrset", "place", "(LZoneAnswers$Tape;I)I"⟩ : Cond) ∈ zw := zw_at 890 (by decide +kernel) (by decide +kernel)
theorem w_891 : (.code ⟨"ZoneAnswers$Rrset", "place", "(LZoneAnswers$Tape;I)I"⟩ prog_6_method_3_code 4 (some .int) : Cond) ∈ zw := zw_at 891 (by decide +kernel) (by decide +kernel)
theorem w_932 : (.methodLink "ZoneAnswers" 119 ⟨"ZoneAnswers$Rrset", "size", "()I"⟩ : Cond) ∈ zw := zw_at 932 (by decide +kernel) (by decide +kernel)
theorem w_959 : (.methodLink "ZoneAnswers" 125 ⟨"ZoneAnswers$Zone", "remove", "(LZoneAnswers$Owner;LZoneAnswers$Rrset;I)V"⟩ : Cond) ∈ zw := zw_at 959 (by decide +kernel) (by decide +kernel)
theorem w_960 : (.instanceMethod ⟨"ZoneAnswers$Zone", "remove", "(LZoneAnswers$Owner;LZoneAnswers$Rrset;I)V"⟩ : Cond) ∈ zw := zw_at 960 (by decide +kernel) (by decide +kernel)
theorem w_961 : (.selects "ZoneAnswers$Zone" ⟨"ZoneAnswers$Zone", "remove", "(LZoneAnswers$Owner;LZoneAnswers$Rrset;I)V"⟩ ⟨"ZoneAnswers$Zone", "remove", "(LZoneAnswers$Owner;LZoneAnswers$Rrset;I)V"⟩ : Cond) ∈ zw := zw_at 961 (by decide +kernel) (by decide +kernel)
theorem w_962 : (.code ⟨"ZoneAnswers$Zone", "remove", "(LZoneAnswers$Owner;LZoneAnswers$Rrset;I)V"⟩ prog_10_method_12_code 4 none : Cond) ∈ zw := zw_at 962 (by decide +kernel) (by decide +kernel)

abbrev rm_ZA_take (n0 : Nat) : Room := { frames := 11, cells := 3, slots := n0 + 10, locals := 400 }
set_option maxHeartbeats 4000000 in
set_option maxRecDepth 100000 in
/-- take(type) -/
theorem t_ZA_take (l : Launch) (hoff : zl_off l) (E : zc_E) (G : zg_G) (k : Nat → Nat) (ro : zRo) (rc ty se : Int32) (os : List zOt) (top : np_N) (d1 d2 d3 : Nat) (t1 t2 t3 : List zTt) (b : Nat) (tp : List Int32) (hOb : zOb E G ro k rc ty se os top d1 d2 d3 t1 t2 t3 b tp) (hGZ : zGZ os top) (hdw : zdw os) (hdx : zdx os) (hrc : rc = nI (znr os)) (hzn : znr os < 2000) (hbg : zbg (zV os)) (t : Int32) : zT l E y_ZA_take c_ZA_take 6 (some .int) (rm_ZA_take tp.length) [.ref (k 16), .int t] G (fun (v : Option Value) (G2 : zg_G) => ∃ ro2 x D j n2, zRec tp t top x D ∧ isFst (zV os x t) D j ∧ zOS E G2 ro2 (k 16) [] (vtk (zV os) x t j) top n2 (zWt t1 t2 t3) ∧ zfr ro zKc G ro2 G2 ∧ v = some (.int (nI ((zV os x t).length - 1)))) (fun cls => (cls = "java/lang/IllegalArgumentException" ∧ ¬ ∃ x D, zRec tp t top x D) ∨ (cls = "java/util/NoSuchElementException" ∧ ∃ x D, zRec tp t top x D ∧ ∀ q, q ∈ zV os x t → q.2 ≠ D)) := by
  refine zT.of (by decide) (Nat.le_of_ble_eq_true rfl) ?_
  intro p e s m args below meth c hZ hex hG ls hl
  obtain ⟨hx, hb, hr, hts, hown, hlocks, hml, hnm, hbase, hK, hN, hQ⟩ := hZ
  have hl : lv_has ls 6 [(0, .ref (k 16)), (1, .int t)] := hl
  have hS : zg_S (zc_b E) s.heap s.heap [] := va_S.rf
  obtain ⟨hCx, hO1, hO2, hTp, hO3, hO4, hO5⟩ := id hOb
  obtain ⟨⟨hz1, hz2, hz3, hz4, hz5, soa, u9, hz6, hz7, hz8, hz9, hzA⟩, ⟨ha1, ha2, hs1, hs2, hs3⟩, hT1⟩ := id hCx
  obtain ⟨bo, fo, hno1, hno2, hno3, hno4, hno5, -⟩ := id hz4
  have hne : 0 < os.length := hGZ.2.2.1
  have hsz := hGZ.1.sz
  have hol : os.length ≤ 2000 := by have := hsz.1; omega
  have hso := hGZ.1.1
  have hE00 : G (E.2.2.2 0) = none := hQ.out hG
  have hl0 := zWt_l t1 t2 t3
  have hx0 : zx z0 G G := zx.rf
  refine lv_aload_n hx hb d_ZA_take_0 rfl (lv_at hl 0 rfl) ?_
  refine lv_iload_n hx hb d_ZA_take_1 rfl (lv_at hl 1 rfl) ?_
  have hGo2 := hG
  refine zk_q (va_runV (As := [.int t]) (rest := []) ⟨hx, hb, hml, hown, hts⟩ (t_ZA_recordName_b l E G (k 16) (k 17) (k 1) (k 0) b tp hO1 hTp hO5 (k 11) (k 12) (k 13) (k 14) rc hz1 bo top fo hno1 hno2 hno3 hno4 t (tp.length + 2) (Nat.le_refl _)) (zcV 1 hts w_854 w_856 wp_10 w_1 w_857 (by decide +kernel) ⟨Nat.le_of_ble_eq_true rfl, Nat.le_of_ble_eq_true rfl⟩) (zc_preV hbase hK hN hQ hG hS hO1 rfl) rfl rfl hl.1 rfl (lv_room (Nat.le_of_ble_eq_true rfl)) d_ZA_take_2 ⟨(by dsimp only; omega), (by dsimp only; omega)⟩) hS (fun r2 G2 H locs hp2 hG hS => ?_)
  rcases hp2 with ⟨lsn, qn, hRn, hxt, ern, hxn, hNbn⟩ | ⟨ern, hxn, hnt⟩
  · refine zr_some (a := qn) ern ?_
    obtain ⟨roN, hfN, hrN, hNqn⟩ := hNbn.nr hxn ro
    have hEN : G2 (E.2.2.2 0) = none := hQ.out hG
    have hObN := hOb.z hfN hE00 hEN
    obtain ⟨hCxN, hO1N, hO2N, hTpN, hO3N, hO4N, hO5N⟩ := id hObN
    obtain ⟨⟨hz1N, hz2N, hz3N, hz4N, hz5N, soaN, u9N, hz6N, hz7N, hz8N, hz9N, hzAN⟩, ⟨ha1N, ha2N, hs1N, hs2N, hs3N⟩, hT1N⟩ := id hCxN
    obtain ⟨boN, foN, hno1N, hno2N, hno3N, hno4N, hno5N, -⟩ := id hz4N
    obtain ⟨b_qnN, f_qnN, hq1_qnN, hq2_qnN, hq3_qnN, hq4_qnN, hq5_qnN, -⟩ := id hNqn
    obtain ⟨hnmm, hpt, hdat⟩ := id hRn
    have hxl : np_len lsn ≤ tp.length := by have := hnmm.2.1; omega
    have hrecD : zRec tp t top (np_low lsn) (zdb tp t (np_len lsn)) := ⟨lsn, hRn, hxt, rfl, rfl⟩
    have hunD : ∀ x D, zRec tp t top x D → x = np_low lsn ∧ D = zdb tp t (np_len lsn) := fun x D ⟨l2, z1, z2, z3, z4⟩ => by rw [zRn_un hRn z1] at z3 z4; exact ⟨z3, z4⟩
    have hlow : np_len (np_low lsn) = np_len lsn := np_low_len hnmm.1.1
    refine lv_astore_n (lv' := [(2, .ref qn), (0, .ref (k 16)), (1, .int t)]) hx hb d_ZA_take_5 rfl hl (by decide) rfl (fun ls hl => ?_)
    refine lv_aload_n hx hb d_ZA_take_6 rfl (lv_at hl 0 rfl) ?_
    refine lv_ifnonnull (tgt := 18) hx hb d_ZA_take_7 (by decide) ?_
    refine lv_aload_n hx hb d_ZA_take_18 rfl (lv_at hl 1 rfl) ?_
    refine zg_get (ci := 10) (C := "ZoneAnswers") (T := T_ZA) (N := 3) hx hb hts zi_ZA hown hK hG hO1N rfl 1 (by decide) (hts _ w_704) (fun _ h9 => h9) rfl d_ZA_take_19 ?_
    refine lv_aload_n hx hb d_ZA_take_22 rfl (lv_at hl 0 rfl) ?_
    have hGo23 := hG
    refine zk_q (va_runV (As := [.ref qn]) (rest := []) ⟨hx, hb, hml, hown, hts⟩ (t_Zo_at_t l hz1N hz3N hne hso hq1_qnN hq2_qnN hq3_qnN hq4_qnN hq5_qnN) (zcV 1 hts w_879 w_880 w_881 w_3 w_882 (by decide +kernel) ⟨Nat.le_of_ble_eq_true rfl, Nat.le_of_ble_eq_true rfl⟩) (zc_preV hbase hK hN hQ hG hS hz1N rfl) rfl rfl hl.1 rfl (lv_room (Nat.le_of_ble_eq_true rfl)) d_ZA_take_23 ⟨(by dsimp only; omega), (by dsimp only; omega)⟩) hS (fun r23 G23 H locs hp23 hG hS => ?_)
    rcases hp23 with ⟨⟨oi, hoi, ho2, er23⟩ | ⟨hno, er23⟩, eg23⟩
    · have hG : zP E G2 H := eg23 ▸ hG
      refine zr_some (a := oA (oe os oi)) er23 ?_
      have how9 := hz3N.2 _ (oe_mem hoi)
      have hszo := (hsz.2 oi hoi).1
      refine lv_astore_n (lv' := [(3, .ref (oA (oe os oi))), (2, .ref qn), (0, .ref (k 16)), (1, .int t)]) hx hb d_ZA_take_26 rfl hl (by decide) rfl (fun ls hl => ?_)
      refine lv_aload_n hx hb d_ZA_take_27 rfl (lv_at hl 0 rfl) ?_
      refine lv_ifnonnull (tgt := 35) hx hb d_ZA_take_28 (by decide) ?_
      refine lv_aload_n hx hb d_ZA_take_35 rfl (lv_at hl 0 rfl) ?_
      refine lv_iload_n hx hb d_ZA_take_36 rfl (lv_at hl 3 rfl) ?_
      have hGo37 := hG
      refine zk_q (va_runV (As := [.int t]) (rest := []) ⟨hx, hb, hml, hown, hts⟩ (t_Ow_find_t l how9 (hGZ.1.2 oi hoi).2.1 t) (zcV 1 hts w_883 w_654 w_655 w_12 w_656 (by decide +kernel) ⟨Nat.le_of_ble_eq_true rfl, Nat.le_of_ble_eq_true rfl⟩) (zc_preV hbase hK hN hQ hG hS how9.1 rfl) rfl rfl hl.1 rfl (lv_room (Nat.le_of_ble_eq_true rfl)) d_ZA_take_37 ⟨(by dsimp only; omega), (by dsimp only; omega)⟩) hS (fun r37 G37 H locs hp37 hG hS => ?_)
      rcases hp37 with ⟨⟨j9, hj9, ht9, hj93, er37⟩ | ⟨hj9n, er37⟩, eg37⟩
      · have hG : zP E G2 H := eg37 ▸ hG
        refine zr_some (a := sA (oS (oe os oi) j9)) er37 ?_
        have hsr9 := how9.2.2.2.2 _ (oS_mem hj9)
        have hd0 := (hGZ.1.2 oi hoi).2.2 j9 hj9
        have hszd := (hsz.2 oi hoi).2 j9 hj9
        have hbi := hbig_of hdw hdx hbg hGZ.1 hoi hj9
        have hVs := zV_s hGZ.1 hoi hj9
        rw [ho2, ht9] at hVs
        rw [ht9] at hbi
        have hcg : ∀ i, i < (sX (oS (oe os oi) j9)).length → (zsame tp (np_len lsn) (zpl (sE (oS (oe os oi) j9) i)) (sE (oS (oe os oi) j9) i).2.1 ↔ (sE (oS (oe os oi) j9) i).2.1 = zdb tp t (np_len lsn)) := fun i hi => zsame_db (hbi _ (sE_mem hi)).2.1 (hbi _ (sE_mem hi)).2.2
        have hVi : ∀ i, i < (sX (oS (oe os oi) j9)).length → (zV os (np_low lsn) t)[i]? = some (sU (oS (oe os oi) j9), (sE (oS (oe os oi) j9) i).2.1) := fun i hi => by rw [hVs, List.getElem?_map, sE_q hi]; rfl
        have hVl : (zV os (np_low lsn) t).length = (sX (oS (oe os oi) j9)).length := by rw [hVs, List.length_map]
        refine lv_astore (lv' := [(4, .ref (sA (oS (oe os oi) j9))), (3, .ref (oA (oe os oi))), (2, .ref qn), (0, .ref (k 16)), (1, .int t)]) hx hb d_ZA_take_40 hl (by decide) rfl (fun ls hl => ?_)
        refine lv_aload hx hb d_ZA_take_42 (lv_at hl 0 rfl) ?_
        refine lv_ifnonnull (tgt := 51) hx hb d_ZA_take_44 (by decide) ?_
        refine lv_aload hx hb d_ZA_take_51 (lv_at hl 0 rfl) ?_
        refine lv_aload_n hx hb d_ZA_take_53 rfl (lv_at hl 3 rfl) ?_
        refine zg_get (ci := 10) (C := "ZoneAnswers") (T := T_ZA) (N := 3) hx hb hts zi_ZA hown hK hG hO1N rfl 0 (by decide) (hts _ w_703) (fun _ h9 => h9) rfl d_ZA_take_54 ?_
        refine lv_aload_n hx hb d_ZA_take_57 rfl (lv_at hl 2 rfl) ?_
        have hGo58 := hG
        refine zk_i (va_runV (As := []) (rest := [.ref (k 17), .ref (sA (oS (oe os oi) j9))]) ⟨hx, hb, hml, hown, hts⟩ (t_Na_length l E G2 qn b_qnN (np_low lsn) f_qnN hq1_qnN hq2_qnN hq3_qnN hq4_qnN) (zcV 0 hts w_884 w_885 w_886 w_7 w_887 (by decide +kernel) ⟨Nat.le_of_ble_eq_true rfl, Nat.le_of_ble_eq_true rfl⟩) (zc_preV hbase hK hN hQ hG hS hq1_qnN rfl) rfl rfl hl.1 rfl (lv_room (Nat.le_of_ble_eq_true rfl)) d_ZA_take_58 ⟨(by dsimp only; omega), (by dsimp only; omega)⟩) hS (fun r58 G58 H locs hp58 hG hS => ?_)
        have hG : zP E G2 H := hp58.2 ▸ hG
        refine zi_as (y := nI (np_len lsn)) (hp58.1.trans (by rw [hlow])) ?_
        have hGo61 := hG
        refine zk_i (va_runV (As := [.ref (k 17), .int (nI (np_len lsn))]) (rest := []) ⟨hx, hb, hml, hown, hts⟩ (t_Rr_place l E G2 (k 17) b tp hTpN hO5 (np_len lsn) hxl roN (oA (oe os oi)) (oS (oe os oi) j9) hsr9 hd0 (fun d hd => (hbi d hd).1)) (zcV 2 hts w_888 w_889 w_890 w_27 w_891 (by decide +kernel) ⟨Nat.le_of_ble_eq_true rfl, Nat.le_of_ble_eq_true rfl⟩) (zc_preV hbase hK hN hQ hG hS hsr9.1 rfl) rfl rfl hl.1 rfl (lv_room (Nat.le_of_ble_eq_true rfl)) d_ZA_take_61 ⟨(by dsimp only; omega), (by dsimp only; omega)⟩) hS (fun r61 G61 H locs hp61 hG hS => ?_)
        rcases hp61 with ⟨⟨jp, hjp, hsm, hlt, er61⟩ | ⟨hnsm, er61⟩, eg61⟩
        · have hG : zP E G2 H := eg61 ▸ hG
          refine zi_as (y := nI jp) er61 ?_
          have hfst : isFst (zV os (np_low lsn) t) (zdb tp t (np_len lsn)) jp := ⟨⟨_, by rw [hVi jp hjp, (hcg jp hjp).mp hsm]⟩, fun i hi q hq e9 => hlt i hi ((hcg i (by omega)).mpr (by rw [hVi i (by omega)] at hq; cases hq; exact e9))⟩
          refine lv_istore (lv' := [(5, .int (nI jp)), (4, .ref (sA (oS (oe os oi) j9))), (3, .ref (oA (oe os oi))), (2, .ref qn), (0, .ref (k 16)), (1, .int t)]) hx hb d_ZA_take_64 hl (by decide) rfl (fun ls hl => ?_)
          refine lv_iload hx hb d_ZA_take_66 (lv_at hl 0 rfl) ?_
          refine lv_if_ge (tgt := 79) hx hb d_ZA_take_68 (by decide) (fun c68 => ?_) (fun c68 => ?_)
          · have b68 : 0 ≤ jp := (nI_leI (a := 0) (b := jp) (by omega) (by omega)).mp c68
            refine lv_aload_n hx hb d_ZA_take_79 rfl (lv_at hl 4 rfl) ?_
            refine zg_get (ci := 10) (C := "ZoneAnswers") (T := T_ZA) (N := 3) hx hb hts zi_ZA hown hK hG hO1N rfl 1 (by decide) (hts _ w_704) (fun _ h9 => h9) rfl d_ZA_take_80 ?_
            refine lv_aload_n hx hb d_ZA_take_83 rfl (lv_at hl 2 rfl) ?_
            refine lv_aload hx hb d_ZA_take_84 (lv_at hl 1 rfl) ?_
            refine lv_iload hx hb d_ZA_take_86 (lv_at hl 0 rfl) ?_
            have hGo88 := hG
            refine zk_v (va_runV (As := [.ref (oA (oe os oi)), .ref (sA (oS (oe os oi) j9)), .int (nI jp)]) (rest := []) ⟨hx, hb, hml, hown, hts⟩ (t_Zo_remove l E G2 (k 1) (k 11) (k 12) (k 13) (k 14) rc hz1N roN (k 15) os hz3N hz2N hGZ.1 hol oi j9 jp hoi hj9 hjp (by omega) (by omega) (h0rm hGZ hoi hj9 ht9 (zput_n6 hpt) hz5N)) (zcV 3 hts w_959 w_960 w_961 w_3 w_962 (by decide +kernel) ⟨Nat.le_of_ble_eq_true rfl, Nat.le_of_ble_eq_true rfl⟩) (zc_preV hbase hK hN hQ hG hS hz1N rfl) rfl rfl hl.1 rfl (lv_room (Nat.le_of_ble_eq_true rfl)) d_ZA_take_88 ⟨(by dsimp only; omega), (by dsimp only; omega)⟩) hS (fun G88 H locs hp88 hG hS => ?_)
            obtain ⟨os2, hZ2, hfr2, haz2, hgo2, hln2, hp2, hnr2, hgt2, hct2, hsa2, hsc2, kk2, hsl2⟩ := hp88
            have hE2 : G88 (E.2.2.2 0) = none := hQ.out hG
            have hV8 : zV os2 = vtk (zV os) (np_low lsn) t jp := zV_cg (fun y u => by
              rw [hgt2, ho2, ht9]; unfold vtk
              by_cases z : y = np_low lsn ∧ u = t
              · rw [if_pos z, if_pos z]; exact zdr_map _ _ _
              · rw [if_neg z, if_neg z]; rfl)
            have hst8 : ∀ y u, vtk (zV os) (np_low lsn) t jp y u ≠ [] → zV os y u ≠ [] := fun y u hn e9 => hn (by unfold vtk; split; rw [e9, zdr_nil]; exact e9)
            have ht6 : vtk (zV os) (np_low lsn) t jp top 6 = zV os top 6 := by unfold vtk; rw [if_neg (fun z => zput_n6 hpt z.2.symm)]
            obtain ⟨hq1, hq2, hq3⟩ := hGZ.all
            have hGZ2 : zGZ os2 top := zGZ.of hgo2 (hct2 hGZ.2.1) hZ2 ⟨6, by rw [hV8, ht6, hz8N]; simp⟩ (fun x ⟨u, hxu⟩ => hq2 x ⟨u, hst8 x u (by rw [← hV8]; exact hxu)⟩) (fun x u hxu => hq3 x u (hst8 x u (by rw [← hV8]; exact hxu)))
            have hsub : ∀ x u q, q ∈ zgt os2 x u → q ∈ zgt os x u := fun x u q hq => by
              rw [hgt2] at hq
              split at hq
              · exact zdr_mem hq
              · exact hq
            have hdw2 : zdw os2 := zdw_iff.mpr (fun x u q hq => zdw_iff.mp hdw x u q (hsub x u q hq))
            have hdx2 : zdx os2 := fun x u q hq => hdx x u q (hsub x u q hq)
            have hrc2 : rc - 1 = nI (znr os2) := by rw [hrc]; exact (zi_sub (a := znr os) (b := 1) (by omega)).trans (by congr 1; omega)
            have hZn2 : zZn E G88 roN k (rc - 1) os2 top := ⟨haz2, hz2N, hZ2, hz4N.fr hfr2 zKz_0, hsa2 _ _ _ hz5N (fun z => zput_n6 hpt (by rw [← ht9]; exact z.2.symm)), soaN, u9N, (hz6N.fr hz7N hfr2 zKz_0).1, (hz6N.fr hz7N hfr2 zKz_0).2, by rw [hV8, ht6]; exact hz8N, hz9N, hzAN⟩
            have hOb2 := hObN.zn hfr2 hEN hE2 hZn2 (fun n _ => rfl)
            refine lv_aload_n hx hb d_ZA_take_91 rfl (lv_at hl 4 rfl) ?_
            refine zg_get (ci := 10) (C := "ZoneAnswers") (T := T_ZA) (N := 3) hx hb hts zi_ZA hown hK hG hOb2.2.1 rfl 0 (by decide) (hts _ w_703) (fun _ h9 => h9) rfl d_ZA_take_92 ?_
            refine lv_iconst (v := 0) hx hb d_ZA_take_95 (by decide) ?_
            have hGo96 := hG
            refine zk_v (va_runV (As := [.int 0]) (rest := []) ⟨hx, hb, hml, hown, hts⟩ (t_Ta_cutTo l E G88 (k 17) b (nI tp.length) hOb2.2.2.2.1.1 0) (zcV 1 hts w_818 w_819 w_820 w_2 w_821 (by decide +kernel) ⟨Nat.le_of_ble_eq_true rfl, Nat.le_of_ble_eq_true rfl⟩) (zc_preV hbase hK hN hQ hG hS hOb2.2.2.2.1.1 rfl) rfl rfl hl.1 rfl (lv_room (Nat.le_of_ble_eq_true rfl)) d_ZA_take_96 ⟨(by dsimp only; omega), (by dsimp only; omega)⟩) hS (fun G96 H locs hp96 hG hS => ?_)
            have hEC : G96 (E.2.2.2 0) = none := hQ.out hG
            obtain ⟨hObC, hfC⟩ := hOb2.cut hE2 0 (Nat.zero_le _) (by rw [show nI 0 = 0 from nI_0, ← hp96]; exact hEC)
            rw [show nI 0 = 0 from nI_0, ← hp96] at hObC hfC
            rw [List.take_zero] at hObC
            have hstC := hObC.st hGZ2 hdw2 hdx2 hrc2
            rw [hV8] at hstC
            have hscC : G96 (sA (oS (oe os oi) j9)) = some (.inr (5, [.int (sT (oS (oe os oi) j9)), .int (sU (oS (oe os oi) j9)), .ref (sL (oS (oe os oi) j9))])) := by rw [hp96, zg_up_ne (zg_ne hsc2 hOb2.2.2.2.1.1 (by intro h; simp at h))]; exact hsc2
            have hslC : G96 (sL (oS (oe os oi) j9)) = some (.inr (0, [.ref (sD (oS (oe os oi) j9)), .int (nI ((zdr (sX (oS (oe os oi) j9)) jp).length)), .int kk2])) := by rw [hp96, zg_up_ne (zg_ne hsl2 hOb2.2.2.2.1.1 (by intro h; simp at h))]; exact hsl2
            refine lv_aload hx hb d_ZA_take_99 (lv_at hl 1 rfl) ?_
            refine zk_i (va_runV (As := []) (rest := []) ⟨hx, hb, hml, hown, hts⟩ (t_Rr_size l E G96 (sA (oS (oe os oi) j9)) (sT (oS (oe os oi) j9)) (sU (oS (oe os oi) j9)) (sL (oS (oe os oi) j9)) (.ref (sD (oS (oe os oi) j9))) (nI ((zdr (sX (oS (oe os oi) j9)) jp).length)) kk2 hslC hscC) (zcV 0 hts w_932 w_933 w_934 w_27 w_935 (by decide +kernel) ⟨Nat.le_of_ble_eq_true rfl, Nat.le_of_ble_eq_true rfl⟩) (zc_preV hbase hK hN hQ hG hS hscC rfl) rfl rfl hl.1 rfl (lv_room (Nat.le_of_ble_eq_true rfl)) d_ZA_take_101 ⟨(by dsimp only; omega), (by dsimp only; omega)⟩) hS (fun r101 G101 H locs hp101 hG hS => ?_)
            have hG : zP E G96 H := hp101.2 ▸ hG
            refine zi_as (y := nI ((zdr (sX (oS (oe os oi) j9)) jp).length)) hp101.1 ?_
            exact zt_iret hx hb hr hlocks (rfl) (⟨roN, _, _, jp, _, hrecD, hfst, hstC, ((hfN.w (fun _ z => z.elim)).tr (hfr2.w zKc_z)).tr hfC, by rw [zdr_len hjp, hVl]⟩) hG hS (by dsimp only; omega) (by dsimp only; omega) d_ZA_take_104
          · have b68 : ¬ 0 ≤ jp := fun q => c68 ((nI_leI (a := 0) (b := jp) (by omega) (by omega)).mpr q)
            exact absurd (Nat.zero_le _) b68
        · have hG : zP E G2 H := eg61 ▸ hG
          refine zi_as (y := -1) er61 ?_
          have hnod : ∀ q, q ∈ zV os (np_low lsn) t → q.2 ≠ zdb tp t (np_len lsn) := fun q hq e9 => by
            obtain ⟨i, hi, ei⟩ := List.getElem_of_mem hq
            rw [hVl] at hi
            have q9 := hVi i hi
            rw [List.getElem?_eq_getElem (by rw [hVl]; exact hi), ei] at q9
            have q8 := Option.some.inj q9
            exact hnsm i hi ((hcg i hi).mpr (by rw [← e9, q8]))
          refine lv_istore (lv' := [(5, .int (-1)), (4, .ref (sA (oS (oe os oi) j9))), (3, .ref (oA (oe os oi))), (2, .ref qn), (0, .ref (k 16)), (1, .int t)]) hx hb d_ZA_take_64 hl (by decide) rfl (fun ls hl => ?_)
          refine lv_iload hx hb d_ZA_take_66 (lv_at hl 0 rfl) ?_
          refine lv_if_ge (tgt := 79) hx hb d_ZA_take_68 (by decide) (fun c68 => ?_) (fun c68 => ?_)
          · exact absurd c68 (by decide)
          · exact zt_row (names := zt_up) (ic := 124) hoff hx hb (hml.trans hl.1.symm) hown hts hQ hex hlocks (zt_words hts hN hQ zt_nse) (by decide) (by decide) w_944 w_945 w_35 (Or.inr ⟨rfl, _, _, hrecD, hnod⟩) (zg_P.sub hG (fun _ _ h9 => hxn.o h9)) hS hbase (by dsimp only; omega) (by dsimp only; omega) (Nat.le_of_ble_eq_true rfl) (Nat.le_of_ble_eq_true rfl) d_ZA_take_71 d_ZA_take_74 d_ZA_take_75 d_ZA_take_78
      · have hG : zP E G2 H := eg37 ▸ hG
        refine zr_none er37 ?_
        have hnod : ∀ q, q ∈ zV os (np_low lsn) t → q.2 ≠ zdb tp t (np_len lsn) := fun q hq => by rw [← ho2, zV_fd hGZ.1 hoi hj9n] at hq; cases hq
        refine lv_astoreN (lv' := [(4, .null), (3, .ref (oA (oe os oi))), (2, .ref qn), (0, .ref (k 16)), (1, .int t)]) hx hb d_ZA_take_40 hl (by decide) rfl (fun ls hl => ?_)
        refine lv_aloadN hx hb d_ZA_take_42 (lv_at hl 0 rfl) ?_
        refine lv_ifnonnullN hx hb d_ZA_take_44 ?_
        refine lv_iconst (v := -1) hx hb d_ZA_take_47 (by decide) ?_
        refine lv_goto (tgt := 64) hx hb d_ZA_take_48 (by decide) ?_
        refine lv_istore (lv' := [(5, .int (-1)), (4, .null), (3, .ref (oA (oe os oi))), (2, .ref qn), (0, .ref (k 16)), (1, .int t)]) hx hb d_ZA_take_64 hl (by decide) rfl (fun ls hl => ?_)
        refine lv_iload hx hb d_ZA_take_66 (lv_at hl 0 rfl) ?_
        refine lv_if_ge (tgt := 79) hx hb d_ZA_take_68 (by decide) (fun c68 => ?_) (fun c68 => ?_)
        · exact absurd c68 (by decide)
        · exact zt_row (names := zt_up) (ic := 124) hoff hx hb (hml.trans hl.1.symm) hown hts hQ hex hlocks (zt_words hts hN hQ zt_nse) (by decide) (by decide) w_944 w_945 w_35 (Or.inr ⟨rfl, _, _, hrecD, hnod⟩) (zg_P.sub hG (fun _ _ h9 => hxn.o h9)) hS hbase (by dsimp only; omega) (by dsimp only; omega) (Nat.le_of_ble_eq_true rfl) (Nat.le_of_ble_eq_true rfl) d_ZA_take_71 d_ZA_take_74 d_ZA_take_75 d_ZA_take_78
    · have hG : zP E G2 H := eg23 ▸ hG
      refine zr_none er23 ?_
      have hnod : ∀ q, q ∈ zV os (np_low lsn) t → q.2 ≠ zdb tp t (np_len lsn) := fun q hq => by rw [zV_nil hno] at hq; cases hq
      refine lv_astore_nN (lv' := [(3, .null), (2, .ref qn), (0, .ref (k 16)), (1, .int t)]) hx hb d_ZA_take_26 rfl hl (by decide) rfl (fun ls hl => ?_)
      refine lv_aload_nN hx hb d_ZA_take_27 rfl (lv_at hl 0 rfl) ?_
      refine lv_ifnonnullN hx hb d_ZA_take_28 ?_
      refine lv_null hx hb d_ZA_take_31 ?_
      refine lv_goto (tgt := 40) hx hb d_ZA_take_32 (by decide) ?_
      refine lv_astoreN (lv' := [(4, .null), (3, .null), (2, .ref qn), (0, .ref (k 16)), (1, .int t)]) hx hb d_ZA_take_40 hl (by decide) rfl (fun ls hl => ?_)
      refine lv_aloadN hx hb d_ZA_take_42 (lv_at hl 0 rfl) ?_
      refine lv_ifnonnullN hx hb d_ZA_take_44 ?_
      refine lv_iconst (v := -1) hx hb d_ZA_take_47 (by decide) ?_
      refine lv_goto (tgt := 64) hx hb d_ZA_take_48 (by decide) ?_
      refine lv_istore (lv' := [(5, .int (-1)), (4, .null), (3, .null), (2, .ref qn), (0, .ref (k 16)), (1, .int t)]) hx hb d_ZA_take_64 hl (by decide) rfl (fun ls hl => ?_)
      refine lv_iload hx hb d_ZA_take_66 (lv_at hl 0 rfl) ?_
      refine lv_if_ge (tgt := 79) hx hb d_ZA_take_68 (by decide) (fun c68 => ?_) (fun c68 => ?_)
      · exact absurd c68 (by decide)
      · exact zt_row (names := zt_up) (ic := 124) hoff hx hb (hml.trans hl.1.symm) hown hts hQ hex hlocks (zt_words hts hN hQ zt_nse) (by decide) (by decide) w_944 w_945 w_35 (Or.inr ⟨rfl, _, _, hrecD, hnod⟩) (zg_P.sub hG (fun _ _ h9 => hxn.o h9)) hS hbase (by dsimp only; omega) (by dsimp only; omega) (Nat.le_of_ble_eq_true rfl) (Nat.le_of_ble_eq_true rfl) d_ZA_take_71 d_ZA_take_74 d_ZA_take_75 d_ZA_take_78
  · refine zr_none ern ?_
    have hnr := zRec_no hnt
    refine lv_astore_nN (lv' := [(2, .null), (0, .ref (k 16)), (1, .int t)]) hx hb d_ZA_take_5 rfl hl (by decide) rfl (fun ls hl => ?_)
    refine lv_aload_nN hx hb d_ZA_take_6 rfl (lv_at hl 0 rfl) ?_
    refine lv_ifnonnullN hx hb d_ZA_take_7 ?_
    exact zt_row (names := zt_up) (ic := 58) hoff hx hb (hml.trans hl.1.symm) hown hts hQ hex hlocks (zt_words hts hN hQ zt_iae) (by decide) (by decide) w_813 w_488 w_26 (Or.inl ⟨rfl, hnr⟩) (zg_P.sub hG (fun _ _ h9 => hxn.o h9)) hS hbase (by dsimp only; omega) (by dsimp only; omega) (Nat.le_of_ble_eq_true rfl) (Nat.le_of_ble_eq_true rfl) d_ZA_take_10 d_ZA_take_13 d_ZA_take_14 d_ZA_take_17
