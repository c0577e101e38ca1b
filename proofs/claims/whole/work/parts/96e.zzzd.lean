theorem zRb {x : np_N} {f fd : Nat → Int32} {bs : List Int32} (hx : np_f x f) (hd : ∀ j, j < bs.length → fd j = bs.getD j 0) : (∀ i, i < np_len x → f i = (np_enc x ++ bs).getD i 0) ∧ ∀ i, np_len x ≤ i → i - np_len x < bs.length → fd (i - np_len x) = (np_enc x ++ bs).getD i 0 := by
  refine ⟨fun i hi => ?_, fun i hi hl => ?_⟩
  · rw [hx i hi, List.getD_eq_getElem?_getD, List.getD_eq_getElem?_getD, List.getElem?_append_left (by rw [np_enc_len]; exact hi)]
  · rw [hd _ hl, List.getD_eq_getElem?_getD, List.getD_eq_getElem?_getD, List.getElem?_append_right (by rw [np_enc_len]; exact hi), np_enc_len]
theorem w_16 : (.initialized "java/lang/IndexOutOfBoundsException" : Cond) ∈ zw := zw_at 16 (by decide +kernel) (by decide +kernel)
theorem w_114 : (.fieldLink "ZoneAnswers" 195 "ZoneAnswers$Name" "bytes" "[B" : Cond) ∈ zw := zw_at 114 (by decide +kernel) (by decide +kernel)
theorem w_141 : (.fieldLink "ZoneAnswers" 199 "ZoneAnswers$Datum" "bytes" "[B" : Cond) ∈ zw := zw_at 141 (by decide +kernel) (by decide +kernel)
theorem w_229 : (.instantiable "java/lang/IndexOutOfBoundsException" 6 : Cond) ∈ zw := zw_at 229 (by decide +kernel) (by decide +kernel)
theorem w_1230 : (.classLink "ZoneAnswers" 192 "java/lang/IndexOutOfBoundsException" : Cond) ∈ zw := zw_at 1230 (by decide +kernel) (by decide +kernel)

abbrev rm_ZA_byteOf : Room := { frames := 7, cells := 1, slots := 6, locals := 160 }
set_option maxHeartbeats 4000000 in
set_option maxRecDepth 100000 in
/-- byteOf(section, k, i) -/
theorem t_ZA_byteOf (l : Launch) (hoff : zl_off l) (E : zc_E) (G : zg_G) (xo ta zo an s1 s2 s3 l1 l2 l3 d1 d2 d3 : Nat) (ty9 se9 : Int32) (ro : zRo) (t1 t2 t3 : List zTt) (hX : G xo = some (.inr (10, [.ref ta, .ref zo, .ref an]))) (han : G an = some (.inr (1, [.ref zo, .ref s1, .ref s2, .ref s3, .int ty9, .int se9]))) (hE1 : zER E G ro s1 l1 d1 t1 1) (hE2 : zER E G ro s2 l2 d2 t2 2) (hE3 : zER E G ro s3 l3 d3 t3 3) (y z u : Int32) (hdl : ∀ t, (∃ ts j, zrw y z t1 t2 t3 ts j ∧ t = te ts j) → (tB t).2.1.length < 2 ^ 24) : zT l E y_ZA_byteOf c_ZA_byteOf 6 (some .int) rm_ZA_byteOf [.ref xo, .int y, .int z, .int u] G (fun (v : Option Value) (G2 : zg_G) => ∃ ts j i, zrw y z t1 t2 t3 ts j ∧ u = nI i ∧ i < (np_enc (tM (te ts j)) ++ (tB (te ts j)).2.1).length ∧ v = some (.int ((np_enc (tM (te ts j)) ++ (tB (te ts j)).2.1).getD i 0 &&& 255)) ∧ G2 = G) (fun cls => (cls = "java/util/NoSuchElementException" ∧ zrno y z t1 t2 t3) ∨ (cls = "java/lang/IndexOutOfBoundsException" ∧ ∃ ts j, zrw y z t1 t2 t3 ts j ∧ (u < 0 ∨ nI ((np_enc (tM (te ts j)) ++ (tB (te ts j)).2.1).length) ≤ u))) := by
  refine zT.of (by decide) (Nat.le_of_ble_eq_true rfl) ?_
  intro p e s m args below meth c hZ hex hG ls hl
  obtain ⟨hx, hb, hr, hts, hown, hlocks, hml, hnm, hbase, hK, hN, hQ⟩ := hZ
  have hl : lv_has ls 6 [(0, .ref xo), (1, .int y), (2, .int z), (3, .int u)] := hl
  have hS : zg_S (zc_b E) s.heap s.heap [] := va_S.rf
  refine lv_aload_n hx hb d_ZA_byteOf_0 rfl (lv_at hl 0 rfl) ?_
  refine lv_iload_n hx hb d_ZA_byteOf_1 rfl (lv_at hl 1 rfl) ?_
  refine lv_iload_n hx hb d_ZA_byteOf_2 rfl (lv_at hl 2 rfl) ?_
  have hGo3 := hG
  refine zk_q (va_runV (As := [.int y, .int z]) (rest := []) ⟨hx, hb, hml, hown, hts⟩ (t_ZA_row l E G xo ta zo an s1 s2 s3 l1 l2 l3 d1 d2 d3 ty9 se9 ro t1 t2 t3 hX han hE1 hE2 hE3 y z) (zcV 2 hts w_1216 w_1218 wp_24 w_1 w_1219 (by decide +kernel) ⟨Nat.le_of_ble_eq_true rfl, Nat.le_of_ble_eq_true rfl⟩) (zc_preV hbase hK hN hQ hG hS hX rfl) rfl rfl hl.1 rfl (lv_room (Nat.le_of_ble_eq_true rfl)) d_ZA_byteOf_3 ⟨(by decide), (by decide)⟩) hS (fun r3 G3 H locs hp3 hG hS => ?_)
  rcases hp3 with ⟨⟨ts, j, hrw9, er3⟩ | ⟨hno, er3⟩, eg3⟩
  · have hG : zP E G H := eg3 ▸ hG
    refine zr_some (a := tA (te ts j)) er3 ?_
    have htr : zTR E G ro (te ts j) := by
      obtain ⟨q1, q2, q3⟩ := id hrw9
      rcases zsec y with h9 | h9 | h9 | ⟨h9, h8, h7⟩
      · rw [zsq1 h9] at q1; cases q1; exact hE1.2.2 _ (te_mem q2)
      · rw [zsq2 h9] at q1; cases q1; exact hE2.2.2 _ (te_mem q2)
      · rw [zsq3 h9] at q1; cases q1; exact hE3.2.2 _ (te_mem q2)
      · rw [zsqn h9 h8 h7] at q1; cases q1
    obtain ⟨ht1, ⟨bt, ft, hn1, hn2, hn3, hn4, hn5, -⟩, ⟨bd, tg, hd1, ⟨fd, hd2, hd3, hd4⟩, -⟩, -⟩ := id htr
    have hdl9 := hdl (te ts j) ⟨ts, j, hrw9, rfl⟩
    have hrb := zRb hn3 hd3
    have hsm := hn4.2
    refine lv_astore (lv' := [(4, .ref (tA (te ts j))), (0, .ref xo), (1, .int y), (2, .int z), (3, .int u)]) hx hb d_ZA_byteOf_6 hl (by decide) rfl (fun ls hl => ?_)
    refine lv_aload hx hb d_ZA_byteOf_8 (lv_at hl 0 rfl) ?_
    refine lv_ifnonnull (tgt := 21) hx hb d_ZA_byteOf_10 (by decide) ?_
    refine lv_aload hx hb d_ZA_byteOf_21 (lv_at hl 0 rfl) ?_
    refine zg_get (ci := 8) (C := "ZoneAnswers$Told") (T := T_To) (N := 4) hx hb hts zi_To hown hK hG ht1 rfl 0 (by decide) (hts _ w_1048) (fun _ h9 => h9) rfl d_ZA_byteOf_23 ?_
    refine zk_i (va_runV (As := []) (rest := []) ⟨hx, hb, hml, hown, hts⟩ (t_Na_length l E G (tN (te ts j)) bt (tM (te ts j)) ft hn1 hn2 hn3 hn4) (zcV 0 hts w_884 w_885 w_886 w_7 w_887 (by decide +kernel) ⟨Nat.le_of_ble_eq_true rfl, Nat.le_of_ble_eq_true rfl⟩) (zc_preV hbase hK hN hQ hG hS hn1 rfl) rfl rfl hl.1 rfl (lv_room (Nat.le_of_ble_eq_true rfl)) d_ZA_byteOf_26 ⟨(by decide), (by decide)⟩) hS (fun r26 G26 H locs hp26 hG hS => ?_)
    have hG : zP E G H := hp26.2 ▸ hG
    refine zi_as (y := nI (np_len (tM (te ts j)))) hp26.1 ?_
    refine lv_istore (lv' := [(5, .int (nI (np_len (tM (te ts j))))), (4, .ref (tA (te ts j))), (0, .ref xo), (1, .int y), (2, .int z), (3, .int u)]) hx hb d_ZA_byteOf_29 hl (by decide) rfl (fun ls hl => ?_)
    refine lv_iload_n hx hb d_ZA_byteOf_31 rfl (lv_at hl 5 rfl) ?_
    refine lv_if_lt (tgt := 50) hx hb d_ZA_byteOf_32 (by decide) (fun c32 => ?_) (fun c32 => ?_)
    · have hbad : u < 0 := c32
      exact zt_row (names := zt_up) (ic := 194) hoff hx hb (hml.trans hl.1.symm) hown hts hQ hex hlocks (zt_words hts hN hQ zt_iobe) (by decide) (by decide) w_1230 w_229 w_16 (Or.inr ⟨rfl, ts, j, hrw9, by first | exact Or.inl hbad | exact Or.inr hbad2⟩) hG hS hbase (by decide) (by decide) (Nat.le_of_ble_eq_true rfl) (Nat.le_of_ble_eq_true rfl) d_ZA_byteOf_50 d_ZA_byteOf_53 d_ZA_byteOf_54 d_ZA_byteOf_57
    · obtain ⟨ui, hui, eui⟩ := nI_of c32
      have hl : lv_has ls 6 [(5, .int (nI (np_len (tM (te ts j))))), (4, .ref (tA (te ts j))), (0, .ref xo), (1, .int y), (2, .int z), (3, .int (nI ui))] := eui ▸ hl
      refine lv_iload_n hx hb d_ZA_byteOf_35 rfl (lv_at hl 5 rfl) ?_
      refine lv_iload hx hb d_ZA_byteOf_36 (lv_at hl 0 rfl) ?_
      refine lv_aload hx hb d_ZA_byteOf_38 (lv_at hl 1 rfl) ?_
      refine zg_get (ci := 8) (C := "ZoneAnswers$Told") (T := T_To) (N := 4) hx hb hts zi_To hown hK hG ht1 rfl 3 (by decide) (hts _ w_1057) (fun _ h9 => h9) rfl d_ZA_byteOf_40 ?_
      refine zk_i (va_runV (As := []) (rest := [.int (nI (np_len (tM (te ts j)))), .int (nI ui)]) ⟨hx, hb, hml, hown, hts⟩ (t_Da_length l E G (tB (te ts j)).1 (va_rf tg) bd (tB (te ts j)).2.1.length fd hd2 hd4 hdl9 hd1) (zcV 0 hts w_1221 w_900 w_901 w_8 w_902 (by decide +kernel) ⟨Nat.le_of_ble_eq_true rfl, Nat.le_of_ble_eq_true rfl⟩) (zc_preV hbase hK hN hQ hG hS hd1 rfl) rfl rfl hl.1 rfl (lv_room (Nat.le_of_ble_eq_true rfl)) d_ZA_byteOf_43 ⟨(by decide), (by decide)⟩) hS (fun r43 G43 H locs hp43 hG hS => ?_)
      have hG : zP E G H := hp43.2 ▸ hG
      refine zi_as (y := nI ((tB (te ts j)).2.1.length)) hp43.1 ?_
      refine lv_iadd hx hb d_ZA_byteOf_46 ?_
      refine zi_as (y := nI (np_len (tM (te ts j)) + ((tB (te ts j)).2.1.length))) (nI_add (np_len (tM (te ts j))) ((tB (te ts j)).2.1.length)) ?_
      refine lv_icmp_lt (tgt := 58) hx hb d_ZA_byteOf_47 (by decide) (fun c47 => ?_) (fun c47 => ?_)
      · have b47 : ui < (np_len (tM (te ts j)) + ((tB (te ts j)).2.1.length)) := (nI_ltI (a := ui) (b := (np_len (tM (te ts j)) + ((tB (te ts j)).2.1.length))) (by omega) (by omega)).mp c47
        refine lv_iload_n hx hb d_ZA_byteOf_58 rfl (lv_at hl 5 rfl) ?_
        refine lv_iload hx hb d_ZA_byteOf_59 (lv_at hl 0 rfl) ?_
        refine lv_icmp_ge (tgt := 81) hx hb d_ZA_byteOf_61 (by decide) (fun c61 => ?_) (fun c61 => ?_)
        · have b61 : (np_len (tM (te ts j))) ≤ ui := (nI_leI (a := (np_len (tM (te ts j)))) (b := ui) (by omega) (by omega)).mp c61
          refine lv_aload hx hb d_ZA_byteOf_81 (lv_at hl 1 rfl) ?_
          refine zg_get (ci := 8) (C := "ZoneAnswers$Told") (T := T_To) (N := 4) hx hb hts zi_To hown hK hG ht1 rfl 3 (by decide) (hts _ w_1057) (fun _ h9 => h9) rfl d_ZA_byteOf_83 ?_
          refine zg_get (ci := 2) (C := "ZoneAnswers$Datum") (T := T_Da) (N := 2) hx hb hts zi_Da hown hK hG hd1 rfl 0 (by decide) (hts _ w_141) (fun _ h9 => h9) rfl d_ZA_byteOf_86 ?_
          refine lv_iload_n hx hb d_ZA_byteOf_89 rfl (lv_at hl 5 rfl) ?_
          refine lv_iload hx hb d_ZA_byteOf_90 (lv_at hl 0 rfl) ?_
          refine lv_isub hx hb d_ZA_byteOf_92 ?_
          refine zi_as (y := nI (ui - (np_len (tM (te ts j))))) (zi_sub (a := ui) (b := np_len (tM (te ts j))) (by omega)) ?_
          refine zg_bald hx hb hK hG 0 hd2 rfl (vp_in_nI (by omega) (by omega)) d_ZA_byteOf_93 ?_
          refine zi_as (y := fd (ui - (np_len (tM (te ts j))))) (by rw [zi_n _ (by omega)]) ?_
          refine lv_sipush (v := 255) hx hb d_ZA_byteOf_94 (by decide) ?_
          refine lv_iand hx hb d_ZA_byteOf_97 ?_
          exact zt_iret hx hb hr hlocks (rfl) (⟨ts, j, ui, hrw9, eui, by rw [List.length_append, np_enc_len]; omega, by rw [← hrb.2 ui (by omega) (by omega)], rfl⟩) hG hS (by decide) (by decide) d_ZA_byteOf_98
        · have b61 : ¬ (np_len (tM (te ts j))) ≤ ui := fun q => c61 ((nI_leI (a := (np_len (tM (te ts j)))) (b := ui) (by omega) (by omega)).mpr q)
          refine lv_aload hx hb d_ZA_byteOf_64 (lv_at hl 1 rfl) ?_
          refine zg_get (ci := 8) (C := "ZoneAnswers$Told") (T := T_To) (N := 4) hx hb hts zi_To hown hK hG ht1 rfl 0 (by decide) (hts _ w_1048) (fun _ h9 => h9) rfl d_ZA_byteOf_66 ?_
          refine zg_get (ci := 3) (C := "ZoneAnswers$Name") (T := T_Na) (N := 2) hx hb hts zi_Na hown hK hG hn1 rfl 0 (by decide) (hts _ w_114) (fun _ h9 => h9) rfl d_ZA_byteOf_69 ?_
          refine lv_iload_n hx hb d_ZA_byteOf_72 rfl (lv_at hl 5 rfl) ?_
          refine zg_bald hx hb hK hG 0 hn2 rfl (vp_in_nI (by omega) (by omega)) d_ZA_byteOf_73 ?_
          refine zi_as (y := ft ui) (by rw [zi_n _ (by omega)]) ?_
          refine lv_sipush (v := 255) hx hb d_ZA_byteOf_74 (by decide) ?_
          refine lv_iand hx hb d_ZA_byteOf_77 ?_
          refine lv_goto (tgt := 98) hx hb d_ZA_byteOf_78 (by decide) ?_
          exact zt_iret hx hb hr hlocks (rfl) (⟨ts, j, ui, hrw9, eui, by rw [List.length_append, np_enc_len]; omega, by rw [← hrb.1 ui (by omega)], rfl⟩) hG hS (by decide) (by decide) d_ZA_byteOf_98
      · have b47 : ¬ ui < (np_len (tM (te ts j)) + ((tB (te ts j)).2.1.length)) := fun q => c47 ((nI_ltI (a := ui) (b := (np_len (tM (te ts j)) + ((tB (te ts j)).2.1.length))) (by omega) (by omega)).mpr q)
        have hbad2 : nI ((np_enc (tM (te ts j)) ++ (tB (te ts j)).2.1).length) ≤ u := by rw [eui, List.length_append, np_enc_len]; exact (nI_leI (by omega) (by omega)).mpr (by omega)
        exact zt_row (names := zt_up) (ic := 194) hoff hx hb (hml.trans hl.1.symm) hown hts hQ hex hlocks (zt_words hts hN hQ zt_iobe) (by decide) (by decide) w_1230 w_229 w_16 (Or.inr ⟨rfl, ts, j, hrw9, by first | exact Or.inl hbad | exact Or.inr hbad2⟩) hG hS hbase (by decide) (by decide) (Nat.le_of_ble_eq_true rfl) (Nat.le_of_ble_eq_true rfl) d_ZA_byteOf_50 d_ZA_byteOf_53 d_ZA_byteOf_54 d_ZA_byteOf_57
  · have hG : zP E G H := eg3 ▸ hG
    refine zr_none er3 ?_
    refine lv_astoreN (lv' := [(4, .null), (0, .ref xo), (1, .int y), (2, .int z), (3, .int u)]) hx hb d_ZA_byteOf_6 hl (by decide) rfl (fun ls hl => ?_)
    refine lv_aloadN hx hb d_ZA_byteOf_8 (lv_at hl 0 rfl) ?_
    refine lv_ifnonnullN hx hb d_ZA_byteOf_10 ?_
    exact zt_row (names := zt_up) (ic := 124) hoff hx hb (hml.trans hl.1.symm) hown hts hQ hex hlocks (zt_words hts hN hQ zt_nse) (by decide) (by decide) w_944 w_945 w_35 (Or.inl ⟨rfl, hno⟩) hG hS hbase (by decide) (by decide) (Nat.le_of_ble_eq_true rfl) (Nat.le_of_ble_eq_true rfl) d_ZA_byteOf_13 d_ZA_byteOf_16 d_ZA_byteOf_17 d_ZA_byteOf_20
