theorem t_Se_row_t (l : Launch) {E : zc_E} {G : zg_G} {ro : zRo} {sa la dd i : Nat} {ts : List zTt} (h : zER E G ro sa la dd ts i) (x : Int32) : zMq l E y_Se_row c_Se_row 2 (some (.object "ZoneAnswers$Told")) rm_Se_row [.ref sa, .int x] G (fun v G2 => ((∃ j, j < ts.length ∧ x = nI j ∧ v = some (tA (te ts j))) ∨ ((x < 0 ∨ nI ts.length ≤ x) ∧ v = none)) ∧ G2 = G) := by
  obtain ⟨h1, ⟨⟨⟨k, h2⟩, h3⟩, -, -⟩, h4⟩ := h
  rw [List.length_map] at h2
  rcases h3 with ⟨e1, e2⟩ | ⟨cap, f, q1, q2, q3, q4, q5⟩
  · have e3 : ts = [] := List.map_eq_nil_iff.mp e2
    subst e3
    have h5 : G la = some (.inr (0, [.ref dd, .int 0, .int k])) := by rw [show nI ([] : List zTt).length = 0 from nI_0] at h2; exact h2
    refine (t_Se_row_e l E G sa la h1 (.ref dd) k h5 x).imp (fun v G' q => ⟨Or.inr ⟨?_, q.1⟩, q.2⟩)
    by_cases hx : x < 0
    · exact Or.inl hx
    · exact Or.inr (by rw [show nI ([] : List zTt).length = 0 from nI_0]; exact Int32.not_lt.mp hx)
  · rw [List.length_map] at q3
    exact t_Se_row l E G sa la h1 dd ts.length cap k f h2 q1 q3 (by omega) (fun i => tA (te ts i)) (fun i => tN (te ts i)) (fun i => (tB (te ts i)).1) (fun i => tT (te ts i)) (fun i => tU (te ts i)) (fun i hi => ⟨(q5 i).trans (te_m hi), (h4 _ (te_mem hi)).1⟩) x
/-- the section of that number -/
def zsq (y : Int32) (t1 t2 t3 : List zTt) : Option (List zTt) := if y = 1 then some t1 else if y = 2 then some t2 else if y = 3 then some t3 else none
theorem zsq1 {y : Int32} {t1 t2 t3 : List zTt} (h : y = 1) : zsq y t1 t2 t3 = some t1 := if_pos h
theorem zsq2 {y : Int32} {t1 t2 t3 : List zTt} (h : y = 2) : zsq y t1 t2 t3 = some t2 := by rw [h]; rfl
theorem zsq3 {y : Int32} {t1 t2 t3 : List zTt} (h : y = 3) : zsq y t1 t2 t3 = some t3 := by rw [h]; rfl
theorem zsqn {y : Int32} {t1 t2 t3 : List zTt} (h1 : ¬ y = 1) (h2 : ¬ y = 2) (h3 : ¬ y = 3) : zsq y t1 t2 t3 = none := by unfold zsq; rw [if_neg h1, if_neg h2, if_neg h3]
/-- the row is there -/
def zrw (y z : Int32) (t1 t2 t3 : List zTt) (ts : List zTt) (j : Nat) : Prop := zsq y t1 t2 t3 = some ts ∧ j < ts.length ∧ z = nI j
def zrno (y z : Int32) (t1 t2 t3 : List zTt) : Prop := zsq y t1 t2 t3 = none ∨ ∃ ts, zsq y t1 t2 t3 = some ts ∧ (z < 0 ∨ nI ts.length ≤ z)
theorem w_884 : (.methodLink "ZoneAnswers" 94 ⟨"ZoneAnswers$Name", "length", "()I"⟩ : Cond) ∈ zw := zw_at 884 (by decide +kernel) (by decide +kernel)
theorem w_1048 : (.fieldLink "ZoneAnswers" 182 "ZoneAnswers$Told" "name" "LZoneAnswers$Name;" : Cond) ∈ zw := zw_at 1048 (by decide +kernel) (by decide +kernel)
theorem w_1052 : (.fieldLink "ZoneAnswers" 176 "ZoneAnswers$Told" "type" "I" : Cond) ∈ zw := zw_at 1052 (by decide +kernel) (by decide +kernel)
theorem w_1054 : (.fieldLink "ZoneAnswers" 181 "ZoneAnswers$Told" "time" "I" : Cond) ∈ zw := zw_at 1054 (by decide +kernel) (by decide +kernel)
theorem w_1057 : (.fieldLink "ZoneAnswers" 186 "ZoneAnswers$Told" "datum" "LZoneAnswers$Datum;" : Cond) ∈ zw := zw_at 1057 (by decide +kernel) (by decide +kernel)
theorem w_1221 : (.methodLink "ZoneAnswers" 189 ⟨"ZoneAnswers$Datum", "length", "()I"⟩ : Cond) ∈ zw := zw_at 1221 (by decide +kernel) (by decide +kernel)

abbrev rm_ZA_records : Room := { frames := 6, cells := 1, slots := 6, locals := 110 }
set_option maxHeartbeats 4000000 in
set_option maxRecDepth 100000 in
/-- ZoneAnswers.records(y) -/
theorem t_ZA_records (l : Launch) (hoff : zl_off l) (E : zc_E) (G : zg_G) (xo ta zo an s1 s2 s3 l1 l2 l3 d1 d2 d3 : Nat) (ty9 se9 : Int32) (ro : zRo) (t1 t2 t3 : List zTt) (hX : G xo = some (.inr (10, [.ref ta, .ref zo, .ref an]))) (han : G an = some (.inr (1, [.ref zo, .ref s1, .ref s2, .ref s3, .int ty9, .int se9]))) (hE1 : zER E G ro s1 l1 d1 t1 1) (hE2 : zER E G ro s2 l2 d2 t2 2) (hE3 : zER E G ro s3 l3 d3 t3 3) (y : Int32) : zT l E y_ZA_records c_ZA_records 3 (some .int) rm_ZA_records [.ref xo, .int y] G (fun (v : Option Value) (G2 : zg_G) => ∃ ts, zsq y t1 t2 t3 = some ts ∧ v = some (.int (nI ts.length)) ∧ G2 = G) (fun cls => cls = "java/util/NoSuchElementException" ∧ zsq y t1 t2 t3 = none) := by
  refine zT.of (by decide) (Nat.le_of_ble_eq_true rfl) ?_
  intro p e s m args below meth c hZ hex hG ls hl
  obtain ⟨hx, hb, hr, hts, hown, hlocks, hml, hnm, hbase, hK, hN, hQ⟩ := hZ
  have hl : lv_has ls 3 [(0, .ref xo), (1, .int y)] := hl
  have hS : zg_S (zc_b E) s.heap s.heap [] := va_S.rf
  obtain ⟨-, ⟨⟨⟨kq1, hq1⟩, -⟩, -⟩, -⟩ := id hE1
  rw [List.length_map] at hq1
  obtain ⟨-, ⟨⟨⟨kq2, hq2⟩, -⟩, -⟩, -⟩ := id hE2
  rw [List.length_map] at hq2
  obtain ⟨-, ⟨⟨⟨kq3, hq3⟩, -⟩, -⟩, -⟩ := id hE3
  rw [List.length_map] at hq3
  rcases zsec y with h9 | h9 | h9 | ⟨h9, h8, h7⟩
  · refine lv_aload_n hx hb d_ZA_records_0 rfl (lv_at hl 0 rfl) ?_
    refine zg_get (ci := 10) (C := "ZoneAnswers") (T := T_ZA) (N := 3) hx hb hts zi_ZA hown hK hG hX rfl 2 (by decide) (hts _ w_705) (fun _ h9 => h9) rfl d_ZA_records_1 ?_
    refine lv_iload_n hx hb d_ZA_records_4 rfl (lv_at hl 1 rfl) ?_
    have hGo5 := hG
    refine zk_q (va_runV (As := [.int y]) (rest := []) ⟨hx, hb, hml, hown, hts⟩ (t_An_section l E G an zo s1 s2 s3 ty9 se9 y han) (zcV 1 hts w_1204 w_1205 w_1206 w_28 w_1207 (by decide +kernel) ⟨Nat.le_of_ble_eq_true rfl, Nat.le_of_ble_eq_true rfl⟩) (zc_preV hbase hK hN hQ hG hS han rfl) rfl rfl hl.1 rfl (lv_room (Nat.le_of_ble_eq_true rfl)) d_ZA_records_5 ⟨(by decide), (by decide)⟩) hS (fun r5 G5 H locs hp5 hG hS => ?_)
    have hG : zP E G H := hp5.2 ▸ hG
    refine zr_some (a := s1) (hp5.1.trans (by rw [h9]; rfl)) ?_
    refine lv_astore_n (lv' := [(2, .ref s1), (0, .ref xo), (1, .int y)]) hx hb d_ZA_records_8 rfl hl (by decide) rfl (fun ls hl => ?_)
    refine lv_aload_n hx hb d_ZA_records_9 rfl (lv_at hl 0 rfl) ?_
    refine lv_ifnonnull (tgt := 21) hx hb d_ZA_records_10 (by decide) ?_
    refine lv_aload_n hx hb d_ZA_records_21 rfl (lv_at hl 0 rfl) ?_
    refine zk_i (va_runV (As := []) (rest := []) ⟨hx, hb, hml, hown, hts⟩ (t_Se_size l E G s1 l1 (.ref d1) (nI t1.length) kq1 hq1 hE1.1) (zcV 0 hts w_1208 w_1189 w_1190 w_29 w_1191 (by decide +kernel) ⟨Nat.le_of_ble_eq_true rfl, Nat.le_of_ble_eq_true rfl⟩) (zc_preV hbase hK hN hQ hG hS hE1.1 rfl) rfl rfl hl.1 rfl (lv_room (Nat.le_of_ble_eq_true rfl)) d_ZA_records_22 ⟨(by decide), (by decide)⟩) hS (fun r22 G22 H locs hp22 hG hS => ?_)
    have hG : zP E G H := hp22.2 ▸ hG
    refine zi_as (y := nI t1.length) hp22.1 ?_
    exact zt_iret hx hb hr hlocks (rfl) (⟨t1, zsq1 h9, rfl, rfl⟩) hG hS (by decide) (by decide) d_ZA_records_25
  · refine lv_aload_n hx hb d_ZA_records_0 rfl (lv_at hl 0 rfl) ?_
    refine zg_get (ci := 10) (C := "ZoneAnswers") (T := T_ZA) (N := 3) hx hb hts zi_ZA hown hK hG hX rfl 2 (by decide) (hts _ w_705) (fun _ h9 => h9) rfl d_ZA_records_1 ?_
    refine lv_iload_n hx hb d_ZA_records_4 rfl (lv_at hl 1 rfl) ?_
    have hGo5 := hG
    refine zk_q (va_runV (As := [.int y]) (rest := []) ⟨hx, hb, hml, hown, hts⟩ (t_An_section l E G an zo s1 s2 s3 ty9 se9 y han) (zcV 1 hts w_1204 w_1205 w_1206 w_28 w_1207 (by decide +kernel) ⟨Nat.le_of_ble_eq_true rfl, Nat.le_of_ble_eq_true rfl⟩) (zc_preV hbase hK hN hQ hG hS han rfl) rfl rfl hl.1 rfl (lv_room (Nat.le_of_ble_eq_true rfl)) d_ZA_records_5 ⟨(by decide), (by decide)⟩) hS (fun r5 G5 H locs hp5 hG hS => ?_)
    have hG : zP E G H := hp5.2 ▸ hG
    refine zr_some (a := s2) (hp5.1.trans (by rw [h9]; rfl)) ?_
    refine lv_astore_n (lv' := [(2, .ref s2), (0, .ref xo), (1, .int y)]) hx hb d_ZA_records_8 rfl hl (by decide) rfl (fun ls hl => ?_)
    refine lv_aload_n hx hb d_ZA_records_9 rfl (lv_at hl 0 rfl) ?_
    refine lv_ifnonnull (tgt := 21) hx hb d_ZA_records_10 (by decide) ?_
    refine lv_aload_n hx hb d_ZA_records_21 rfl (lv_at hl 0 rfl) ?_
    refine zk_i (va_runV (As := []) (rest := []) ⟨hx, hb, hml, hown, hts⟩ (t_Se_size l E G s2 l2 (.ref d2) (nI t2.length) kq2 hq2 hE2.1) (zcV 0 hts w_1208 w_1189 w_1190 w_29 w_1191 (by decide +kernel) ⟨Nat.le_of_ble_eq_true rfl, Nat.le_of_ble_eq_true rfl⟩) (zc_preV hbase hK hN hQ hG hS hE2.1 rfl) rfl rfl hl.1 rfl (lv_room (Nat.le_of_ble_eq_true rfl)) d_ZA_records_22 ⟨(by decide), (by decide)⟩) hS (fun r22 G22 H locs hp22 hG hS => ?_)
    have hG : zP E G H := hp22.2 ▸ hG
    refine zi_as (y := nI t2.length) hp22.1 ?_
    exact zt_iret hx hb hr hlocks (rfl) (⟨t2, zsq2 h9, rfl, rfl⟩) hG hS (by decide) (by decide) d_ZA_records_25
  · refine lv_aload_n hx hb d_ZA_records_0 rfl (lv_at hl 0 rfl) ?_
    refine zg_get (ci := 10) (C := "ZoneAnswers") (T := T_ZA) (N := 3) hx hb hts zi_ZA hown hK hG hX rfl 2 (by decide) (hts _ w_705) (fun _ h9 => h9) rfl d_ZA_records_1 ?_
    refine lv_iload_n hx hb d_ZA_records_4 rfl (lv_at hl 1 rfl) ?_
    have hGo5 := hG
    refine zk_q (va_runV (As := [.int y]) (rest := []) ⟨hx, hb, hml, hown, hts⟩ (t_An_section l E G an zo s1 s2 s3 ty9 se9 y han) (zcV 1 hts w_1204 w_1205 w_1206 w_28 w_1207 (by decide +kernel) ⟨Nat.le_of_ble_eq_true rfl, Nat.le_of_ble_eq_true rfl⟩) (zc_preV hbase hK hN hQ hG hS han rfl) rfl rfl hl.1 rfl (lv_room (Nat.le_of_ble_eq_true rfl)) d_ZA_records_5 ⟨(by decide), (by decide)⟩) hS (fun r5 G5 H locs hp5 hG hS => ?_)
    have hG : zP E G H := hp5.2 ▸ hG
    refine zr_some (a := s3) (hp5.1.trans (by rw [h9]; rfl)) ?_
    refine lv_astore_n (lv' := [(2, .ref s3), (0, .ref xo), (1, .int y)]) hx hb d_ZA_records_8 rfl hl (by decide) rfl (fun ls hl => ?_)
    refine lv_aload_n hx hb d_ZA_records_9 rfl (lv_at hl 0 rfl) ?_
    refine lv_ifnonnull (tgt := 21) hx hb d_ZA_records_10 (by decide) ?_
    refine lv_aload_n hx hb d_ZA_records_21 rfl (lv_at hl 0 rfl) ?_
    refine zk_i (va_runV (As := []) (rest := []) ⟨hx, hb, hml, hown, hts⟩ (t_Se_size l E G s3 l3 (.ref d3) (nI t3.length) kq3 hq3 hE3.1) (zcV 0 hts w_1208 w_1189 w_1190 w_29 w_1191 (by decide +kernel) ⟨Nat.le_of_ble_eq_true rfl, Nat.le_of_ble_eq_true rfl⟩) (zc_preV hbase hK hN hQ hG hS hE3.1 rfl) rfl rfl hl.1 rfl (lv_room (Nat.le_of_ble_eq_true rfl)) d_ZA_records_22 ⟨(by decide), (by decide)⟩) hS (fun r22 G22 H locs hp22 hG hS => ?_)
    have hG : zP E G H := hp22.2 ▸ hG
    refine zi_as (y := nI t3.length) hp22.1 ?_
    exact zt_iret hx hb hr hlocks (rfl) (⟨t3, zsq3 h9, rfl, rfl⟩) hG hS (by decide) (by decide) d_ZA_records_25
  · refine lv_aload_n hx hb d_ZA_records_0 rfl (lv_at hl 0 rfl) ?_
    refine zg_get (ci := 10) (C := "ZoneAnswers") (T := T_ZA) (N := 3) hx hb hts zi_ZA hown hK hG hX rfl 2 (by decide) (hts _ w_705) (fun _ h9 => h9) rfl d_ZA_records_1 ?_
    refine lv_iload_n hx hb d_ZA_records_4 rfl (lv_at hl 1 rfl) ?_
    have hGo5 := hG
    refine zk_q (va_runV (As := [.int y]) (rest := []) ⟨hx, hb, hml, hown, hts⟩ (t_An_section l E G an zo s1 s2 s3 ty9 se9 y han) (zcV 1 hts w_1204 w_1205 w_1206 w_28 w_1207 (by decide +kernel) ⟨Nat.le_of_ble_eq_true rfl, Nat.le_of_ble_eq_true rfl⟩) (zc_preV hbase hK hN hQ hG hS han rfl) rfl rfl hl.1 rfl (lv_room (Nat.le_of_ble_eq_true rfl)) d_ZA_records_5 ⟨(by decide), (by decide)⟩) hS (fun r5 G5 H locs hp5 hG hS => ?_)
    have hG : zP E G H := hp5.2 ▸ hG
    refine zr_none (hp5.1.trans (by rw [if_neg h9, if_neg h8, if_neg h7])) ?_
    refine lv_astore_nN (lv' := [(2, .null), (0, .ref xo), (1, .int y)]) hx hb d_ZA_records_8 rfl hl (by decide) rfl (fun ls hl => ?_)
    refine lv_aload_nN hx hb d_ZA_records_9 rfl (lv_at hl 0 rfl) ?_
    refine lv_ifnonnullN hx hb d_ZA_records_10 ?_
    exact zt_row (names := zt_up) (ic := 124) hoff hx hb (hml.trans hl.1.symm) hown hts hQ hex hlocks (zt_words hts hN hQ zt_nse) (by decide) (by decide) w_944 w_945 w_35 (⟨rfl, zsqn h9 h8 h7⟩) hG hS hbase (by decide) (by decide) (Nat.le_of_ble_eq_true rfl) (Nat.le_of_ble_eq_true rfl) d_ZA_records_13 d_ZA_records_16 d_ZA_records_17 d_ZA_records_20
abbrev rm_ZA_row : Room := { frames := 4, cells := 0, slots := 0, locals := 110 }
set_option maxHeartbeats 4000000 in
set_option maxRecDepth 100000 in
/-- row(y, z) -/
theorem t_ZA_row (l : Launch) (E : zc_E) (G : zg_G) (xo ta zo an s1 s2 s3 l1 l2 l3 d1 d2 d3 : Nat) (ty9 se9 : Int32) (ro : zRo) (t1 t2 t3 : List zTt) (hX : G xo = some (.inr (10, [.ref ta, .ref zo, .ref an]))) (han : G an = some (.inr (1, [.ref zo, .ref s1, .ref s2, .ref s3, .int ty9, .int se9]))) (hE1 : zER E G ro s1 l1 d1 t1 1) (hE2 : zER E G ro s2 l2 d2 t2 2) (hE3 : zER E G ro s3 l3 d3 t3 3) (y z : Int32) : zMq l E y_ZA_row c_ZA_row 4 (some (.object "ZoneAnswers$Told")) rm_ZA_row [.ref xo, .int y, .int z] G (fun (r : Option Nat) (G2 : zg_G) => ((∃ ts j, zrw y z t1 t2 t3 ts j ∧ r = some (tA (te ts j))) ∨ (zrno y z t1 t2 t3 ∧ r = none)) ∧ G2 = G) := by
  refine zMq.of (by decide) (Nat.le_of_ble_eq_true rfl) ?_
  intro p e s m args below meth c Q hZ hG hret ls hl
  obtain ⟨hx, hb, hr, hts, hown, hlocks, hml, hnm, hbase, hK, hN, hQ⟩ := hZ
  have hl : lv_has ls 4 [(0, .ref xo), (1, .int y), (2, .int z)] := hl
  have hS : zg_S (zc_b E) s.heap s.heap [] := va_S.rf
  obtain ⟨-, ⟨⟨⟨kq1, hq1⟩, -⟩, -⟩, -⟩ := id hE1
  rw [List.length_map] at hq1
  obtain ⟨-, ⟨⟨⟨kq2, hq2⟩, -⟩, -⟩, -⟩ := id hE2
  rw [List.length_map] at hq2
  obtain ⟨-, ⟨⟨⟨kq3, hq3⟩, -⟩, -⟩, -⟩ := id hE3
  rw [List.length_map] at hq3
  rcases zsec y with h9 | h9 | h9 | ⟨h9, h8, h7⟩
  · refine lv_aload_n hx hb d_ZA_row_0 rfl (lv_at hl 0 rfl) ?_
    refine zg_get (ci := 10) (C := "ZoneAnswers") (T := T_ZA) (N := 3) hx hb hts zi_ZA hown hK hG hX rfl 2 (by decide) (hts _ w_705) (fun _ h9 => h9) rfl d_ZA_row_1 ?_
    refine lv_iload_n hx hb d_ZA_row_4 rfl (lv_at hl 1 rfl) ?_
    have hGo5 := hG
    refine zk_q (va_runV (As := [.int y]) (rest := []) ⟨hx, hb, hml, hown, hts⟩ (t_An_section l E G an zo s1 s2 s3 ty9 se9 y han) (zcV 1 hts w_1204 w_1205 w_1206 w_28 w_1207 (by decide +kernel) ⟨Nat.le_of_ble_eq_true rfl, Nat.le_of_ble_eq_true rfl⟩) (zc_preV hbase hK hN hQ hG hS han rfl) rfl rfl hl.1 rfl (lv_room (Nat.le_of_ble_eq_true rfl)) d_ZA_row_5 ⟨(by decide), (by decide)⟩) hS (fun r5 G5 H locs hp5 hG hS => ?_)
    have hG : zP E G H := hp5.2 ▸ hG
    refine zr_some (a := s1) (hp5.1.trans (by rw [h9]; rfl)) ?_
    refine lv_astore_n (lv' := [(3, .ref s1), (0, .ref xo), (1, .int y), (2, .int z)]) hx hb d_ZA_row_8 rfl hl (by decide) rfl (fun ls hl => ?_)
    refine lv_aload_n hx hb d_ZA_row_9 rfl (lv_at hl 0 rfl) ?_
    refine lv_ifnonnull (tgt := 17) hx hb d_ZA_row_10 (by decide) ?_
    refine lv_aload_n hx hb d_ZA_row_17 rfl (lv_at hl 0 rfl) ?_
    refine lv_iload_n hx hb d_ZA_row_18 rfl (lv_at hl 3 rfl) ?_
    have hGo19 := hG
    refine zk_q (va_runV (As := [.int z]) (rest := []) ⟨hx, hb, hml, hown, hts⟩ (t_Se_row_t l hE1 z) (zcV 1 hts w_1220 w_1193 w_1194 w_29 w_1195 (by decide +kernel) ⟨Nat.le_of_ble_eq_true rfl, Nat.le_of_ble_eq_true rfl⟩) (zc_preV hbase hK hN hQ hG hS hE1.1 rfl) rfl rfl hl.1 rfl (lv_room (Nat.le_of_ble_eq_true rfl)) d_ZA_row_19 ⟨(by decide), (by decide)⟩) hS (fun r19 G19 H locs hp19 hG hS => ?_)
    rcases hp19 with ⟨⟨j, hj, ej, er19⟩ | ⟨hno, er19⟩, eg19⟩
    · have hG : zP E G H := eg19 ▸ hG
      refine zr_some (a := tA (te t1 j)) er19 ?_
      exact hret (some (tA (te t1 j))) _ _ _ _ _ _ _ _ hr (Or.inl ⟨_, rfl⟩) (⟨Or.inl ⟨t1, j, ⟨zsq1 h9, hj, ej⟩, rfl⟩, rfl⟩) hG hS (Nat.le_refl _) (Nat.le_refl _) d_ZA_row_22
    · have hG : zP E G H := eg19 ▸ hG
      refine zr_none er19 ?_
      exact hret none _ _ _ _ _ _ _ _ hr (Or.inl ⟨_, rfl⟩) (⟨Or.inr ⟨Or.inr ⟨t1, zsq1 h9, hno⟩, rfl⟩, rfl⟩) hG hS (Nat.le_refl _) (Nat.le_refl _) d_ZA_row_22
  · refine lv_aload_n hx hb d_ZA_row_0 rfl (lv_at hl 0 rfl) ?_
    refine zg_get (ci := 10) (C := "ZoneAnswers") (T := T_ZA) (N := 3) hx hb hts zi_ZA hown hK hG hX rfl 2 (by decide) (hts _ w_705) (fun _ h9 => h9) rfl d_ZA_row_1 ?_
    refine lv_iload_n hx hb d_ZA_row_4 rfl (lv_at hl 1 rfl) ?_
    have hGo5 := hG
    refine zk_q (va_runV (As := [.int y]) (rest := []) ⟨hx, hb, hml, hown, hts⟩ (t_An_section l E G an zo s1 s2 s3 ty9 se9 y han) (zcV 1 hts w_1204 w_1205 w_1206 w_28 w_1207 (by decide +kernel) ⟨Nat.le_of_ble_eq_true rfl, Nat.le_of_ble_eq_true rfl⟩) (zc_preV hbase hK hN hQ hG hS han rfl) rfl rfl hl.1 rfl (lv_room (Nat.le_of_ble_eq_true rfl)) d_ZA_row_5 ⟨(by decide), (by decide)⟩) hS (fun r5 G5 H locs hp5 hG hS => ?_)
    have hG : zP E G H := hp5.2 ▸ hG
    refine zr_some (a := s2) (hp5.1.trans (by rw [h9]; rfl)) ?_
    refine lv_astore_n (lv' := [(3, .ref s2), (0, .ref xo), (1, .int y), (2, .int z)]) hx hb d_ZA_row_8 rfl hl (by decide) rfl (fun ls hl => ?_)
    refine lv_aload_n hx hb d_ZA_row_9 rfl (lv_at hl 0 rfl) ?_
    refine lv_ifnonnull (tgt := 17) hx hb d_ZA_row_10 (by decide) ?_
    refine lv_aload_n hx hb d_ZA_row_17 rfl (lv_at hl 0 rfl) ?_
    refine lv_iload_n hx hb d_ZA_row_18 rfl (lv_at hl 3 rfl) ?_
    have hGo19 := hG
    refine zk_q (va_runV (As := [.int z]) (rest := []) ⟨hx, hb, hml, hown, hts⟩ (t_Se_row_t l hE2 z) (zcV 1 hts w_1220 w_1193 w_1194 w_29 w_1195 (by decide +kernel) ⟨Nat.le_of_ble_eq_true rfl, Nat.le_of_ble_eq_true rfl⟩) (zc_preV hbase hK hN hQ hG hS hE2.1 rfl) rfl rfl hl.1 rfl (lv_room (Nat.le_of_ble_eq_true rfl)) d_ZA_row_19 ⟨(by decide), (by decide)⟩) hS (fun r19 G19 H locs hp19 hG hS => ?_)
    rcases hp19 with ⟨⟨j, hj, ej, er19⟩ | ⟨hno, er19⟩, eg19⟩
    · have hG : zP E G H := eg19 ▸ hG
      refine zr_some (a := tA (te t2 j)) er19 ?_
      exact hret (some (tA (te t2 j))) _ _ _ _ _ _ _ _ hr (Or.inl ⟨_, rfl⟩) (⟨Or.inl ⟨t2, j, ⟨zsq2 h9, hj, ej⟩, rfl⟩, rfl⟩) hG hS (Nat.le_refl _) (Nat.le_refl _) d_ZA_row_22
    · have hG : zP E G H := eg19 ▸ hG
      refine zr_none er19 ?_
      exact hret none _ _ _ _ _ _ _ _ hr (Or.inl ⟨_, rfl⟩) (⟨Or.inr ⟨Or.inr ⟨t2, zsq2 h9, hno⟩, rfl⟩, rfl⟩) hG hS (Nat.le_refl _) (Nat.le_refl _) d_ZA_row_22
  · refine lv_aload_n hx hb d_ZA_row_0 rfl (lv_at hl 0 rfl) ?_
    refine zg_get (ci := 10) (C := "ZoneAnswers") (T := T_ZA) (N := 3) hx hb hts zi_ZA hown hK hG hX rfl 2 (by decide) (hts _ w_705) (fun _ h9 => h9) rfl d_ZA_row_1 ?_
    refine lv_iload_n hx hb d_ZA_row_4 rfl (lv_at hl 1 rfl) ?_
    have hGo5 := hG
    refine zk_q (va_runV (As := [.int y]) (rest := []) ⟨hx, hb, hml, hown, hts⟩ (t_An_section l E G an zo s1 s2 s3 ty9 se9 y han) (zcV 1 hts w_1204 w_1205 w_1206 w_28 w_1207 (by decide +kernel) ⟨Nat.le_of_ble_eq_true rfl, Nat.le_of_ble_eq_true rfl⟩) (zc_preV hbase hK hN hQ hG hS han rfl) rfl rfl hl.1 rfl (lv_room (Nat.le_of_ble_eq_true rfl)) d_ZA_row_5 ⟨(by decide), (by decide)⟩) hS (fun r5 G5 H locs hp5 hG hS => ?_)
    have hG : zP E G H := hp5.2 ▸ hG
    refine zr_some (a := s3) (hp5.1.trans (by rw [h9]; rfl)) ?_
    refine lv_astore_n (lv' := [(3, .ref s3), (0, .ref xo), (1, .int y), (2, .int z)]) hx hb d_ZA_row_8 rfl hl (by decide) rfl (fun ls hl => ?_)
    refine lv_aload_n hx hb d_ZA_row_9 rfl (lv_at hl 0 rfl) ?_
    refine lv_ifnonnull (tgt := 17) hx hb d_ZA_row_10 (by decide) ?_
    refine lv_aload_n hx hb d_ZA_row_17 rfl (lv_at hl 0 rfl) ?_
    refine lv_iload_n hx hb d_ZA_row_18 rfl (lv_at hl 3 rfl) ?_
    have hGo19 := hG
    refine zk_q (va_runV (As := [.int z]) (rest := []) ⟨hx, hb, hml, hown, hts⟩ (t_Se_row_t l hE3 z) (zcV 1 hts w_1220 w_1193 w_1194 w_29 w_1195 (by decide +kernel) ⟨Nat.le_of_ble_eq_true rfl, Nat.le_of_ble_eq_true rfl⟩) (zc_preV hbase hK hN hQ hG hS hE3.1 rfl) rfl rfl hl.1 rfl (lv_room (Nat.le_of_ble_eq_true rfl)) d_ZA_row_19 ⟨(by decide), (by decide)⟩) hS (fun r19 G19 H locs hp19 hG hS => ?_)
    rcases hp19 with ⟨⟨j, hj, ej, er19⟩ | ⟨hno, er19⟩, eg19⟩
    · have hG : zP E G H := eg19 ▸ hG
      refine zr_some (a := tA (te t3 j)) er19 ?_
      exact hret (some (tA (te t3 j))) _ _ _ _ _ _ _ _ hr (Or.inl ⟨_, rfl⟩) (⟨Or.inl ⟨t3, j, ⟨zsq3 h9, hj, ej⟩, rfl⟩, rfl⟩) hG hS (Nat.le_refl _) (Nat.le_refl _) d_ZA_row_22
    · have hG : zP E G H := eg19 ▸ hG
      refine zr_none er19 ?_
      exact hret none _ _ _ _ _ _ _ _ hr (Or.inl ⟨_, rfl⟩) (⟨Or.inr ⟨Or.inr ⟨t3, zsq3 h9, hno⟩, rfl⟩, rfl⟩) hG hS (Nat.le_refl _) (Nat.le_refl _) d_ZA_row_22
  · refine lv_aload_n hx hb d_ZA_row_0 rfl (lv_at hl 0 rfl) ?_
    refine zg_get (ci := 10) (C := "ZoneAnswers") (T := T_ZA) (N := 3) hx hb hts zi_ZA hown hK hG hX rfl 2 (by decide) (hts _ w_705) (fun _ h9 => h9) rfl d_ZA_row_1 ?_
    refine lv_iload_n hx hb d_ZA_row_4 rfl (lv_at hl 1 rfl) ?_
    have hGo5 := hG
    refine zk_q (va_runV (As := [.int y]) (rest := []) ⟨hx, hb, hml, hown, hts⟩ (t_An_section l E G an zo s1 s2 s3 ty9 se9 y han) (zcV 1 hts w_1204 w_1205 w_1206 w_28 w_1207 (by decide +kernel) ⟨Nat.le_of_ble_eq_true rfl, Nat.le_of_ble_eq_true rfl⟩) (zc_preV hbase hK hN hQ hG hS han rfl) rfl rfl hl.1 rfl (lv_room (Nat.le_of_ble_eq_true rfl)) d_ZA_row_5 ⟨(by decide), (by decide)⟩) hS (fun r5 G5 H locs hp5 hG hS => ?_)
    have hG : zP E G H := hp5.2 ▸ hG
    refine zr_none (hp5.1.trans (by rw [if_neg h9, if_neg h8, if_neg h7])) ?_
    refine lv_astore_nN (lv' := [(3, .null), (0, .ref xo), (1, .int y), (2, .int z)]) hx hb d_ZA_row_8 rfl hl (by decide) rfl (fun ls hl => ?_)
    refine lv_aload_nN hx hb d_ZA_row_9 rfl (lv_at hl 0 rfl) ?_
    refine lv_ifnonnullN hx hb d_ZA_row_10 ?_
    refine lv_null hx hb d_ZA_row_13 ?_
    refine lv_goto (tgt := 22) hx hb d_ZA_row_14 (by decide) ?_
    exact hret none _ _ _ _ _ _ _ _ hr (Or.inl ⟨_, rfl⟩) (⟨Or.inr ⟨Or.inl (zsqn h9 h8 h7), rfl⟩, rfl⟩) hG hS (Nat.le_refl _) (Nat.le_refl _) d_ZA_row_22
abbrev rm_ZA_told : Room := { frames := 7, cells := 1, slots := 6, locals := 160 }
set_option maxHeartbeats 4000000 in
set_option maxRecDepth 100000 in
/-- ZoneAnswers.told(y, z, u) -/
theorem t_ZA_told (l : Launch) (hoff : zl_off l) (E : zc_E) (G : zg_G) (xo ta zo an s1 s2 s3 l1 l2 l3 d1 d2 d3 : Nat) (ty9 se9 : Int32) (ro : zRo) (t1 t2 t3 : List zTt) (hX : G xo = some (.inr (10, [.ref ta, .ref zo, .ref an]))) (han : G an = some (.inr (1, [.ref zo, .ref s1, .ref s2, .ref s3, .int ty9, .int se9]))) (hE1 : zER E G ro s1 l1 d1 t1 1) (hE2 : zER E G ro s2 l2 d2 t2 2) (hE3 : zER E G ro s3 l3 d3 t3 3) (y z u : Int32) (hdl : ∀ t, (∃ ts j, zrw y z t1 t2 t3 ts j ∧ t = te ts j) → (tB t).2.1.length < 2 ^ 24) : zT l E y_ZA_told c_ZA_told 5 (some .int) rm_ZA_told [.ref xo, .int y, .int z, .int u] G (fun (v : Option Value) (G2 : zg_G) => ∃ ts j, zrw y z t1 t2 t3 ts j ∧ ((u = 0 ∧ v = some (.int (tT (te ts j)))) ∨ (u = 1 ∧ v = some (.int (tU (te ts j)))) ∨ (u = 2 ∧ v = some (.int (nI (np_len (tM (te ts j)))))) ∨ (u = 3 ∧ v = some (.int (nI (tB (te ts j)).2.1.length)))) ∧ G2 = G) (fun cls => (cls = "java/util/NoSuchElementException" ∧ zrno y z t1 t2 t3) ∨ (cls = "java/lang/IllegalArgumentException" ∧ (∃ ts j, zrw y z t1 t2 t3 ts j) ∧ ¬ u = 0 ∧ ¬ u = 1 ∧ ¬ u = 2 ∧ ¬ u = 3)) := by
  refine zT.of (by decide) (Nat.le_of_ble_eq_true rfl) ?_
  intro p e s m args below meth c hZ hex hG ls hl
  obtain ⟨hx, hb, hr, hts, hown, hlocks, hml, hnm, hbase, hK, hN, hQ⟩ := hZ
  have hl : lv_has ls 5 [(0, .ref xo), (1, .int y), (2, .int z), (3, .int u)] := hl
  have hS : zg_S (zc_b E) s.heap s.heap [] := va_S.rf
  refine lv_aload_n hx hb d_ZA_told_0 rfl (lv_at hl 0 rfl) ?_
  refine lv_iload_n hx hb d_ZA_told_1 rfl (lv_at hl 1 rfl) ?_
  refine lv_iload_n hx hb d_ZA_told_2 rfl (lv_at hl 2 rfl) ?_
  have hGo3 := hG
  refine zk_q (va_runV (As := [.int y, .int z]) (rest := []) ⟨hx, hb, hml, hown, hts⟩ (t_ZA_row l E G xo ta zo an s1 s2 s3 l1 l2 l3 d1 d2 d3 ty9 se9 ro t1 t2 t3 hX han hE1 hE2 hE3 y z) (zcV 2 hts w_1216 w_1218 wp_24 w_1 w_1219 (by decide +kernel) ⟨Nat.le_of_ble_eq_true rfl, Nat.le_of_ble_eq_true rfl⟩) (zc_preV hbase hK hN hQ hG hS hX rfl) rfl rfl hl.1 rfl (lv_room (Nat.le_of_ble_eq_true rfl)) d_ZA_told_3 ⟨(by decide), (by decide)⟩) hS (fun r3 G3 H locs hp3 hG hS => ?_)
  rcases hp3 with ⟨⟨ts, j, hrw9, er3⟩ | ⟨hno, er3⟩, eg3⟩
  · have hG : zP E G H := eg3 ▸ hG
    refine zr_some (a := tA (te ts j)) er3 ?_
    have htr : zTR E G ro (te ts j) := by
      obtain ⟨q1, q2, q3⟩ := id hrw9
      rcases zsec y with h9 | h9 | h9 | ⟨h9, h8, h7⟩
      · rw [zsq1 h9] at q1; cases q1; exact hE1.2.2 _ (te_mem q2)
      · rw [zsq2 h9] at q1; cases q1; exact hE2.2.2 _ (te_mem q2)
      · rw [zsq3 h9] at q1; cases q1; exact hE3.2.2 _ (te_mem q2)
      · rw [zsqn h9 h8 h7] at q1; cases q1
    obtain ⟨ht1, ⟨bt, ft, hn1, hn2, hn3, hn4, -⟩, ⟨bd, tg, hd1, ⟨fd, hd2, hd3, hd4⟩, -⟩, -⟩ := id htr
    have hdl9 := hdl (te ts j) ⟨ts, j, hrw9, rfl⟩
    refine lv_astore (lv' := [(4, .ref (tA (te ts j))), (0, .ref xo), (1, .int y), (2, .int z), (3, .int u)]) hx hb d_ZA_told_6 hl (by decide) rfl (fun ls hl => ?_)
    refine lv_aload hx hb d_ZA_told_8 (lv_at hl 0 rfl) ?_
    refine lv_ifnonnull (tgt := 21) hx hb d_ZA_told_10 (by decide) ?_
    refine lv_iload_n hx hb d_ZA_told_21 rfl (lv_at hl 4 rfl) ?_
    by_cases s22_0 : u = 0
    · refine lv_tableIn (off := 30) (tgt := 52) hx hb d_ZA_told_22 (by rw [s22_0]; decide) (by rw [s22_0]; decide) (by rw [s22_0]; rfl) (by decide) ?_
      refine lv_aload hx hb d_ZA_told_52 (lv_at hl 0 rfl) ?_
      refine zg_get (ci := 8) (C := "ZoneAnswers$Told") (T := T_To) (N := 4) hx hb hts zi_To hown hK hG ht1 rfl 1 (by decide) (hts _ w_1052) (fun _ h9 => h9) rfl d_ZA_told_54 ?_
      exact zt_iret hx hb hr hlocks (rfl) (⟨ts, j, hrw9, Or.inl ⟨s22_0, rfl⟩, rfl⟩) hG hS (by decide) (by decide) d_ZA_told_57
    by_cases s22_1 : u = 1
    · refine lv_tableIn (off := 36) (tgt := 58) hx hb d_ZA_told_22 (by rw [s22_1]; decide) (by rw [s22_1]; decide) (by rw [s22_1]; rfl) (by decide) ?_
      refine lv_aload hx hb d_ZA_told_58 (lv_at hl 0 rfl) ?_
      refine zg_get (ci := 8) (C := "ZoneAnswers$Told") (T := T_To) (N := 4) hx hb hts zi_To hown hK hG ht1 rfl 2 (by decide) (hts _ w_1054) (fun _ h9 => h9) rfl d_ZA_told_60 ?_
      exact zt_iret hx hb hr hlocks (rfl) (⟨ts, j, hrw9, Or.inr (Or.inl ⟨s22_1, rfl⟩), rfl⟩) hG hS (by decide) (by decide) d_ZA_told_63
    by_cases s22_2 : u = 2
    · refine lv_tableIn (off := 42) (tgt := 64) hx hb d_ZA_told_22 (by rw [s22_2]; decide) (by rw [s22_2]; decide) (by rw [s22_2]; rfl) (by decide) ?_
      refine lv_aload hx hb d_ZA_told_64 (lv_at hl 0 rfl) ?_
      refine zg_get (ci := 8) (C := "ZoneAnswers$Told") (T := T_To) (N := 4) hx hb hts zi_To hown hK hG ht1 rfl 0 (by decide) (hts _ w_1048) (fun _ h9 => h9) rfl d_ZA_told_66 ?_
      refine zk_i (va_runV (As := []) (rest := []) ⟨hx, hb, hml, hown, hts⟩ (t_Na_length l E G (tN (te ts j)) bt (tM (te ts j)) ft hn1 hn2 hn3 hn4) (zcV 0 hts w_884 w_885 w_886 w_7 w_887 (by decide +kernel) ⟨Nat.le_of_ble_eq_true rfl, Nat.le_of_ble_eq_true rfl⟩) (zc_preV hbase hK hN hQ hG hS hn1 rfl) rfl rfl hl.1 rfl (lv_room (Nat.le_of_ble_eq_true rfl)) d_ZA_told_69 ⟨(by decide), (by decide)⟩) hS (fun r69 G69 H locs hp69 hG hS => ?_)
      have hG : zP E G H := hp69.2 ▸ hG
      refine zi_as (y := nI (np_len (tM (te ts j)))) hp69.1 ?_
      exact zt_iret hx hb hr hlocks (rfl) (⟨ts, j, hrw9, Or.inr (Or.inr (Or.inl ⟨s22_2, rfl⟩)), rfl⟩) hG hS (by decide) (by decide) d_ZA_told_72
    by_cases s22_3 : u = 3
    · refine lv_tableIn (off := 51) (tgt := 73) hx hb d_ZA_told_22 (by rw [s22_3]; decide) (by rw [s22_3]; decide) (by rw [s22_3]; rfl) (by decide) ?_
      refine lv_aload hx hb d_ZA_told_73 (lv_at hl 0 rfl) ?_
      refine zg_get (ci := 8) (C := "ZoneAnswers$Told") (T := T_To) (N := 4) hx hb hts zi_To hown hK hG ht1 rfl 3 (by decide) (hts _ w_1057) (fun _ h9 => h9) rfl d_ZA_told_75 ?_
      refine zk_i (va_runV (As := []) (rest := []) ⟨hx, hb, hml, hown, hts⟩ (t_Da_length l E G (tB (te ts j)).1 (va_rf tg) bd (tB (te ts j)).2.1.length fd hd2 hd4 hdl9 hd1) (zcV 0 hts w_1221 w_900 w_901 w_8 w_902 (by decide +kernel) ⟨Nat.le_of_ble_eq_true rfl, Nat.le_of_ble_eq_true rfl⟩) (zc_preV hbase hK hN hQ hG hS hd1 rfl) rfl rfl hl.1 rfl (lv_room (Nat.le_of_ble_eq_true rfl)) d_ZA_told_78 ⟨(by decide), (by decide)⟩) hS (fun r78 G78 H locs hp78 hG hS => ?_)
      have hG : zP E G H := hp78.2 ▸ hG
      refine zi_as (y := nI (tB (te ts j)).2.1.length) hp78.1 ?_
      exact zt_iret hx hb hr hlocks (rfl) (⟨ts, j, hrw9, Or.inr (Or.inr (Or.inr (⟨s22_3, rfl⟩))), rfl⟩) hG hS (by decide) (by decide) d_ZA_told_81
    refine lv_tableOut (tgt := 82) hx hb d_ZA_told_22 (by have ns22_0 := lv_neT (k := 0) (a := 0) s22_0 (by decide); have ns22_1 := lv_neT (k := 1) (a := 1) s22_1 (by decide); have ns22_2 := lv_neT (k := 2) (a := 2) s22_2 (by decide); have ns22_3 := lv_neT (k := 3) (a := 3) s22_3 (by decide); omega) (by decide) ?_
    exact zt_row (names := zt_up) (ic := 58) hoff hx hb (hml.trans hl.1.symm) hown hts hQ hex hlocks (zt_words hts hN hQ zt_iae) (by decide) (by decide) w_813 w_488 w_26 (Or.inr ⟨rfl, ⟨ts, j, hrw9⟩, s22_0, s22_1, s22_2, s22_3⟩) hG hS hbase (by decide) (by decide) (Nat.le_of_ble_eq_true rfl) (Nat.le_of_ble_eq_true rfl) d_ZA_told_82 d_ZA_told_85 d_ZA_told_86 d_ZA_told_89
  · have hG : zP E G H := eg3 ▸ hG
    refine zr_none er3 ?_
    refine lv_astoreN (lv' := [(4, .null), (0, .ref xo), (1, .int y), (2, .int z), (3, .int u)]) hx hb d_ZA_told_6 hl (by decide) rfl (fun ls hl => ?_)
    refine lv_aloadN hx hb d_ZA_told_8 (lv_at hl 0 rfl) ?_
    refine lv_ifnonnullN hx hb d_ZA_told_10 ?_
    exact zt_row (names := zt_up) (ic := 124) hoff hx hb (hml.trans hl.1.symm) hown hts hQ hex hlocks (zt_words hts hN hQ zt_nse) (by decide) (by decide) w_944 w_945 w_35 (Or.inl ⟨rfl, hno⟩) hG hS hbase (by decide) (by decide) (Nat.le_of_ble_eq_true rfl) (Nat.le_of_ble_eq_true rfl) d_ZA_told_13 d_ZA_told_16 d_ZA_told_17 d_ZA_told_20
