/-! THE LAW's STATICS, whatever the class's method does: out gets the answer, or the number of what was thrown -/
abbrev oLg (E : zc_E) (f : Nat → Int64) : va_E := .inl (E.2.1 2, 1, .inr (.inl f))

abbrev rm_La_feed_g (B : Nat) : Room := { frames := 8, cells := 5, slots := B + 6, locals := 170 }
set_option maxHeartbeats 4000000 in
set_option maxRecDepth 100000 in
/-- feed, of any object -/
theorem t_La_feed_g (l : Launch) (hoff : zl_off l) (E : zc_E) (G : zg_G) (xo ta zo an out : Nat) (fo : Nat → Int64) (hXo : G xo = some (.inr (10, [.ref ta, .ref zo, .ref an]))) (hout : G out = some (oLg E fo)) (p0 p1 p2 p3 p4 : Int32) (B : Nat) (Q0 : Int32 → zg_G → Prop) (Q1 : Prop) (hz : zT l E y_ZA_feed c_ZA_feed 6 (some .int) (rm_ZA_feed_c B) [.ref xo, .int p0, .int p1, .int p2, .int p3, .int p4] G (fun (v : Option Value) (G2 : zg_G) => ∃ r, v = some (.int r) ∧ Q0 r G2 ∧ G2 out = some (oLg E fo)) (fun cls => cls = "java/lang/IllegalStateException" ∧ Q1)) : zMiW l E y_La_feed c_La_feed 8 (some .int) [(0, 16, 19, 13)] (rm_La_feed_g B) [.ref xo, .int p0, .int p1, .int p2, .int p3, .int p4, .ref out] G (fun (r : Int32) (G2 : zg_G) => (r = 0 ∧ ∃ r9 G1 f2, Q0 r9 G1 ∧ G1 out = some (oLg E fo) ∧ G2 = zg_up G1 out (oLg E f2) ∧ f2 0 = r9.toInt64 ∧ G1 (E.2.2.2 0) = none ∧ G2 (E.2.2.2 0) = none) ∨ (r = 1 ∧ Q1 ∧ G2 = G)) := by
  refine zMiW.of (by decide) (Nat.le_of_ble_eq_true rfl) ?_
  intro p e s m args below meth c Q hZ hex hG hret ls hl
  obtain ⟨hx, hb, hr, hts, hown, hlocks, hml, hnm, hbase, hK, hN, hQ⟩ := hZ
  have hl : lv_has ls 8 [(0, .ref xo), (1, .int p0), (2, .int p1), (3, .int p2), (4, .int p3), (5, .int p4), (6, .ref out)] := hl
  have hS : zg_S (zc_b E) s.heap s.heap [] := va_S.rf
  refine lv_aload hx hb d_La_feed_0 (lv_at hl 6 rfl) ?_
  refine lv_iconst (v := 0) hx hb d_La_feed_2 (by decide) ?_
  refine zi_as (y := nI 0) (nI_0.symm) ?_
  refine lv_aload_n hx hb d_La_feed_3 rfl (lv_at hl 0 rfl) ?_
  refine lv_iload_n hx hb d_La_feed_4 rfl (lv_at hl 1 rfl) ?_
  refine lv_iload_n hx hb d_La_feed_5 rfl (lv_at hl 2 rfl) ?_
  refine lv_iload_n hx hb d_La_feed_6 rfl (lv_at hl 3 rfl) ?_
  refine lv_iload hx hb d_La_feed_7 (lv_at hl 4 rfl) ?_
  refine lv_iload hx hb d_La_feed_9 (lv_at hl 5 rfl) ?_
  refine zt_callV (hnd := (fun cls : String => 19)) (As := [.int p0, .int p1, .int p2, .int p3, .int p4]) (rest := [.int (nI 0), .ref out]) ⟨hx, hb, hml, hown, hts⟩ (hz) (zcV 5 hts w_769 w_770 w_771 w_1 w_772 (by decide +kernel) ⟨Nat.le_of_ble_eq_true rfl, Nat.le_of_ble_eq_true rfl⟩) (zc_preV hbase hK hN hQ hG hS hXo rfl) rfl hl.1 rfl (Nat.le_of_ble_eq_true rfl) d_La_feed_11 ⟨(by dsimp only; omega), (by dsimp only; omega)⟩ hS (fun cls h9 => ?_) (fun v11 G11 H locs hp11 hG hS => ?_) (fun cls x11 H locs ht11 hG hS => ?_)
  · rcases h9 with ⟨rfl, -⟩
    exact zt_wayOf (pre := []) (h := (0, 16, 19, 13)) (tl := []) hex (fun y hy => absurd hy List.not_mem_nil) (by decide) (by decide) (hts _ w_768) (zN.at hN (w := .castable "java/lang/IllegalStateException" "java/lang/IllegalStateException") (by decide +kernel)) (by decide)
  · obtain ⟨r9, rfl, hq0, k_out⟩ := hp11
    have hE1 : G11 (E.2.2.2 0) = none := hQ.out hG
    refine W.eq (g2 := F0 m 14 ls [.int r9, .int (nI 0), .ref out]) rfl ?_
    refine lv_i2l hx hb d_La_feed_14 rfl ?_
    refine zg_last hx hb hK hG hS 2 k_out rfl (vp_in_nI (by omega) (by omega)) d_La_feed_15 (fun H locs hG hS => ?_)
    obtain ⟨G1, eG1⟩ : ∃ z : zg_G, z = zg_up G11 out (.inl (E.2.1 2, 1, .inr (.inl (vp_updL fo (nI 0).toNatClampNeg r9.toInt64)))) := ⟨_, rfl⟩
    have hG : zP E G1 H := by rw [eG1]; exact hG
    have k2 : G1 out = some (.inl (E.2.1 2, 1, .inr (.inl (vp_updL fo (nI 0).toNatClampNeg r9.toInt64)))) := by rw [eG1]; exact zg_up_self _ _ _
    refine lv_goto (tgt := 23) hx hb d_La_feed_16 (by decide) ?_
    refine lv_iconst (v := 0) hx hb d_La_feed_23 (by decide) ?_
    exact hret _ _ _ _ _ _ _ _ _ hr (rfl) (Or.inl ⟨rfl, r9, G11, _, hq0, k_out, eG1, rfl, hE1, hQ.out hG⟩) hG hS (by dsimp only; omega) (by dsimp only; omega) d_La_feed_24
  · rcases ht11 with ⟨rfl, ht11⟩
    refine W.eq (g2 := F0 m 19 ls [.ref x11]) (congrArg (fun n9 => F0 m n9 ls [.ref x11]) (show (fun cls : String => 19) "java/lang/IllegalStateException" = 19 from by decide)) ?_
    refine lv_astore (lv' := [(7, .ref x11), (0, .ref xo), (1, .int p0), (2, .int p1), (3, .int p2), (4, .int p3), (5, .int p4), (6, .ref out)]) hx hb d_La_feed_19 hl (by decide) rfl (fun ls hl => ?_)
    refine lv_iconst (v := 1) hx hb d_La_feed_21 (by decide) ?_
    exact hret _ _ _ _ _ _ _ _ _ hr (rfl) (Or.inr (⟨rfl, ht11, rfl⟩)) hG hS (by dsimp only; omega) (by dsimp only; omega) d_La_feed_22
abbrev rm_La_end_g : Room := { frames := 8, cells := 1, slots := 6, locals := 160 }
set_option maxHeartbeats 4000000 in
set_option maxRecDepth 100000 in
/-- end, of any object -/
theorem t_La_end_g (l : Launch) (hoff : zl_off l) (E : zc_E) (G : zg_G) (xo ta zo an out : Nat) (fo : Nat → Int64) (hXo : G xo = some (.inr (10, [.ref ta, .ref zo, .ref an]))) (hout : G out = some (oLg E fo)) (p0 : Int32) (Q0 : Int32 → zg_G → Prop) (Q1 : Prop) (hz : zT l E y_ZA_end c_ZA_end 2 (some .int) (rm_ZA_end) [.ref xo, .int p0] G (fun (v : Option Value) (G2 : zg_G) => ∃ r, v = some (.int r) ∧ Q0 r G2 ∧ G2 out = some (oLg E fo)) (fun cls => cls = "java/lang/IllegalArgumentException" ∧ Q1)) : zMiW l E y_La_end c_La_end 4 (some .int) [(0, 9, 12, 19)] rm_La_end_g [.ref xo, .int p0, .ref out] G (fun (r : Int32) (G2 : zg_G) => (r = 0 ∧ ∃ r9 G1 f2, Q0 r9 G1 ∧ G1 out = some (oLg E fo) ∧ G2 = zg_up G1 out (oLg E f2) ∧ f2 0 = r9.toInt64 ∧ G1 (E.2.2.2 0) = none ∧ G2 (E.2.2.2 0) = none) ∨ (r = 1 ∧ Q1 ∧ G2 = G)) := by
  refine zMiW.of (by decide) (Nat.le_of_ble_eq_true rfl) ?_
  intro p e s m args below meth c Q hZ hex hG hret ls hl
  obtain ⟨hx, hb, hr, hts, hown, hlocks, hml, hnm, hbase, hK, hN, hQ⟩ := hZ
  have hl : lv_has ls 4 [(0, .ref xo), (1, .int p0), (2, .ref out)] := hl
  have hS : zg_S (zc_b E) s.heap s.heap [] := va_S.rf
  refine lv_aload_n hx hb d_La_end_0 rfl (lv_at hl 2 rfl) ?_
  refine lv_iconst (v := 0) hx hb d_La_end_1 (by decide) ?_
  refine zi_as (y := nI 0) (nI_0.symm) ?_
  refine lv_aload_n hx hb d_La_end_2 rfl (lv_at hl 0 rfl) ?_
  refine lv_iload_n hx hb d_La_end_3 rfl (lv_at hl 1 rfl) ?_
  refine zt_callV (hnd := (fun cls : String => 12)) (As := [.int p0]) (rest := [.int (nI 0), .ref out]) ⟨hx, hb, hml, hown, hts⟩ (hz) (zcV 1 hts w_809 w_810 w_811 w_1 w_812 (by decide +kernel) ⟨Nat.le_of_ble_eq_true rfl, Nat.le_of_ble_eq_true rfl⟩) (zc_preV hbase hK hN hQ hG hS hXo rfl) rfl hl.1 rfl (Nat.le_of_ble_eq_true rfl) d_La_end_4 ⟨(by dsimp only; omega), (by dsimp only; omega)⟩ hS (fun cls h9 => ?_) (fun v4 G4 H locs hp4 hG hS => ?_) (fun cls x4 H locs ht4 hG hS => ?_)
  · rcases h9 with ⟨rfl, -⟩
    exact zt_wayOf (pre := []) (h := (0, 9, 12, 19)) (tl := []) hex (fun y hy => absurd hy List.not_mem_nil) (by decide) (by decide) (hts _ w_808) (zN.at hN (w := .castable "java/lang/IllegalArgumentException" "java/lang/IllegalArgumentException") (by decide +kernel)) (by decide)
  · obtain ⟨r9, rfl, hq0, k_out⟩ := hp4
    have hE1 : G4 (E.2.2.2 0) = none := hQ.out hG
    refine W.eq (g2 := F0 m 7 ls [.int r9, .int (nI 0), .ref out]) rfl ?_
    refine lv_i2l hx hb d_La_end_7 rfl ?_
    refine zg_last hx hb hK hG hS 2 k_out rfl (vp_in_nI (by omega) (by omega)) d_La_end_8 (fun H locs hG hS => ?_)
    obtain ⟨G1, eG1⟩ : ∃ z : zg_G, z = zg_up G4 out (.inl (E.2.1 2, 1, .inr (.inl (vp_updL fo (nI 0).toNatClampNeg r9.toInt64)))) := ⟨_, rfl⟩
    have hG : zP E G1 H := by rw [eG1]; exact hG
    have k2 : G1 out = some (.inl (E.2.1 2, 1, .inr (.inl (vp_updL fo (nI 0).toNatClampNeg r9.toInt64)))) := by rw [eG1]; exact zg_up_self _ _ _
    refine lv_goto (tgt := 15) hx hb d_La_end_9 (by decide) ?_
    refine lv_iconst (v := 0) hx hb d_La_end_15 (by decide) ?_
    exact hret _ _ _ _ _ _ _ _ _ hr (rfl) (Or.inl ⟨rfl, r9, G4, _, hq0, k_out, eG1, rfl, hE1, hQ.out hG⟩) hG hS (by dsimp only; omega) (by dsimp only; omega) d_La_end_16
  · rcases ht4 with ⟨rfl, ht4⟩
    refine W.eq (g2 := F0 m 12 ls [.ref x4]) (congrArg (fun n9 => F0 m n9 ls [.ref x4]) (show (fun cls : String => 12) "java/lang/IllegalArgumentException" = 12 from by decide)) ?_
    refine lv_astore_n (lv' := [(3, .ref x4), (0, .ref xo), (1, .int p0), (2, .ref out)]) hx hb d_La_end_12 rfl hl (by decide) rfl (fun ls hl => ?_)
    refine lv_iconst (v := 1) hx hb d_La_end_13 (by decide) ?_
    exact hret _ _ _ _ _ _ _ _ _ hr (rfl) (Or.inr (⟨rfl, ht4, rfl⟩)) hG hS (by dsimp only; omega) (by dsimp only; omega) d_La_end_14
abbrev rm_La_origin_g (s9 : Nat) : Room := { frames := 16, cells := 30, slots := s9, locals := 560 }
set_option maxHeartbeats 4000000 in
set_option maxRecDepth 100000 in
/-- origin, of any object -/
theorem t_La_origin_g (l : Launch) (hoff : zl_off l) (E : zc_E) (G : zg_G) (xo ta zo an out : Nat) (fo : Nat → Int64) (hXo : G xo = some (.inr (10, [.ref ta, .ref zo, .ref an]))) (hout : G out = some (oLg E fo)) (p0 p1 p2 p3 p4 : Int32) (s9 : Nat) (Q0 : zg_G → Prop) (Q1 : Prop) (hz : zT l E y_ZA_origin c_ZA_origin 11 none (rm_ZA_origin s9) [.ref xo, .int p0, .int p1, .int p2, .int p3, .int p4] G (fun (v : Option Value) (G2 : zg_G) => v = none ∧ Q0 G2) (fun cls => cls = "java/lang/IllegalArgumentException" ∧ Q1)) : zMiW l E y_La_origin c_La_origin 7 (some .int) [(0, 11, 14, 19)] (rm_La_origin_g s9) [.ref xo, .int p0, .int p1, .int p2, .int p3, .int p4] G (fun (r : Int32) (G2 : zg_G) => (r = 0 ∧ Q0 G2 ∧ G2 (E.2.2.2 0) = none) ∨ (r = 1 ∧ Q1 ∧ G2 = G)) := by
  refine zMiW.of (by decide) (Nat.le_of_ble_eq_true rfl) ?_
  intro p e s m args below meth c Q hZ hex hG hret ls hl
  obtain ⟨hx, hb, hr, hts, hown, hlocks, hml, hnm, hbase, hK, hN, hQ⟩ := hZ
  have hl : lv_has ls 7 [(0, .ref xo), (1, .int p0), (2, .int p1), (3, .int p2), (4, .int p3), (5, .int p4)] := hl
  have hS : zg_S (zc_b E) s.heap s.heap [] := va_S.rf
  refine lv_aload_n hx hb d_La_origin_0 rfl (lv_at hl 0 rfl) ?_
  refine lv_iload_n hx hb d_La_origin_1 rfl (lv_at hl 1 rfl) ?_
  refine lv_iload_n hx hb d_La_origin_2 rfl (lv_at hl 2 rfl) ?_
  refine lv_iload_n hx hb d_La_origin_3 rfl (lv_at hl 3 rfl) ?_
  refine lv_iload hx hb d_La_origin_4 (lv_at hl 4 rfl) ?_
  refine lv_iload hx hb d_La_origin_6 (lv_at hl 5 rfl) ?_
  refine zt_callV (hnd := (fun cls : String => 14)) (As := [.int p0, .int p1, .int p2, .int p3, .int p4]) (rest := []) ⟨hx, hb, hml, hown, hts⟩ (hz) (zcV 5 hts w_825 w_826 w_827 w_1 w_828 (by decide +kernel) ⟨Nat.le_of_ble_eq_true rfl, Nat.le_of_ble_eq_true rfl⟩) (zc_preV hbase hK hN hQ hG hS hXo rfl) rfl hl.1 rfl (Nat.le_of_ble_eq_true rfl) d_La_origin_8 ⟨(by dsimp only; omega), (by dsimp only; omega)⟩ hS (fun cls h9 => ?_) (fun v8 G8 H locs hp8 hG hS => ?_) (fun cls x8 H locs ht8 hG hS => ?_)
  · rcases h9 with ⟨rfl, -⟩
    exact zt_wayOf (pre := []) (h := (0, 11, 14, 19)) (tl := []) hex (fun y hy => absurd hy List.not_mem_nil) (by decide) (by decide) (hts _ w_808) (zN.at hN (w := .castable "java/lang/IllegalArgumentException" "java/lang/IllegalArgumentException") (by decide +kernel)) (by decide)
  · obtain ⟨rfl, hq0⟩ := hp8
    have hE1 : G8 (E.2.2.2 0) = none := hQ.out hG
    refine W.eq (g2 := F0 m 11 ls []) rfl ?_
    refine lv_goto (tgt := 18) hx hb d_La_origin_11 (by decide) ?_
    refine lv_iconst (v := 0) hx hb d_La_origin_18 (by decide) ?_
    exact hret _ _ _ _ _ _ _ _ _ hr (rfl) (Or.inl ⟨rfl, hq0, hE1⟩) hG hS (by dsimp only; omega) (by dsimp only; omega) d_La_origin_19
  · rcases ht8 with ⟨rfl, ht8⟩
    refine W.eq (g2 := F0 m 14 ls [.ref x8]) (congrArg (fun n9 => F0 m n9 ls [.ref x8]) (show (fun cls : String => 14) "java/lang/IllegalArgumentException" = 14 from by decide)) ?_
    refine lv_astore (lv' := [(6, .ref x8), (0, .ref xo), (1, .int p0), (2, .int p1), (3, .int p2), (4, .int p3), (5, .int p4)]) hx hb d_La_origin_14 hl (by decide) rfl (fun ls hl => ?_)
    refine lv_iconst (v := 1) hx hb d_La_origin_16 (by decide) ?_
    exact hret _ _ _ _ _ _ _ _ _ hr (rfl) (Or.inr (⟨rfl, ht8, rfl⟩)) hG hS (by dsimp only; omega) (by dsimp only; omega) d_La_origin_17
abbrev rm_La_put_g (s9 : Nat) : Room := { frames := 14, cells := 20, slots := s9, locals := 500 }
set_option maxHeartbeats 4000000 in
set_option maxRecDepth 100000 in
/-- put, of any object -/
theorem t_La_put_g (l : Launch) (hoff : zl_off l) (E : zc_E) (G : zg_G) (xo ta zo an out : Nat) (fo : Nat → Int64) (hXo : G xo = some (.inr (10, [.ref ta, .ref zo, .ref an]))) (hout : G out = some (oLg E fo)) (p0 p1 : Int32) (s9 : Nat) (Q0 : Int32 → zg_G → Prop) (Q1 Q2 : Prop) (hz : zT l E y_ZA_put c_ZA_put 6 (some .int) (rm_ZA_put s9) [.ref xo, .int p0, .int p1] G (fun (v : Option Value) (G2 : zg_G) => ∃ r, v = some (.int r) ∧ Q0 r G2 ∧ G2 out = some (oLg E fo)) (fun cls => (cls = "java/lang/IllegalArgumentException" ∧ Q1) ∨ (cls = "java/lang/UnsupportedOperationException" ∧ Q2))) : zMiW l E y_La_put c_La_put 5 (some .int) [(0, 10, 13, 19), (0, 10, 17, 13), (0, 10, 21, 29)] (rm_La_put_g s9) [.ref xo, .int p0, .int p1, .ref out] G (fun (r : Int32) (G2 : zg_G) => (r = 0 ∧ ∃ r9 G1 f2, Q0 r9 G1 ∧ G1 out = some (oLg E fo) ∧ G2 = zg_up G1 out (oLg E f2) ∧ f2 0 = r9.toInt64 ∧ G1 (E.2.2.2 0) = none ∧ G2 (E.2.2.2 0) = none) ∨ (r = 1 ∧ Q1 ∧ G2 = G) ∨ (r = 3 ∧ Q2 ∧ G2 = G)) := by
  refine zMiW.of (by decide) (Nat.le_of_ble_eq_true rfl) ?_
  intro p e s m args below meth c Q hZ hex hG hret ls hl
  obtain ⟨hx, hb, hr, hts, hown, hlocks, hml, hnm, hbase, hK, hN, hQ⟩ := hZ
  have hl : lv_has ls 5 [(0, .ref xo), (1, .int p0), (2, .int p1), (3, .ref out)] := hl
  have hS : zg_S (zc_b E) s.heap s.heap [] := va_S.rf
  refine lv_aload_n hx hb d_La_put_0 rfl (lv_at hl 3 rfl) ?_
  refine lv_iconst (v := 0) hx hb d_La_put_1 (by decide) ?_
  refine zi_as (y := nI 0) (nI_0.symm) ?_
  refine lv_aload_n hx hb d_La_put_2 rfl (lv_at hl 0 rfl) ?_
  refine lv_iload_n hx hb d_La_put_3 rfl (lv_at hl 1 rfl) ?_
  refine lv_iload_n hx hb d_La_put_4 rfl (lv_at hl 2 rfl) ?_
  refine zt_callV (hnd := (fun cls : String => if cls = "java/lang/IllegalArgumentException" then 13 else 21)) (As := [.int p0, .int p1]) (rest := [.int (nI 0), .ref out]) ⟨hx, hb, hml, hown, hts⟩ (hz) (zcV 2 hts w_850 w_851 w_852 w_1 w_853 (by decide +kernel) ⟨Nat.le_of_ble_eq_true rfl, Nat.le_of_ble_eq_true rfl⟩) (zc_preV hbase hK hN hQ hG hS hXo rfl) rfl hl.1 rfl (Nat.le_of_ble_eq_true rfl) d_La_put_5 ⟨(by dsimp only; omega), (by dsimp only; omega)⟩ hS (fun cls h9 => ?_) (fun v5 G5 H locs hp5 hG hS => ?_) (fun cls x5 H locs ht5 hG hS => ?_)
  · rcases h9 with ⟨rfl, -⟩ | ⟨rfl, -⟩
    · exact zt_wayOf (pre := []) (h := (0, 10, 13, 19)) (tl := [(0, 10, 17, 13), (0, 10, 21, 29)]) hex (fun y hy => absurd hy List.not_mem_nil) (by decide) (by decide) (hts _ w_808) (zN.at hN (w := .castable "java/lang/IllegalArgumentException" "java/lang/IllegalArgumentException") (by decide +kernel)) (by decide)
    · exact zt_wayOf (pre := [(0, 10, 13, 19), (0, 10, 17, 13)]) (h := (0, 10, 21, 29)) (tl := []) hex (List.forall_mem_cons.mpr ⟨⟨by decide, by decide, "java/lang/IllegalArgumentException", hts _ w_808, hQ.2.2.2.2.2.2.2.2.2.2.2.1 ("java/lang/UnsupportedOperationException", "java/lang/IllegalArgumentException") (by decide)⟩, List.forall_mem_singleton.mpr ⟨by decide, by decide, "java/lang/IllegalStateException", hts _ w_768, hQ.2.2.2.2.2.2.2.2.2.2.2.1 ("java/lang/UnsupportedOperationException", "java/lang/IllegalStateException") (by decide)⟩⟩) (by decide) (by decide) (hts _ w_849) (zN.at hN (w := .castable "java/lang/UnsupportedOperationException" "java/lang/UnsupportedOperationException") (by decide +kernel)) (by decide)
  · obtain ⟨r9, rfl, hq0, k_out⟩ := hp5
    have hE1 : G5 (E.2.2.2 0) = none := hQ.out hG
    refine W.eq (g2 := F0 m 8 ls [.int r9, .int (nI 0), .ref out]) rfl ?_
    refine lv_i2l hx hb d_La_put_8 rfl ?_
    refine zg_last hx hb hK hG hS 2 k_out rfl (vp_in_nI (by omega) (by omega)) d_La_put_9 (fun H locs hG hS => ?_)
    obtain ⟨G1, eG1⟩ : ∃ z : zg_G, z = zg_up G5 out (.inl (E.2.1 2, 1, .inr (.inl (vp_updL fo (nI 0).toNatClampNeg r9.toInt64)))) := ⟨_, rfl⟩
    have hG : zP E G1 H := by rw [eG1]; exact hG
    have k2 : G1 out = some (.inl (E.2.1 2, 1, .inr (.inl (vp_updL fo (nI 0).toNatClampNeg r9.toInt64)))) := by rw [eG1]; exact zg_up_self _ _ _
    refine lv_goto (tgt := 25) hx hb d_La_put_10 (by decide) ?_
    refine lv_iconst (v := 0) hx hb d_La_put_25 (by decide) ?_
    exact hret _ _ _ _ _ _ _ _ _ hr (rfl) (Or.inl ⟨rfl, r9, G5, _, hq0, k_out, eG1, rfl, hE1, hQ.out hG⟩) hG hS (by dsimp only; omega) (by dsimp only; omega) d_La_put_26
  · rcases ht5 with ⟨rfl, ht5⟩ | ⟨rfl, ht5⟩
    · refine W.eq (g2 := F0 m 13 ls [.ref x5]) (congrArg (fun n9 => F0 m n9 ls [.ref x5]) (show (fun cls : String => if cls = "java/lang/IllegalArgumentException" then 13 else 21) "java/lang/IllegalArgumentException" = 13 from by decide)) ?_
      refine lv_astore (lv' := [(4, .ref x5), (0, .ref xo), (1, .int p0), (2, .int p1), (3, .ref out)]) hx hb d_La_put_13 hl (by decide) rfl (fun ls hl => ?_)
      refine lv_iconst (v := 1) hx hb d_La_put_15 (by decide) ?_
      exact hret _ _ _ _ _ _ _ _ _ hr (rfl) (Or.inr (Or.inl ⟨rfl, ht5, rfl⟩)) hG hS (by dsimp only; omega) (by dsimp only; omega) d_La_put_16
    · refine W.eq (g2 := F0 m 21 ls [.ref x5]) (congrArg (fun n9 => F0 m n9 ls [.ref x5]) (show (fun cls : String => if cls = "java/lang/IllegalArgumentException" then 13 else 21) "java/lang/UnsupportedOperationException" = 21 from by decide)) ?_
      refine lv_astore (lv' := [(4, .ref x5), (0, .ref xo), (1, .int p0), (2, .int p1), (3, .ref out)]) hx hb d_La_put_21 hl (by decide) rfl (fun ls hl => ?_)
      refine lv_iconst (v := 3) hx hb d_La_put_23 (by decide) ?_
      exact hret _ _ _ _ _ _ _ _ _ hr (rfl) (Or.inr (Or.inr (⟨rfl, ht5, rfl⟩))) hG hS (by dsimp only; omega) (by dsimp only; omega) d_La_put_24
abbrev rm_La_take_g (n0 : Nat) : Room := { frames := 13, cells := 3, slots := n0 + 10, locals := 460 }
set_option maxHeartbeats 4000000 in
set_option maxRecDepth 100000 in
/-- take, of any object -/
theorem t_La_take_g (l : Launch) (hoff : zl_off l) (E : zc_E) (G : zg_G) (xo ta zo an out : Nat) (fo : Nat → Int64) (hXo : G xo = some (.inr (10, [.ref ta, .ref zo, .ref an]))) (hout : G out = some (oLg E fo)) (p0 : Int32) (n0 : Nat) (Q0 : Int32 → zg_G → Prop) (Q1 Q2 : Prop) (hz : zT l E y_ZA_take c_ZA_take 6 (some .int) (rm_ZA_take n0) [.ref xo, .int p0] G (fun (v : Option Value) (G2 : zg_G) => ∃ r, v = some (.int r) ∧ Q0 r G2 ∧ G2 out = some (oLg E fo)) (fun cls => (cls = "java/lang/IllegalArgumentException" ∧ Q1) ∨ (cls = "java/util/NoSuchElementException" ∧ Q2))) : zMiW l E y_La_take c_La_take 4 (some .int) [(0, 9, 12, 19), (0, 9, 15, 34)] (rm_La_take_g n0) [.ref xo, .int p0, .ref out] G (fun (r : Int32) (G2 : zg_G) => (r = 0 ∧ ∃ r9 G1 f2, Q0 r9 G1 ∧ G1 out = some (oLg E fo) ∧ G2 = zg_up G1 out (oLg E f2) ∧ f2 0 = r9.toInt64 ∧ G1 (E.2.2.2 0) = none ∧ G2 (E.2.2.2 0) = none) ∨ (r = 1 ∧ Q1 ∧ G2 = G) ∨ (r = 2 ∧ Q2 ∧ G2 = G)) := by
  refine zMiW.of (by decide) (Nat.le_of_ble_eq_true rfl) ?_
  intro p e s m args below meth c Q hZ hex hG hret ls hl
  obtain ⟨hx, hb, hr, hts, hown, hlocks, hml, hnm, hbase, hK, hN, hQ⟩ := hZ
  have hl : lv_has ls 4 [(0, .ref xo), (1, .int p0), (2, .ref out)] := hl
  have hS : zg_S (zc_b E) s.heap s.heap [] := va_S.rf
  refine lv_aload_n hx hb d_La_take_0 rfl (lv_at hl 2 rfl) ?_
  refine lv_iconst (v := 0) hx hb d_La_take_1 (by decide) ?_
  refine zi_as (y := nI 0) (nI_0.symm) ?_
  refine lv_aload_n hx hb d_La_take_2 rfl (lv_at hl 0 rfl) ?_
  refine lv_iload_n hx hb d_La_take_3 rfl (lv_at hl 1 rfl) ?_
  refine zt_callV (hnd := (fun cls : String => if cls = "java/lang/IllegalArgumentException" then 12 else 15)) (As := [.int p0]) (rest := [.int (nI 0), .ref out]) ⟨hx, hb, hml, hown, hts⟩ (hz) (zcV 1 hts w_940 w_941 w_942 w_1 w_943 (by decide +kernel) ⟨Nat.le_of_ble_eq_true rfl, Nat.le_of_ble_eq_true rfl⟩) (zc_preV hbase hK hN hQ hG hS hXo rfl) rfl hl.1 rfl (Nat.le_of_ble_eq_true rfl) d_La_take_4 ⟨(by dsimp only; omega), (by dsimp only; omega)⟩ hS (fun cls h9 => ?_) (fun v4 G4 H locs hp4 hG hS => ?_) (fun cls x4 H locs ht4 hG hS => ?_)
  · rcases h9 with ⟨rfl, -⟩ | ⟨rfl, -⟩
    · exact zt_wayOf (pre := []) (h := (0, 9, 12, 19)) (tl := [(0, 9, 15, 34)]) hex (fun y hy => absurd hy List.not_mem_nil) (by decide) (by decide) (hts _ w_808) (zN.at hN (w := .castable "java/lang/IllegalArgumentException" "java/lang/IllegalArgumentException") (by decide +kernel)) (by decide)
    · exact zt_wayOf (pre := [(0, 9, 12, 19)]) (h := (0, 9, 15, 34)) (tl := []) hex (List.forall_mem_singleton.mpr ⟨by decide, by decide, "java/lang/IllegalArgumentException", hts _ w_808, hQ.2.2.2.2.2.2.2.2.2.2.2.1 ("java/util/NoSuchElementException", "java/lang/IllegalArgumentException") (by decide)⟩) (by decide) (by decide) (hts _ w_939) (zN.at hN (w := .castable "java/util/NoSuchElementException" "java/util/NoSuchElementException") (by decide +kernel)) (by decide)
  · obtain ⟨r9, rfl, hq0, k_out⟩ := hp4
    have hE1 : G4 (E.2.2.2 0) = none := hQ.out hG
    refine W.eq (g2 := F0 m 7 ls [.int r9, .int (nI 0), .ref out]) rfl ?_
    refine lv_i2l hx hb d_La_take_7 rfl ?_
    refine zg_last hx hb hK hG hS 2 k_out rfl (vp_in_nI (by omega) (by omega)) d_La_take_8 (fun H locs hG hS => ?_)
    obtain ⟨G1, eG1⟩ : ∃ z : zg_G, z = zg_up G4 out (.inl (E.2.1 2, 1, .inr (.inl (vp_updL fo (nI 0).toNatClampNeg r9.toInt64)))) := ⟨_, rfl⟩
    have hG : zP E G1 H := by rw [eG1]; exact hG
    have k2 : G1 out = some (.inl (E.2.1 2, 1, .inr (.inl (vp_updL fo (nI 0).toNatClampNeg r9.toInt64)))) := by rw [eG1]; exact zg_up_self _ _ _
    refine lv_goto (tgt := 18) hx hb d_La_take_9 (by decide) ?_
    refine lv_iconst (v := 0) hx hb d_La_take_18 (by decide) ?_
    exact hret _ _ _ _ _ _ _ _ _ hr (rfl) (Or.inl ⟨rfl, r9, G4, _, hq0, k_out, eG1, rfl, hE1, hQ.out hG⟩) hG hS (by dsimp only; omega) (by dsimp only; omega) d_La_take_19
  · rcases ht4 with ⟨rfl, ht4⟩ | ⟨rfl, ht4⟩
    · refine W.eq (g2 := F0 m 12 ls [.ref x4]) (congrArg (fun n9 => F0 m n9 ls [.ref x4]) (show (fun cls : String => if cls = "java/lang/IllegalArgumentException" then 12 else 15) "java/lang/IllegalArgumentException" = 12 from by decide)) ?_
      refine lv_astore_n (lv' := [(3, .ref x4), (0, .ref xo), (1, .int p0), (2, .ref out)]) hx hb d_La_take_12 rfl hl (by decide) rfl (fun ls hl => ?_)
      refine lv_iconst (v := 1) hx hb d_La_take_13 (by decide) ?_
      exact hret _ _ _ _ _ _ _ _ _ hr (rfl) (Or.inr (Or.inl ⟨rfl, ht4, rfl⟩)) hG hS (by dsimp only; omega) (by dsimp only; omega) d_La_take_14
    · refine W.eq (g2 := F0 m 15 ls [.ref x4]) (congrArg (fun n9 => F0 m n9 ls [.ref x4]) (show (fun cls : String => if cls = "java/lang/IllegalArgumentException" then 12 else 15) "java/util/NoSuchElementException" = 15 from by decide)) ?_
      refine lv_astore_n (lv' := [(3, .ref x4), (0, .ref xo), (1, .int p0), (2, .ref out)]) hx hb d_La_take_15 rfl hl (by decide) rfl (fun ls hl => ?_)
      refine lv_iconst (v := 2) hx hb d_La_take_16 (by decide) ?_
      exact hret _ _ _ _ _ _ _ _ _ hr (rfl) (Or.inr (Or.inr (⟨rfl, ht4, rfl⟩))) hG hS (by dsimp only; omega) (by dsimp only; omega) d_La_take_17
abbrev rm_La_takeAll_g (n0 : Nat) : Room := { frames := 13, cells := 3, slots := n0 + 10, locals := 460 }
set_option maxHeartbeats 4000000 in
set_option maxRecDepth 100000 in
/-- takeAll, of any object -/
theorem t_La_takeAll_g (l : Launch) (hoff : zl_off l) (E : zc_E) (G : zg_G) (xo ta zo an out : Nat) (fo : Nat → Int64) (hXo : G xo = some (.inr (10, [.ref ta, .ref zo, .ref an]))) (hout : G out = some (oLg E fo)) (p0 : Int32) (n0 : Nat) (Q0 : Int32 → zg_G → Prop) (Q1 : Prop) (hz : zT l E y_ZA_takeAll c_ZA_takeAll 5 (some .int) (rm_ZA_takeAll n0) [.ref xo, .int p0] G (fun (v : Option Value) (G2 : zg_G) => ∃ r, v = some (.int r) ∧ Q0 r G2 ∧ G2 out = some (oLg E fo)) (fun cls => cls = "java/lang/IllegalArgumentException" ∧ Q1)) : zMiW l E y_La_takeAll c_La_takeAll 4 (some .int) [(0, 9, 12, 19)] (rm_La_takeAll_g n0) [.ref xo, .int p0, .ref out] G (fun (r : Int32) (G2 : zg_G) => (r = 0 ∧ ∃ r9 G1 f2, Q0 r9 G1 ∧ G1 out = some (oLg E fo) ∧ G2 = zg_up G1 out (oLg E f2) ∧ f2 0 = r9.toInt64 ∧ G1 (E.2.2.2 0) = none ∧ G2 (E.2.2.2 0) = none) ∨ (r = 1 ∧ Q1 ∧ G2 = G)) := by
  refine zMiW.of (by decide) (Nat.le_of_ble_eq_true rfl) ?_
  intro p e s m args below meth c Q hZ hex hG hret ls hl
  obtain ⟨hx, hb, hr, hts, hown, hlocks, hml, hnm, hbase, hK, hN, hQ⟩ := hZ
  have hl : lv_has ls 4 [(0, .ref xo), (1, .int p0), (2, .ref out)] := hl
  have hS : zg_S (zc_b E) s.heap s.heap [] := va_S.rf
  refine lv_aload_n hx hb d_La_takeAll_0 rfl (lv_at hl 2 rfl) ?_
  refine lv_iconst (v := 0) hx hb d_La_takeAll_1 (by decide) ?_
  refine zi_as (y := nI 0) (nI_0.symm) ?_
  refine lv_aload_n hx hb d_La_takeAll_2 rfl (lv_at hl 0 rfl) ?_
  refine lv_iload_n hx hb d_La_takeAll_3 rfl (lv_at hl 1 rfl) ?_
  refine zt_callV (hnd := (fun cls : String => 12)) (As := [.int p0]) (rest := [.int (nI 0), .ref out]) ⟨hx, hb, hml, hown, hts⟩ (hz) (zcV 1 hts w_987 w_988 w_989 w_1 w_990 (by decide +kernel) ⟨Nat.le_of_ble_eq_true rfl, Nat.le_of_ble_eq_true rfl⟩) (zc_preV hbase hK hN hQ hG hS hXo rfl) rfl hl.1 rfl (Nat.le_of_ble_eq_true rfl) d_La_takeAll_4 ⟨(by dsimp only; omega), (by dsimp only; omega)⟩ hS (fun cls h9 => ?_) (fun v4 G4 H locs hp4 hG hS => ?_) (fun cls x4 H locs ht4 hG hS => ?_)
  · rcases h9 with ⟨rfl, -⟩
    exact zt_wayOf (pre := []) (h := (0, 9, 12, 19)) (tl := []) hex (fun y hy => absurd hy List.not_mem_nil) (by decide) (by decide) (hts _ w_808) (zN.at hN (w := .castable "java/lang/IllegalArgumentException" "java/lang/IllegalArgumentException") (by decide +kernel)) (by decide)
  · obtain ⟨r9, rfl, hq0, k_out⟩ := hp4
    have hE1 : G4 (E.2.2.2 0) = none := hQ.out hG
    refine W.eq (g2 := F0 m 7 ls [.int r9, .int (nI 0), .ref out]) rfl ?_
    refine lv_i2l hx hb d_La_takeAll_7 rfl ?_
    refine zg_last hx hb hK hG hS 2 k_out rfl (vp_in_nI (by omega) (by omega)) d_La_takeAll_8 (fun H locs hG hS => ?_)
    obtain ⟨G1, eG1⟩ : ∃ z : zg_G, z = zg_up G4 out (.inl (E.2.1 2, 1, .inr (.inl (vp_updL fo (nI 0).toNatClampNeg r9.toInt64)))) := ⟨_, rfl⟩
    have hG : zP E G1 H := by rw [eG1]; exact hG
    have k2 : G1 out = some (.inl (E.2.1 2, 1, .inr (.inl (vp_updL fo (nI 0).toNatClampNeg r9.toInt64)))) := by rw [eG1]; exact zg_up_self _ _ _
    refine lv_goto (tgt := 15) hx hb d_La_takeAll_9 (by decide) ?_
    refine lv_iconst (v := 0) hx hb d_La_takeAll_15 (by decide) ?_
    exact hret _ _ _ _ _ _ _ _ _ hr (rfl) (Or.inl ⟨rfl, r9, G4, _, hq0, k_out, eG1, rfl, hE1, hQ.out hG⟩) hG hS (by dsimp only; omega) (by dsimp only; omega) d_La_takeAll_16
  · rcases ht4 with ⟨rfl, ht4⟩
    refine W.eq (g2 := F0 m 12 ls [.ref x4]) (congrArg (fun n9 => F0 m n9 ls [.ref x4]) (show (fun cls : String => 12) "java/lang/IllegalArgumentException" = 12 from by decide)) ?_
    refine lv_astore_n (lv' := [(3, .ref x4), (0, .ref xo), (1, .int p0), (2, .ref out)]) hx hb d_La_takeAll_12 rfl hl (by decide) rfl (fun ls hl => ?_)
    refine lv_iconst (v := 1) hx hb d_La_takeAll_13 (by decide) ?_
    exact hret _ _ _ _ _ _ _ _ _ hr (rfl) (Or.inr (⟨rfl, ht4, rfl⟩)) hG hS (by dsimp only; omega) (by dsimp only; omega) d_La_takeAll_14
abbrev rm_La_ask_g (n0 c9 s9 : Nat) : Room := { frames := 17, cells := c9 + 10, slots := n0 + s9 + 20, locals := 600 }
set_option maxHeartbeats 4000000 in
set_option maxRecDepth 100000 in
/-- ask, of any object -/
theorem t_La_ask_g (l : Launch) (hoff : zl_off l) (E : zc_E) (G : zg_G) (xo ta zo an out : Nat) (fo : Nat → Int64) (hXo : G xo = some (.inr (10, [.ref ta, .ref zo, .ref an]))) (hout : G out = some (oLg E fo)) (p0 p1 : Int32) (n0 c9 s9 : Nat) (Q0 : Int32 → zg_G → Prop) (Q1 : Prop) (hz : zT l E y_ZA_ask c_ZA_ask 5 (some .int) (rm_ZA_ask n0 c9 s9) [.ref xo, .int p0, .int p1] G (fun (v : Option Value) (G2 : zg_G) => ∃ r, v = some (.int r) ∧ Q0 r G2 ∧ G2 out = some (oLg E fo)) (fun cls => cls = "java/lang/IllegalArgumentException" ∧ Q1)) : zMiW l E y_La_ask c_La_ask 5 (some .int) [(0, 10, 13, 19)] (rm_La_ask_g n0 c9 s9) [.ref xo, .int p0, .int p1, .ref out] G (fun (r : Int32) (G2 : zg_G) => (r = 0 ∧ ∃ r9 G1 f2, Q0 r9 G1 ∧ G1 out = some (oLg E fo) ∧ G2 = zg_up G1 out (oLg E f2) ∧ f2 0 = r9.toInt64 ∧ G1 (E.2.2.2 0) = none ∧ G2 (E.2.2.2 0) = none) ∨ (r = 1 ∧ Q1 ∧ G2 = G)) := by
  refine zMiW.of (by decide) (Nat.le_of_ble_eq_true rfl) ?_
  intro p e s m args below meth c Q hZ hex hG hret ls hl
  obtain ⟨hx, hb, hr, hts, hown, hlocks, hml, hnm, hbase, hK, hN, hQ⟩ := hZ
  have hl : lv_has ls 5 [(0, .ref xo), (1, .int p0), (2, .int p1), (3, .ref out)] := hl
  have hS : zg_S (zc_b E) s.heap s.heap [] := va_S.rf
  refine lv_aload_n hx hb d_La_ask_0 rfl (lv_at hl 3 rfl) ?_
  refine lv_iconst (v := 0) hx hb d_La_ask_1 (by decide) ?_
  refine zi_as (y := nI 0) (nI_0.symm) ?_
  refine lv_aload_n hx hb d_La_ask_2 rfl (lv_at hl 0 rfl) ?_
  refine lv_iload_n hx hb d_La_ask_3 rfl (lv_at hl 1 rfl) ?_
  refine lv_iload_n hx hb d_La_ask_4 rfl (lv_at hl 2 rfl) ?_
  refine zt_callV (hnd := (fun cls : String => 13)) (As := [.int p0, .int p1]) (rest := [.int (nI 0), .ref out]) ⟨hx, hb, hml, hown, hts⟩ (hz) (zcV 2 hts w_1004 w_1005 w_1006 w_1 w_1007 (by decide +kernel) ⟨Nat.le_of_ble_eq_true rfl, Nat.le_of_ble_eq_true rfl⟩) (zc_preV hbase hK hN hQ hG hS hXo rfl) rfl hl.1 rfl (Nat.le_of_ble_eq_true rfl) d_La_ask_5 ⟨(by dsimp only; omega), (by dsimp only; omega)⟩ hS (fun cls h9 => ?_) (fun v5 G5 H locs hp5 hG hS => ?_) (fun cls x5 H locs ht5 hG hS => ?_)
  · rcases h9 with ⟨rfl, -⟩
    exact zt_wayOf (pre := []) (h := (0, 10, 13, 19)) (tl := []) hex (fun y hy => absurd hy List.not_mem_nil) (by decide) (by decide) (hts _ w_808) (zN.at hN (w := .castable "java/lang/IllegalArgumentException" "java/lang/IllegalArgumentException") (by decide +kernel)) (by decide)
  · obtain ⟨r9, rfl, hq0, k_out⟩ := hp5
    have hE1 : G5 (E.2.2.2 0) = none := hQ.out hG
    refine W.eq (g2 := F0 m 8 ls [.int r9, .int (nI 0), .ref out]) rfl ?_
    refine lv_i2l hx hb d_La_ask_8 rfl ?_
    refine zg_last hx hb hK hG hS 2 k_out rfl (vp_in_nI (by omega) (by omega)) d_La_ask_9 (fun H locs hG hS => ?_)
    obtain ⟨G1, eG1⟩ : ∃ z : zg_G, z = zg_up G5 out (.inl (E.2.1 2, 1, .inr (.inl (vp_updL fo (nI 0).toNatClampNeg r9.toInt64)))) := ⟨_, rfl⟩
    have hG : zP E G1 H := by rw [eG1]; exact hG
    have k2 : G1 out = some (.inl (E.2.1 2, 1, .inr (.inl (vp_updL fo (nI 0).toNatClampNeg r9.toInt64)))) := by rw [eG1]; exact zg_up_self _ _ _
    refine lv_goto (tgt := 17) hx hb d_La_ask_10 (by decide) ?_
    refine lv_iconst (v := 0) hx hb d_La_ask_17 (by decide) ?_
    exact hret _ _ _ _ _ _ _ _ _ hr (rfl) (Or.inl ⟨rfl, r9, G5, _, hq0, k_out, eG1, rfl, hE1, hQ.out hG⟩) hG hS (by dsimp only; omega) (by dsimp only; omega) d_La_ask_18
  · rcases ht5 with ⟨rfl, ht5⟩
    refine W.eq (g2 := F0 m 13 ls [.ref x5]) (congrArg (fun n9 => F0 m n9 ls [.ref x5]) (show (fun cls : String => 13) "java/lang/IllegalArgumentException" = 13 from by decide)) ?_
    refine lv_astore (lv' := [(4, .ref x5), (0, .ref xo), (1, .int p0), (2, .int p1), (3, .ref out)]) hx hb d_La_ask_13 hl (by decide) rfl (fun ls hl => ?_)
    refine lv_iconst (v := 1) hx hb d_La_ask_15 (by decide) ?_
    exact hret _ _ _ _ _ _ _ _ _ hr (rfl) (Or.inr (⟨rfl, ht5, rfl⟩)) hG hS (by dsimp only; omega) (by dsimp only; omega) d_La_ask_16
abbrev rm_La_records_g : Room := { frames := 8, cells := 1, slots := 6, locals := 170 }
set_option maxHeartbeats 4000000 in
set_option maxRecDepth 100000 in
/-- records, of any object -/
theorem t_La_records_g (l : Launch) (hoff : zl_off l) (E : zc_E) (G : zg_G) (xo ta zo an out : Nat) (fo : Nat → Int64) (hXo : G xo = some (.inr (10, [.ref ta, .ref zo, .ref an]))) (hout : G out = some (oLg E fo)) (p0 : Int32) (Q0 : Int32 → zg_G → Prop) (Q1 : Prop) (hz : zT l E y_ZA_records c_ZA_records 3 (some .int) (rm_ZA_records) [.ref xo, .int p0] G (fun (v : Option Value) (G2 : zg_G) => ∃ r, v = some (.int r) ∧ Q0 r G2 ∧ G2 out = some (oLg E fo)) (fun cls => cls = "java/util/NoSuchElementException" ∧ Q1)) : zMiW l E y_La_records c_La_records 4 (some .int) [(0, 9, 12, 34)] rm_La_records_g [.ref xo, .int p0, .ref out] G (fun (r : Int32) (G2 : zg_G) => (r = 0 ∧ ∃ r9 G1 f2, Q0 r9 G1 ∧ G1 out = some (oLg E fo) ∧ G2 = zg_up G1 out (oLg E f2) ∧ f2 0 = r9.toInt64 ∧ G1 (E.2.2.2 0) = none ∧ G2 (E.2.2.2 0) = none) ∨ (r = 1 ∧ Q1 ∧ G2 = G)) := by
  refine zMiW.of (by decide) (Nat.le_of_ble_eq_true rfl) ?_
  intro p e s m args below meth c Q hZ hex hG hret ls hl
  obtain ⟨hx, hb, hr, hts, hown, hlocks, hml, hnm, hbase, hK, hN, hQ⟩ := hZ
  have hl : lv_has ls 4 [(0, .ref xo), (1, .int p0), (2, .ref out)] := hl
  have hS : zg_S (zc_b E) s.heap s.heap [] := va_S.rf
  refine lv_aload_n hx hb d_La_records_0 rfl (lv_at hl 2 rfl) ?_
  refine lv_iconst (v := 0) hx hb d_La_records_1 (by decide) ?_
  refine zi_as (y := nI 0) (nI_0.symm) ?_
  refine lv_aload_n hx hb d_La_records_2 rfl (lv_at hl 0 rfl) ?_
  refine lv_iload_n hx hb d_La_records_3 rfl (lv_at hl 1 rfl) ?_
  refine zt_callV (hnd := (fun cls : String => 12)) (As := [.int p0]) (rest := [.int (nI 0), .ref out]) ⟨hx, hb, hml, hown, hts⟩ (hz) (zcV 1 hts w_1200 w_1201 w_1202 w_1 w_1203 (by decide +kernel) ⟨Nat.le_of_ble_eq_true rfl, Nat.le_of_ble_eq_true rfl⟩) (zc_preV hbase hK hN hQ hG hS hXo rfl) rfl hl.1 rfl (Nat.le_of_ble_eq_true rfl) d_La_records_4 ⟨(by dsimp only; omega), (by dsimp only; omega)⟩ hS (fun cls h9 => ?_) (fun v4 G4 H locs hp4 hG hS => ?_) (fun cls x4 H locs ht4 hG hS => ?_)
  · rcases h9 with ⟨rfl, -⟩
    exact zt_wayOf (pre := []) (h := (0, 9, 12, 34)) (tl := []) hex (fun y hy => absurd hy List.not_mem_nil) (by decide) (by decide) (hts _ w_939) (zN.at hN (w := .castable "java/util/NoSuchElementException" "java/util/NoSuchElementException") (by decide +kernel)) (by decide)
  · obtain ⟨r9, rfl, hq0, k_out⟩ := hp4
    have hE1 : G4 (E.2.2.2 0) = none := hQ.out hG
    refine W.eq (g2 := F0 m 7 ls [.int r9, .int (nI 0), .ref out]) rfl ?_
    refine lv_i2l hx hb d_La_records_7 rfl ?_
    refine zg_last hx hb hK hG hS 2 k_out rfl (vp_in_nI (by omega) (by omega)) d_La_records_8 (fun H locs hG hS => ?_)
    obtain ⟨G1, eG1⟩ : ∃ z : zg_G, z = zg_up G4 out (.inl (E.2.1 2, 1, .inr (.inl (vp_updL fo (nI 0).toNatClampNeg r9.toInt64)))) := ⟨_, rfl⟩
    have hG : zP E G1 H := by rw [eG1]; exact hG
    have k2 : G1 out = some (.inl (E.2.1 2, 1, .inr (.inl (vp_updL fo (nI 0).toNatClampNeg r9.toInt64)))) := by rw [eG1]; exact zg_up_self _ _ _
    refine lv_goto (tgt := 15) hx hb d_La_records_9 (by decide) ?_
    refine lv_iconst (v := 0) hx hb d_La_records_15 (by decide) ?_
    exact hret _ _ _ _ _ _ _ _ _ hr (rfl) (Or.inl ⟨rfl, r9, G4, _, hq0, k_out, eG1, rfl, hE1, hQ.out hG⟩) hG hS (by dsimp only; omega) (by dsimp only; omega) d_La_records_16
  · rcases ht4 with ⟨rfl, ht4⟩
    refine W.eq (g2 := F0 m 12 ls [.ref x4]) (congrArg (fun n9 => F0 m n9 ls [.ref x4]) (show (fun cls : String => 12) "java/util/NoSuchElementException" = 12 from by decide)) ?_
    refine lv_astore_n (lv' := [(3, .ref x4), (0, .ref xo), (1, .int p0), (2, .ref out)]) hx hb d_La_records_12 rfl hl (by decide) rfl (fun ls hl => ?_)
    refine lv_iconst (v := 1) hx hb d_La_records_13 (by decide) ?_
    exact hret _ _ _ _ _ _ _ _ _ hr (rfl) (Or.inr (⟨rfl, ht4, rfl⟩)) hG hS (by dsimp only; omega) (by dsimp only; omega) d_La_records_14
abbrev rm_La_told_g : Room := { frames := 9, cells := 1, slots := 6, locals := 220 }
set_option maxHeartbeats 4000000 in
set_option maxRecDepth 100000 in
/-- told, of any object -/
theorem t_La_told_g (l : Launch) (hoff : zl_off l) (E : zc_E) (G : zg_G) (xo ta zo an out : Nat) (fo : Nat → Int64) (hXo : G xo = some (.inr (10, [.ref ta, .ref zo, .ref an]))) (hout : G out = some (oLg E fo)) (p0 p1 p2 : Int32) (Q0 : Int32 → zg_G → Prop) (Q1 Q2 : Prop) (hz : zT l E y_ZA_told c_ZA_told 5 (some .int) (rm_ZA_told) [.ref xo, .int p0, .int p1, .int p2] G (fun (v : Option Value) (G2 : zg_G) => ∃ r, v = some (.int r) ∧ Q0 r G2 ∧ G2 out = some (oLg E fo)) (fun cls => (cls = "java/util/NoSuchElementException" ∧ Q1) ∨ (cls = "java/lang/IllegalArgumentException" ∧ Q2))) : zMiW l E y_La_told c_La_told 6 (some .int) [(0, 12, 15, 34), (0, 12, 19, 19)] rm_La_told_g [.ref xo, .int p0, .int p1, .int p2, .ref out] G (fun (r : Int32) (G2 : zg_G) => (r = 0 ∧ ∃ r9 G1 f2, Q0 r9 G1 ∧ G1 out = some (oLg E fo) ∧ G2 = zg_up G1 out (oLg E f2) ∧ f2 0 = r9.toInt64 ∧ G1 (E.2.2.2 0) = none ∧ G2 (E.2.2.2 0) = none) ∨ (r = 1 ∧ Q1 ∧ G2 = G) ∨ (r = 2 ∧ Q2 ∧ G2 = G)) := by
  refine zMiW.of (by decide) (Nat.le_of_ble_eq_true rfl) ?_
  intro p e s m args below meth c Q hZ hex hG hret ls hl
  obtain ⟨hx, hb, hr, hts, hown, hlocks, hml, hnm, hbase, hK, hN, hQ⟩ := hZ
  have hl : lv_has ls 6 [(0, .ref xo), (1, .int p0), (2, .int p1), (3, .int p2), (4, .ref out)] := hl
  have hS : zg_S (zc_b E) s.heap s.heap [] := va_S.rf
  refine lv_aload hx hb d_La_told_0 (lv_at hl 4 rfl) ?_
  refine lv_iconst (v := 0) hx hb d_La_told_2 (by decide) ?_
  refine zi_as (y := nI 0) (nI_0.symm) ?_
  refine lv_aload_n hx hb d_La_told_3 rfl (lv_at hl 0 rfl) ?_
  refine lv_iload_n hx hb d_La_told_4 rfl (lv_at hl 1 rfl) ?_
  refine lv_iload_n hx hb d_La_told_5 rfl (lv_at hl 2 rfl) ?_
  refine lv_iload_n hx hb d_La_told_6 rfl (lv_at hl 3 rfl) ?_
  refine zt_callV (hnd := (fun cls : String => if cls = "java/util/NoSuchElementException" then 15 else 19)) (As := [.int p0, .int p1, .int p2]) (rest := [.int (nI 0), .ref out]) ⟨hx, hb, hml, hown, hts⟩ (hz) (zcV 3 hts w_1212 w_1213 w_1214 w_1 w_1215 (by decide +kernel) ⟨Nat.le_of_ble_eq_true rfl, Nat.le_of_ble_eq_true rfl⟩) (zc_preV hbase hK hN hQ hG hS hXo rfl) rfl hl.1 rfl (Nat.le_of_ble_eq_true rfl) d_La_told_7 ⟨(by dsimp only; omega), (by dsimp only; omega)⟩ hS (fun cls h9 => ?_) (fun v7 G7 H locs hp7 hG hS => ?_) (fun cls x7 H locs ht7 hG hS => ?_)
  · rcases h9 with ⟨rfl, -⟩ | ⟨rfl, -⟩
    · exact zt_wayOf (pre := []) (h := (0, 12, 15, 34)) (tl := [(0, 12, 19, 19)]) hex (fun y hy => absurd hy List.not_mem_nil) (by decide) (by decide) (hts _ w_939) (zN.at hN (w := .castable "java/util/NoSuchElementException" "java/util/NoSuchElementException") (by decide +kernel)) (by decide)
    · exact zt_wayOf (pre := [(0, 12, 15, 34)]) (h := (0, 12, 19, 19)) (tl := []) hex (List.forall_mem_singleton.mpr ⟨by decide, by decide, "java/util/NoSuchElementException", hts _ w_939, hQ.2.2.2.2.2.2.2.2.2.2.2.1 ("java/lang/IllegalArgumentException", "java/util/NoSuchElementException") (by decide)⟩) (by decide) (by decide) (hts _ w_808) (zN.at hN (w := .castable "java/lang/IllegalArgumentException" "java/lang/IllegalArgumentException") (by decide +kernel)) (by decide)
  · obtain ⟨r9, rfl, hq0, k_out⟩ := hp7
    have hE1 : G7 (E.2.2.2 0) = none := hQ.out hG
    refine W.eq (g2 := F0 m 10 ls [.int r9, .int (nI 0), .ref out]) rfl ?_
    refine lv_i2l hx hb d_La_told_10 rfl ?_
    refine zg_last hx hb hK hG hS 2 k_out rfl (vp_in_nI (by omega) (by omega)) d_La_told_11 (fun H locs hG hS => ?_)
    obtain ⟨G1, eG1⟩ : ∃ z : zg_G, z = zg_up G7 out (.inl (E.2.1 2, 1, .inr (.inl (vp_updL fo (nI 0).toNatClampNeg r9.toInt64)))) := ⟨_, rfl⟩
    have hG : zP E G1 H := by rw [eG1]; exact hG
    have k2 : G1 out = some (.inl (E.2.1 2, 1, .inr (.inl (vp_updL fo (nI 0).toNatClampNeg r9.toInt64)))) := by rw [eG1]; exact zg_up_self _ _ _
    refine lv_goto (tgt := 23) hx hb d_La_told_12 (by decide) ?_
    refine lv_iconst (v := 0) hx hb d_La_told_23 (by decide) ?_
    exact hret _ _ _ _ _ _ _ _ _ hr (rfl) (Or.inl ⟨rfl, r9, G7, _, hq0, k_out, eG1, rfl, hE1, hQ.out hG⟩) hG hS (by dsimp only; omega) (by dsimp only; omega) d_La_told_24
  · rcases ht7 with ⟨rfl, ht7⟩ | ⟨rfl, ht7⟩
    · refine W.eq (g2 := F0 m 15 ls [.ref x7]) (congrArg (fun n9 => F0 m n9 ls [.ref x7]) (show (fun cls : String => if cls = "java/util/NoSuchElementException" then 15 else 19) "java/util/NoSuchElementException" = 15 from by decide)) ?_
      refine lv_astore (lv' := [(5, .ref x7), (0, .ref xo), (1, .int p0), (2, .int p1), (3, .int p2), (4, .ref out)]) hx hb d_La_told_15 hl (by decide) rfl (fun ls hl => ?_)
      refine lv_iconst (v := 1) hx hb d_La_told_17 (by decide) ?_
      exact hret _ _ _ _ _ _ _ _ _ hr (rfl) (Or.inr (Or.inl ⟨rfl, ht7, rfl⟩)) hG hS (by dsimp only; omega) (by dsimp only; omega) d_La_told_18
    · refine W.eq (g2 := F0 m 19 ls [.ref x7]) (congrArg (fun n9 => F0 m n9 ls [.ref x7]) (show (fun cls : String => if cls = "java/util/NoSuchElementException" then 15 else 19) "java/lang/IllegalArgumentException" = 19 from by decide)) ?_
      refine lv_astore (lv' := [(5, .ref x7), (0, .ref xo), (1, .int p0), (2, .int p1), (3, .int p2), (4, .ref out)]) hx hb d_La_told_19 hl (by decide) rfl (fun ls hl => ?_)
      refine lv_iconst (v := 2) hx hb d_La_told_21 (by decide) ?_
      exact hret _ _ _ _ _ _ _ _ _ hr (rfl) (Or.inr (Or.inr (⟨rfl, ht7, rfl⟩))) hG hS (by dsimp only; omega) (by dsimp only; omega) d_La_told_22
abbrev rm_La_byteOf_g : Room := { frames := 9, cells := 1, slots := 6, locals := 220 }
set_option maxHeartbeats 4000000 in
set_option maxRecDepth 100000 in
/-- byteOf, of any object -/
theorem t_La_byteOf_g (l : Launch) (hoff : zl_off l) (E : zc_E) (G : zg_G) (xo ta zo an out : Nat) (fo : Nat → Int64) (hXo : G xo = some (.inr (10, [.ref ta, .ref zo, .ref an]))) (hout : G out = some (oLg E fo)) (p0 p1 p2 : Int32) (Q0 : Int32 → zg_G → Prop) (Q1 Q2 : Prop) (hz : zT l E y_ZA_byteOf c_ZA_byteOf 6 (some .int) (rm_ZA_byteOf) [.ref xo, .int p0, .int p1, .int p2] G (fun (v : Option Value) (G2 : zg_G) => ∃ r, v = some (.int r) ∧ Q0 r G2 ∧ G2 out = some (oLg E fo)) (fun cls => (cls = "java/util/NoSuchElementException" ∧ Q1) ∨ (cls = "java/lang/IndexOutOfBoundsException" ∧ Q2))) : zMiW l E y_La_byteOf c_La_byteOf 6 (some .int) [(0, 12, 15, 34), (0, 12, 19, 53)] rm_La_byteOf_g [.ref xo, .int p0, .int p1, .int p2, .ref out] G (fun (r : Int32) (G2 : zg_G) => (r = 0 ∧ ∃ r9 G1 f2, Q0 r9 G1 ∧ G1 out = some (oLg E fo) ∧ G2 = zg_up G1 out (oLg E f2) ∧ f2 0 = r9.toInt64 ∧ G1 (E.2.2.2 0) = none ∧ G2 (E.2.2.2 0) = none) ∨ (r = 1 ∧ Q1 ∧ G2 = G) ∨ (r = 2 ∧ Q2 ∧ G2 = G)) := by
  refine zMiW.of (by decide) (Nat.le_of_ble_eq_true rfl) ?_
  intro p e s m args below meth c Q hZ hex hG hret ls hl
  obtain ⟨hx, hb, hr, hts, hown, hlocks, hml, hnm, hbase, hK, hN, hQ⟩ := hZ
  have hl : lv_has ls 6 [(0, .ref xo), (1, .int p0), (2, .int p1), (3, .int p2), (4, .ref out)] := hl
  have hS : zg_S (zc_b E) s.heap s.heap [] := va_S.rf
  refine lv_aload hx hb d_La_byteOf_0 (lv_at hl 4 rfl) ?_
  refine lv_iconst (v := 0) hx hb d_La_byteOf_2 (by decide) ?_
  refine zi_as (y := nI 0) (nI_0.symm) ?_
  refine lv_aload_n hx hb d_La_byteOf_3 rfl (lv_at hl 0 rfl) ?_
  refine lv_iload_n hx hb d_La_byteOf_4 rfl (lv_at hl 1 rfl) ?_
  refine lv_iload_n hx hb d_La_byteOf_5 rfl (lv_at hl 2 rfl) ?_
  refine lv_iload_n hx hb d_La_byteOf_6 rfl (lv_at hl 3 rfl) ?_
  refine zt_callV (hnd := (fun cls : String => if cls = "java/util/NoSuchElementException" then 15 else 19)) (As := [.int p0, .int p1, .int p2]) (rest := [.int (nI 0), .ref out]) ⟨hx, hb, hml, hown, hts⟩ (hz) (zcV 3 hts w_1226 w_1227 w_1228 w_1 w_1229 (by decide +kernel) ⟨Nat.le_of_ble_eq_true rfl, Nat.le_of_ble_eq_true rfl⟩) (zc_preV hbase hK hN hQ hG hS hXo rfl) rfl hl.1 rfl (Nat.le_of_ble_eq_true rfl) d_La_byteOf_7 ⟨(by dsimp only; omega), (by dsimp only; omega)⟩ hS (fun cls h9 => ?_) (fun v7 G7 H locs hp7 hG hS => ?_) (fun cls x7 H locs ht7 hG hS => ?_)
  · rcases h9 with ⟨rfl, -⟩ | ⟨rfl, -⟩
    · exact zt_wayOf (pre := []) (h := (0, 12, 15, 34)) (tl := [(0, 12, 19, 53)]) hex (fun y hy => absurd hy List.not_mem_nil) (by decide) (by decide) (hts _ w_939) (zN.at hN (w := .castable "java/util/NoSuchElementException" "java/util/NoSuchElementException") (by decide +kernel)) (by decide)
    · exact zt_wayOf (pre := [(0, 12, 15, 34)]) (h := (0, 12, 19, 53)) (tl := []) hex (List.forall_mem_singleton.mpr ⟨by decide, by decide, "java/util/NoSuchElementException", hts _ w_939, hQ.2.2.2.2.2.2.2.2.2.2.2.1 ("java/lang/IndexOutOfBoundsException", "java/util/NoSuchElementException") (by decide)⟩) (by decide) (by decide) (hts _ w_1225) (zN.at hN (w := .castable "java/lang/IndexOutOfBoundsException" "java/lang/IndexOutOfBoundsException") (by decide +kernel)) (by decide)
  · obtain ⟨r9, rfl, hq0, k_out⟩ := hp7
    have hE1 : G7 (E.2.2.2 0) = none := hQ.out hG
    refine W.eq (g2 := F0 m 10 ls [.int r9, .int (nI 0), .ref out]) rfl ?_
    refine lv_i2l hx hb d_La_byteOf_10 rfl ?_
    refine zg_last hx hb hK hG hS 2 k_out rfl (vp_in_nI (by omega) (by omega)) d_La_byteOf_11 (fun H locs hG hS => ?_)
    obtain ⟨G1, eG1⟩ : ∃ z : zg_G, z = zg_up G7 out (.inl (E.2.1 2, 1, .inr (.inl (vp_updL fo (nI 0).toNatClampNeg r9.toInt64)))) := ⟨_, rfl⟩
    have hG : zP E G1 H := by rw [eG1]; exact hG
    have k2 : G1 out = some (.inl (E.2.1 2, 1, .inr (.inl (vp_updL fo (nI 0).toNatClampNeg r9.toInt64)))) := by rw [eG1]; exact zg_up_self _ _ _
    refine lv_goto (tgt := 23) hx hb d_La_byteOf_12 (by decide) ?_
    refine lv_iconst (v := 0) hx hb d_La_byteOf_23 (by decide) ?_
    exact hret _ _ _ _ _ _ _ _ _ hr (rfl) (Or.inl ⟨rfl, r9, G7, _, hq0, k_out, eG1, rfl, hE1, hQ.out hG⟩) hG hS (by dsimp only; omega) (by dsimp only; omega) d_La_byteOf_24
  · rcases ht7 with ⟨rfl, ht7⟩ | ⟨rfl, ht7⟩
    · refine W.eq (g2 := F0 m 15 ls [.ref x7]) (congrArg (fun n9 => F0 m n9 ls [.ref x7]) (show (fun cls : String => if cls = "java/util/NoSuchElementException" then 15 else 19) "java/util/NoSuchElementException" = 15 from by decide)) ?_
      refine lv_astore (lv' := [(5, .ref x7), (0, .ref xo), (1, .int p0), (2, .int p1), (3, .int p2), (4, .ref out)]) hx hb d_La_byteOf_15 hl (by decide) rfl (fun ls hl => ?_)
      refine lv_iconst (v := 1) hx hb d_La_byteOf_17 (by decide) ?_
      exact hret _ _ _ _ _ _ _ _ _ hr (rfl) (Or.inr (Or.inl ⟨rfl, ht7, rfl⟩)) hG hS (by dsimp only; omega) (by dsimp only; omega) d_La_byteOf_18
    · refine W.eq (g2 := F0 m 19 ls [.ref x7]) (congrArg (fun n9 => F0 m n9 ls [.ref x7]) (show (fun cls : String => if cls = "java/util/NoSuchElementException" then 15 else 19) "java/lang/IndexOutOfBoundsException" = 19 from by decide)) ?_
      refine lv_astore (lv' := [(5, .ref x7), (0, .ref xo), (1, .int p0), (2, .int p1), (3, .int p2), (4, .ref out)]) hx hb d_La_byteOf_19 hl (by decide) rfl (fun ls hl => ?_)
      refine lv_iconst (v := 2) hx hb d_La_byteOf_21 (by decide) ?_
      exact hret _ _ _ _ _ _ _ _ _ hr (rfl) (Or.inr (Or.inr (⟨rfl, ht7, rfl⟩))) hG hS (by dsimp only; omega) (by dsimp only; omega) d_La_byteOf_22
abbrev rm_La_state_g (n0 : Nat) : Room := { frames := 10, cells := 3, slots := n0 + 10, locals := 260 }
set_option maxHeartbeats 4000000 in
set_option maxRecDepth 100000 in
/-- state, of any object -/
theorem t_La_state_g (l : Launch) (hoff : zl_off l) (E : zc_E) (G : zg_G) (xo ta zo an out : Nat) (fo : Nat → Int64) (hXo : G xo = some (.inr (10, [.ref ta, .ref zo, .ref an]))) (hout : G out = some (oLg E fo)) (n0 : Nat) (Q0 : Int32 → zg_G → Prop) (Q1 : Prop) (hz : zT l E y_ZA_state c_ZA_state 3 (some .int) (rm_ZA_state n0) [.ref xo] G (fun (v : Option Value) (G2 : zg_G) => ∃ r, v = some (.int r) ∧ Q0 r G2 ∧ G2 out = some (oLg E fo)) (fun cls => cls = "java/lang/IllegalArgumentException" ∧ Q1)) : zMiW l E y_La_state c_La_state 3 (some .int) [(0, 8, 11, 19)] (rm_La_state_g n0) [.ref xo, .ref out] G (fun (r : Int32) (G2 : zg_G) => (r = 0 ∧ ∃ r9 G1 f2, Q0 r9 G1 ∧ G1 out = some (oLg E fo) ∧ G2 = zg_up G1 out (oLg E f2) ∧ f2 0 = r9.toInt64 ∧ G1 (E.2.2.2 0) = none ∧ G2 (E.2.2.2 0) = none) ∨ (r = 1 ∧ Q1 ∧ G2 = G)) := by
  refine zMiW.of (by decide) (Nat.le_of_ble_eq_true rfl) ?_
  intro p e s m args below meth c Q hZ hex hG hret ls hl
  obtain ⟨hx, hb, hr, hts, hown, hlocks, hml, hnm, hbase, hK, hN, hQ⟩ := hZ
  have hl : lv_has ls 3 [(0, .ref xo), (1, .ref out)] := hl
  have hS : zg_S (zc_b E) s.heap s.heap [] := va_S.rf
  refine lv_aload_n hx hb d_La_state_0 rfl (lv_at hl 1 rfl) ?_
  refine lv_iconst (v := 0) hx hb d_La_state_1 (by decide) ?_
  refine zi_as (y := nI 0) (nI_0.symm) ?_
  refine lv_aload_n hx hb d_La_state_2 rfl (lv_at hl 0 rfl) ?_
  refine zt_callV (hnd := (fun cls : String => 11)) (As := []) (rest := [.int (nI 0), .ref out]) ⟨hx, hb, hml, hown, hts⟩ (hz) (zcV 0 hts w_1238 w_1239 w_1240 w_1 w_1241 (by decide +kernel) ⟨Nat.le_of_ble_eq_true rfl, Nat.le_of_ble_eq_true rfl⟩) (zc_preV hbase hK hN hQ hG hS hXo rfl) rfl hl.1 rfl (Nat.le_of_ble_eq_true rfl) d_La_state_3 ⟨(by dsimp only; omega), (by dsimp only; omega)⟩ hS (fun cls h9 => ?_) (fun v3 G3 H locs hp3 hG hS => ?_) (fun cls x3 H locs ht3 hG hS => ?_)
  · rcases h9 with ⟨rfl, -⟩
    exact zt_wayOf (pre := []) (h := (0, 8, 11, 19)) (tl := []) hex (fun y hy => absurd hy List.not_mem_nil) (by decide) (by decide) (hts _ w_808) (zN.at hN (w := .castable "java/lang/IllegalArgumentException" "java/lang/IllegalArgumentException") (by decide +kernel)) (by decide)
  · obtain ⟨r9, rfl, hq0, k_out⟩ := hp3
    have hE1 : G3 (E.2.2.2 0) = none := hQ.out hG
    refine W.eq (g2 := F0 m 6 ls [.int r9, .int (nI 0), .ref out]) rfl ?_
    refine lv_i2l hx hb d_La_state_6 rfl ?_
    refine zg_last hx hb hK hG hS 2 k_out rfl (vp_in_nI (by omega) (by omega)) d_La_state_7 (fun H locs hG hS => ?_)
    obtain ⟨G1, eG1⟩ : ∃ z : zg_G, z = zg_up G3 out (.inl (E.2.1 2, 1, .inr (.inl (vp_updL fo (nI 0).toNatClampNeg r9.toInt64)))) := ⟨_, rfl⟩
    have hG : zP E G1 H := by rw [eG1]; exact hG
    have k2 : G1 out = some (.inl (E.2.1 2, 1, .inr (.inl (vp_updL fo (nI 0).toNatClampNeg r9.toInt64)))) := by rw [eG1]; exact zg_up_self _ _ _
    refine lv_goto (tgt := 14) hx hb d_La_state_8 (by decide) ?_
    refine lv_iconst (v := 0) hx hb d_La_state_14 (by decide) ?_
    exact hret _ _ _ _ _ _ _ _ _ hr (rfl) (Or.inl ⟨rfl, r9, G3, _, hq0, k_out, eG1, rfl, hE1, hQ.out hG⟩) hG hS (by dsimp only; omega) (by dsimp only; omega) d_La_state_15
  · rcases ht3 with ⟨rfl, ht3⟩
    refine W.eq (g2 := F0 m 11 ls [.ref x3]) (congrArg (fun n9 => F0 m n9 ls [.ref x3]) (show (fun cls : String => 11) "java/lang/IllegalArgumentException" = 11 from by decide)) ?_
    refine lv_astore_n (lv' := [(2, .ref x3), (0, .ref xo), (1, .ref out)]) hx hb d_La_state_11 rfl hl (by decide) rfl (fun ls hl => ?_)
    refine lv_iconst (v := 1) hx hb d_La_state_12 (by decide) ?_
    exact hret _ _ _ _ _ _ _ _ _ hr (rfl) (Or.inr (⟨rfl, ht3, rfl⟩)) hG hS (by dsimp only; omega) (by dsimp only; omega) d_La_state_13
