theorem zNm.cg {F F' : Nat → Int32} {N : Nat} {ls : np_N} (h : zNm F N ls) (e : ∀ j, j < N → F' j = F j) : zNm F' N ls := ⟨h.1, h.2.1, fun j hj => by rw [e j (Nat.lt_of_lt_of_le hj h.2.1)]; exact h.2.2 j hj⟩
theorem zE_is {F : Nat → Int32} {N x : Nat} {r : Int32} {ls : np_N} (h : zE F N x r) (hn : zNm F N ls) : r = nI (x + np_len ls) := by
  rcases h with ⟨l2, q, q2⟩ | ⟨q, -⟩
  · rw [q2, zNm_un q hn]
  · exact absurd ⟨ls, hn⟩ q
/-- the data of a zone's start: two names, then five numbers -/
def zSoa (dt : List Int32) (x y : np_N) : Prop := zNm (fun j => dt.getD (0 + j) 0) (dt.length - 0) x ∧ zNm (fun j => dt.getD (np_len x + j) 0) (dt.length - np_len x) y ∧ dt.length = np_len x + np_len y + 20
theorem t_AL_clear_u (l : Launch) {E : zc_E} {G : zg_G} {a dd : Nat} {xs : List Nat} (h : zL E G a dd xs) : zMv l E y_AL_clear c_AL_clear 4 rm_AL_clear [.ref a] G (fun G2 => zL E G2 a dd [] ∧ zx (fun q => q = a ∨ q = dd) G G2) := by
  obtain ⟨⟨k, h1⟩, ⟨rfl, rfl⟩ | ⟨cap, f, h2, h3, h4, h5, h6⟩⟩ := h
  · exact (t_AL_clear_e l E G a k (by rw [show nI ([] : List Nat).length = 0 from nI_0] at h1; exact h1)).imp (fun G' q => ⟨⟨⟨_, by rw [show nI ([] : List Nat).length = 0 from nI_0]; exact q.2⟩, Or.inl ⟨rfl, rfl⟩⟩, q.1.w (fun _ z => Or.inl z)⟩)
  · refine (t_AL_clear l E G a dd xs.length cap k f h1 h2 h4 (by omega)).imp (fun G' q => ?_)
    obtain ⟨q1, q2, f2, q3, q4⟩ := q
    refine ⟨⟨⟨_, by rw [show nI ([] : List Nat).length = 0 from nI_0]; exact q2⟩, Or.inr ⟨cap, f2, q3, h3, Nat.zero_le _, h5, fun j => ?_⟩⟩, q1⟩
    rw [q4 j, h6 j]
    by_cases hj : j < xs.length
    · rw [if_pos hj]; simp
    · rw [if_neg hj, List.getElem?_eq_none (by omega)]; simp
theorem w_1016 : (.methodLink "ZoneAnswers$Section" 16 ⟨"java/util/ArrayList", "clear", "()V"⟩ : Cond) ∈ zw := zw_at 1016 (by decide +kernel) (by decide +kernel)
theorem w_1067 : (.methodLink "ZoneAnswers$Section" 29 ⟨"java/util/ArrayList", "add", "(Ljava/lang/Object;)Z"⟩ : Cond) ∈ zw := zw_at 1067 (by decide +kernel) (by decide +kernel)
theorem w_1529 : (.methodLink "ZoneAnswersModel" 134 ⟨"java/lang/Math", "min", "(JJ)J"⟩ : Cond) ∈ zw := zw_at 1529 (by decide +kernel) (by decide +kernel)
theorem w_1530 : (.static ⟨"java/lang/Math", "min", "(JJ)J"⟩ : Cond) ∈ zw := zw_at 1530 (by decide +kernel) (by decide +kernel)
theorem w_1531 : (.code ⟨"java/lang/Math", "min", "(JJ)J"⟩ prog_24_method_70_code 4 (some .long) : Cond) ∈ zw := zw_at 1531 (by decide +kernel) (by decide +kernel)
abbrev c_Mo_linkTime : ByteArray := prog_12_method_16_code
abbrev y_Mo_linkTime : MethodName := ⟨"ZoneAnswersModel", "linkTime", "()I"⟩
theorem d_Mo_linkTime_0 : decode c_Mo_linkTime 0 = .ok (.aload_n 0, 1) := by decide +kernel
theorem d_Mo_linkTime_1 : decode c_Mo_linkTime 1 = .ok (.getfield 19, 3) := by decide +kernel
theorem d_Mo_linkTime_4 : decode c_Mo_linkTime 4 = .ok (.iconst 0, 1) := by decide +kernel
theorem d_Mo_linkTime_5 : decode c_Mo_linkTime 5 = .ok (.aaload, 1) := by decide +kernel
theorem d_Mo_linkTime_6 : decode c_Mo_linkTime 6 = .ok (.getfield 69, 3) := by decide +kernel
theorem d_Mo_linkTime_9 : decode c_Mo_linkTime 9 = .ok (.i2l, 1) := by decide +kernel
theorem d_Mo_linkTime_10 : decode c_Mo_linkTime 10 = .ok (.ldc2_w 124, 3) := by decide +kernel
theorem d_Mo_linkTime_13 : decode c_Mo_linkTime 13 = .ok (.land, 1) := by decide +kernel
theorem d_Mo_linkTime_14 : decode c_Mo_linkTime 14 = .ok (.aload_n 0, 1) := by decide +kernel
theorem d_Mo_linkTime_15 : decode c_Mo_linkTime 15 = .ok (.getfield 19, 3) := by decide +kernel
theorem d_Mo_linkTime_18 : decode c_Mo_linkTime 18 = .ok (.iconst 0, 1) := by decide +kernel
theorem d_Mo_linkTime_19 : decode c_Mo_linkTime 19 = .ok (.aaload, 1) := by decide +kernel
theorem d_Mo_linkTime_20 : decode c_Mo_linkTime 20 = .ok (.getfield 71, 3) := by decide +kernel
theorem d_Mo_linkTime_23 : decode c_Mo_linkTime 23 = .ok (.aload_n 0, 1) := by decide +kernel
theorem d_Mo_linkTime_24 : decode c_Mo_linkTime 24 = .ok (.invokevirtual 126, 3) := by decide +kernel
theorem d_Mo_linkTime_27 : decode c_Mo_linkTime 27 = .ok (.bipush 16, 2) := by decide +kernel
theorem d_Mo_linkTime_29 : decode c_Mo_linkTime 29 = .ok (.iadd, 1) := by decide +kernel
theorem d_Mo_linkTime_30 : decode c_Mo_linkTime 30 = .ok (.invokestatic 130, 3) := by decide +kernel
theorem d_Mo_linkTime_33 : decode c_Mo_linkTime 33 = .ok (.invokestatic 134, 3) := by decide +kernel
theorem d_Mo_linkTime_36 : decode c_Mo_linkTime 36 = .ok (.l2i, 1) := by decide +kernel
theorem d_Mo_linkTime_37 : decode c_Mo_linkTime 37 = .ok (.ireturn, 1) := by decide +kernel
abbrev c_Se_clear : ByteArray := prog_7_method_2_code
abbrev y_Se_clear : MethodName := ⟨"ZoneAnswers$Section", "clear", "()V"⟩
theorem d_Se_clear_0 : decode c_Se_clear 0 = .ok (.aload_n 0, 1) := by decide +kernel
theorem d_Se_clear_1 : decode c_Se_clear 1 = .ok (.getfield 10, 3) := by decide +kernel
theorem d_Se_clear_4 : decode c_Se_clear 4 = .ok (.invokevirtual 16, 3) := by decide +kernel
theorem d_Se_clear_7 : decode c_Se_clear 7 = .ok (.return_, 1) := by decide +kernel
abbrev c_Se_add : ByteArray := prog_7_method_5_code
abbrev y_Se_add : MethodName := ⟨"ZoneAnswers$Section", "add", "(LZoneAnswers$Told;)V"⟩
theorem d_Se_add_0 : decode c_Se_add 0 = .ok (.aload_n 0, 1) := by decide +kernel
theorem d_Se_add_1 : decode c_Se_add 1 = .ok (.getfield 10, 3) := by decide +kernel
theorem d_Se_add_4 : decode c_Se_add 4 = .ok (.aload_n 1, 1) := by decide +kernel
theorem d_Se_add_5 : decode c_Se_add 5 = .ok (.invokevirtual 29, 3) := by decide +kernel
theorem d_Se_add_8 : decode c_Se_add 8 = .ok (.pop, 1) := by decide +kernel
theorem d_Se_add_9 : decode c_Se_add 9 = .ok (.return_, 1) := by decide +kernel
abbrev rm_Mo_numbers : Room := { frames := 1, cells := 0, slots := 0, locals := 40 }
set_option maxHeartbeats 4000000 in
set_option maxRecDepth 100000 in
/-- numbers(), of the reference -/
theorem t_Mo_numbers (l : Launch) (E : zc_E) (G : zg_G) (rs : List zRt) (a m1 m3 m4 m6 m7 m8 m9 m10 m11 m12 m15 m18 : Nat) (th tn m13 m14 m16 m17 : Int32) (m19 m20 : Value) (ha : G a = some (.inr (11, [.int th, .ref m1, .int tn, .ref m3, .ref m4, .int (nI rs.length), .ref m6, .ref m7, .ref m8, .ref m9, .ref m10, .ref m11, .ref m12, .int m13, .int m14, .ref m15, .int m16, .int m17, .ref m18, m19, m20]))) (hRS : zRS E G m4 rs) (hpos : 0 < rs.length) (x1 x2 : np_N) (hsoa : zSoa (rB (re rs 0)) x1 x2) : zMi l E y_Mo_numbers c_Mo_numbers 2 (some .int) rm_Mo_numbers [.ref a] G (fun (r : Int32) (G2 : zg_G) => r = nI (np_len x1 + np_len x2) ∧ G2 = G) := by
  refine zMi.of (by decide) (Nat.le_of_ble_eq_true rfl) ?_
  intro p e s m args below meth c Q hZ hG hret ls hl
  obtain ⟨hx, hb, hr, hts, hown, hlocks, hml, hnm, hbase, hK, hN, hQ⟩ := hZ
  have hl : lv_has ls 2 [(0, .ref a)] := hl
  have hS : zg_S (zc_b E) s.heap s.heap [] := va_S.rf
  obtain ⟨⟨fr, hm4, hfr⟩, hn2, hRs⟩ := id hRS
  obtain ⟨g1, ⟨nf0, g2, g3, g4, g5⟩, df0, g6, g7, g8⟩ := hRs _ (re_mem hpos)
  have sd1 := hsoa.1.2.1
  have sd2 := hsoa.2.1.2.1
  have sd3 := hsoa.2.2
  have sg1 := hsoa.1.1.2
  have sg2 := hsoa.2.1.1.2
  refine lv_aload_n hx hb d_Mo_numbers_0 rfl (lv_at hl 0 rfl) ?_
  refine zg_get (ci := 11) (C := "ZoneAnswersModel") (T := T_Mo) (N := 21) hx hb hts zi_Mo hown hK hG ha rfl 4 (by decide) (hts _ w_1285) (fun _ h9 => h9) rfl d_Mo_numbers_1 ?_
  refine lv_iconst (v := 0) hx hb d_Mo_numbers_4 (by decide) ?_
  refine zi_as (y := nI 0) (nI_0.symm) ?_
  refine zg_aldq hx hb hK hG 4 hm4 rfl (vp_in_nI (by omega) (by omega)) d_Mo_numbers_5 ?_
  refine zr_as (y := fr 0) (by rw [zi_n _ (by omega)]) ?_
  refine zr_some (a := rA (re rs 0)) (hfr 0 hpos) ?_
  refine zg_get (ci := 12) (C := "ZoneAnswersModel$Rec") (T := T_Re) (N := 5) hx hb hts zi_Re hown hK hG g1 rfl 1 (by decide) (hts _ w_1266) (fun _ h9 => h9) rfl d_Mo_numbers_6 ?_
  refine lv_astore_n (lv' := [(1, .ref (rD (re rs 0))), (0, .ref a)]) hx hb d_Mo_numbers_9 rfl hl (by decide) rfl (fun ls hl => ?_)
  refine lv_aload_n hx hb d_Mo_numbers_10 rfl (lv_at hl 0 rfl) ?_
  refine lv_aload_n hx hb d_Mo_numbers_11 rfl (lv_at hl 0 rfl) ?_
  refine lv_iconst (v := 0) hx hb d_Mo_numbers_12 (by decide) ?_
  refine zi_as (y := nI 0) (nI_0.symm) ?_
  refine lv_aload_n hx hb d_Mo_numbers_13 rfl (lv_at hl 0 rfl) ?_
  refine zg_alen hx hb hK hG 0 g6 rfl (v := nI ((rB (re rs 0)).length)) rfl d_Mo_numbers_14 ?_
  have hGo15 := hG
  refine zk_i (va_runS (As := [.ref (rD (re rs 0)), .int (nI 0), .int (nI ((rB (re rs 0)).length))]) (rest := [.ref (rD (re rs 0))]) ⟨hx, hb, hml, hown, hts⟩ (t_Ns_end l E G (rD (re rs 0)) (rB (re rs 0)).length df0 g6 g8 (by omega) 0 (rB (re rs 0)).length (Nat.le_refl _) (by omega)) (zcS 3 hts w_1366 w_1367 w_33 w_1368 (by decide +kernel) ⟨Nat.le_of_ble_eq_true rfl, Nat.le_of_ble_eq_true rfl⟩) (zc_pre hbase hK hN hQ hG hS) rfl rfl hl.1 rfl (lv_room (Nat.le_of_ble_eq_true rfl)) d_Mo_numbers_15 ⟨(by decide), (by decide)⟩) hS (fun r15 G15 H locs hp15 hG hS => ?_)
  have hG : zP E G H := hp15.2 ▸ hG
  refine zi_as (y := nI (np_len x1)) (by rw [zE_is hp15.1 (hsoa.1.cg (fun j hj => g7 _ (by omega))), Nat.zero_add]) ?_
  refine lv_aload_n hx hb d_Mo_numbers_18 rfl (lv_at hl 0 rfl) ?_
  refine zg_alen hx hb hK hG 0 g6 rfl (v := nI ((rB (re rs 0)).length)) rfl d_Mo_numbers_19 ?_
  have hGo20 := hG
  refine zk_i (va_runS (As := [.ref (rD (re rs 0)), .int (nI (np_len x1)), .int (nI ((rB (re rs 0)).length))]) (rest := []) ⟨hx, hb, hml, hown, hts⟩ (t_Ns_end l E G (rD (re rs 0)) (rB (re rs 0)).length df0 g6 g8 (by omega) (np_len x1) (rB (re rs 0)).length (Nat.le_refl _) (by omega)) (zcS 3 hts w_1366 w_1367 w_33 w_1368 (by decide +kernel) ⟨Nat.le_of_ble_eq_true rfl, Nat.le_of_ble_eq_true rfl⟩) (zc_pre hbase hK hN hQ hG hS) rfl rfl hl.1 rfl (lv_room (Nat.le_of_ble_eq_true rfl)) d_Mo_numbers_20 ⟨(by decide), (by decide)⟩) hS (fun r20 G20 H locs hp20 hG hS => ?_)
  have hG : zP E G H := hp20.2 ▸ hG
  refine zi_as (y := nI (np_len x1 + np_len x2)) (zE_is hp20.1 (hsoa.2.1.cg (fun j hj => g7 _ (by omega)))) ?_
  exact hret _ _ _ _ _ _ _ _ _ hr (rfl) (⟨rfl, rfl⟩) hG hS (Nat.le_refl _) (Nat.le_refl _) d_Mo_numbers_23
abbrev rm_Mo_linkTime : Room := { frames := 3, cells := 0, slots := 0, locals := 90 }
set_option maxHeartbeats 4000000 in
set_option maxRecDepth 100000 in
/-- linkTime(), of the reference -/
theorem t_Mo_linkTime (l : Launch) (E : zc_E) (G : zg_G) (rs : List zRt) (a m1 m3 m4 m6 m7 m8 m9 m10 m11 m12 m15 m18 : Nat) (th tn m13 m14 m16 m17 : Int32) (m19 m20 : Value) (ha : G a = some (.inr (11, [.int th, .ref m1, .int tn, .ref m3, .ref m4, .int (nI rs.length), .ref m6, .ref m7, .ref m8, .ref m9, .ref m10, .ref m11, .ref m12, .int m13, .int m14, .ref m15, .int m16, .int m17, .ref m18, m19, m20]))) (hRS : zRS E G m4 rs) (hpos : 0 < rs.length) (x1 x2 : np_N) (hsoa : zSoa (rB (re rs 0)) x1 x2) : zMi l E y_Mo_linkTime c_Mo_linkTime 1 (some .int) rm_Mo_linkTime [.ref a] G (fun (r : Int32) (G2 : zg_G) => (∃ df, (∀ j, j < (rB (re rs 0)).length → df j = (rB (re rs 0)).getD j 0) ∧ r = (if zl4 df (np_len x1 + np_len x2 + 16) < ((rU (re rs 0)).toInt64 &&& 4294967295) then zl4 df (np_len x1 + np_len x2 + 16) else ((rU (re rs 0)).toInt64 &&& 4294967295)).toInt32) ∧ G2 = G) := by
  refine zMi.of (by decide) (Nat.le_of_ble_eq_true rfl) ?_
  intro p e s m args below meth c Q hZ hG hret ls hl
  obtain ⟨hx, hb, hr, hts, hown, hlocks, hml, hnm, hbase, hK, hN, hQ⟩ := hZ
  have hl : lv_has ls 1 [(0, .ref a)] := hl
  have hS : zg_S (zc_b E) s.heap s.heap [] := va_S.rf
  obtain ⟨⟨fr, hm4, hfr⟩, hn2, hRs⟩ := id hRS
  obtain ⟨g1, ⟨nf0, g2, g3, g4, g5⟩, df0, g6, g7, g8⟩ := hRs _ (re_mem hpos)
  have sd1 := hsoa.1.2.1
  have sd2 := hsoa.2.1.2.1
  have sd3 := hsoa.2.2
  have sg1 := hsoa.1.1.2
  have sg2 := hsoa.2.1.1.2
  refine lv_aload_n hx hb d_Mo_linkTime_0 rfl (lv_at hl 0 rfl) ?_
  refine zg_get (ci := 11) (C := "ZoneAnswersModel") (T := T_Mo) (N := 21) hx hb hts zi_Mo hown hK hG ha rfl 4 (by decide) (hts _ w_1285) (fun _ h9 => h9) rfl d_Mo_linkTime_1 ?_
  refine lv_iconst (v := 0) hx hb d_Mo_linkTime_4 (by decide) ?_
  refine zi_as (y := nI 0) (nI_0.symm) ?_
  refine zg_aldq hx hb hK hG 4 hm4 rfl (vp_in_nI (by omega) (by omega)) d_Mo_linkTime_5 ?_
  refine zr_as (y := fr 0) (by rw [zi_n _ (by omega)]) ?_
  refine zr_some (a := rA (re rs 0)) (hfr 0 hpos) ?_
  refine zg_get (ci := 12) (C := "ZoneAnswersModel$Rec") (T := T_Re) (N := 5) hx hb hts zi_Re hown hK hG g1 rfl 4 (by decide) (hts _ w_1269) (fun _ h9 => h9) rfl d_Mo_linkTime_6 ?_
  refine lv_i2l hx hb d_Mo_linkTime_9 rfl ?_
  refine lv_ldc2 hx hb hown (zN.of hN (w := .constantLong "ZoneAnswersModel" 124 (4294967295 : Int64)) (by decide +kernel)) d_Mo_linkTime_10 ?_
  refine lv_land hx hb d_Mo_linkTime_13 ?_
  refine lv_aload_n hx hb d_Mo_linkTime_14 rfl (lv_at hl 0 rfl) ?_
  refine zg_get (ci := 11) (C := "ZoneAnswersModel") (T := T_Mo) (N := 21) hx hb hts zi_Mo hown hK hG ha rfl 4 (by decide) (hts _ w_1285) (fun _ h9 => h9) rfl d_Mo_linkTime_15 ?_
  refine lv_iconst (v := 0) hx hb d_Mo_linkTime_18 (by decide) ?_
  refine zi_as (y := nI 0) (nI_0.symm) ?_
  refine zg_aldq hx hb hK hG 4 hm4 rfl (vp_in_nI (by omega) (by omega)) d_Mo_linkTime_19 ?_
  refine zr_as (y := fr 0) (by rw [zi_n _ (by omega)]) ?_
  refine zr_some (a := rA (re rs 0)) (hfr 0 hpos) ?_
  refine zg_get (ci := 12) (C := "ZoneAnswersModel$Rec") (T := T_Re) (N := 5) hx hb hts zi_Re hown hK hG g1 rfl 1 (by decide) (hts _ w_1266) (fun _ h9 => h9) rfl d_Mo_linkTime_20 ?_
  refine lv_aload_n hx hb d_Mo_linkTime_23 rfl (lv_at hl 0 rfl) ?_
  refine zk_i (va_runV (As := []) (rest := [.ref (rD (re rs 0)), .long (((rU (re rs 0)).toInt64) &&& 4294967295)]) ⟨hx, hb, hml, hown, hts⟩ (t_Mo_numbers l E G rs a m1 m3 m4 m6 m7 m8 m9 m10 m11 m12 m15 m18 th tn m13 m14 m16 m17 m19 m20 ha hRS hpos x1 x2 hsoa) (zcV 0 hts w_1441 w_1443 wp_35 w_30 w_1444 (by decide +kernel) ⟨Nat.le_of_ble_eq_true rfl, Nat.le_of_ble_eq_true rfl⟩) (zc_preV hbase hK hN hQ hG hS ha rfl) rfl rfl hl.1 rfl (lv_room (Nat.le_of_ble_eq_true rfl)) d_Mo_linkTime_24 ⟨(by decide), (by decide)⟩) hS (fun r24 G24 H locs hp24 hG hS => ?_)
  have hG : zP E G H := hp24.2 ▸ hG
  refine zi_as (y := nI (np_len x1 + np_len x2)) hp24.1 ?_
  refine lv_bipush (v := 16) hx hb d_Mo_linkTime_27 (by decide) ?_
  refine lv_iadd hx hb d_Mo_linkTime_29 ?_
  refine zi_as (y := nI (np_len x1 + np_len x2 + 16)) (nI_add (np_len x1 + np_len x2) 16) ?_
  refine zk_l (va_runS (As := [.ref (rD (re rs 0)), .int (nI (np_len x1 + np_len x2 + 16))]) (rest := [.long (((rU (re rs 0)).toInt64) &&& 4294967295)]) ⟨hx, hb, hml, hown, hts⟩ (t_Mo_four l E G (rD (re rs 0)) (rB (re rs 0)).length df0 g6 g8 (by omega) (np_len x1 + np_len x2 + 16) (by omega)) (zcS 2 hts w_1445 w_1446 w_30 w_1447 (by decide +kernel) ⟨Nat.le_of_ble_eq_true rfl, Nat.le_of_ble_eq_true rfl⟩) (zc_pre hbase hK hN hQ hG hS) rfl rfl hl.1 rfl (lv_room (Nat.le_of_ble_eq_true rfl)) d_Mo_linkTime_30 ⟨(by decide), (by decide)⟩) hS (fun r30 G30 H locs hp30 hG hS => ?_)
  have hG : zP E G H := hp30.2 ▸ hG
  refine zl_as (y := zl4 df0 (np_len x1 + np_len x2 + 16)) hp30.1 ?_
  refine va_mmin_long hx hb (hml.trans hl.1.symm) hown (hts _ w_1529) (hts _ w_1530) (hts _ w_11) (hts _ w_1531) (Nat.le_of_ble_eq_true rfl) (Nat.le_of_ble_eq_true rfl) (by decide) (by decide) d_Mo_linkTime_33 ?_
  refine lv_l2i hx hb d_Mo_linkTime_36 rfl ?_
  exact hret _ _ _ _ _ _ _ _ _ hr (rfl) (⟨⟨df0, g7, rfl⟩, rfl⟩) hG hS (Nat.le_refl _) (Nat.le_refl _) d_Mo_linkTime_37
abbrev rm_Se_clear : Room := { frames := 1, cells := 0, slots := 0, locals := 30 }
set_option maxHeartbeats 4000000 in
set_option maxRecDepth 100000 in
/-- Section.clear() -/
theorem t_Se_clear (l : Launch) (E : zc_E) (G : zg_G) (a la dd : Nat) (xs : List Nat) (ha : G a = some (.inr (6, [.ref la]))) (hL : zL E G la dd xs) : zMv l E y_Se_clear c_Se_clear 1 rm_Se_clear [.ref a] G (fun (G2 : zg_G) => zL E G2 la dd [] ∧ zx (fun q => q = la ∨ q = dd) G G2) := by
  refine zMv.of (by decide) (Nat.le_of_ble_eq_true rfl) ?_
  intro p e s m args below meth c Q hZ hG hret ls hl
  obtain ⟨hx, hb, hr, hts, hown, hlocks, hml, hnm, hbase, hK, hN, hQ⟩ := hZ
  have hl : lv_has ls 1 [(0, .ref a)] := hl
  have hS : zg_S (zc_b E) s.heap s.heap [] := va_S.rf
  refine lv_aload_n hx hb d_Se_clear_0 rfl (lv_at hl 0 rfl) ?_
  refine zg_get (ci := 6) (C := "ZoneAnswers$Section") (T := T_Se) (N := 1) hx hb hts zi_Se hown hK hG ha rfl 0 (by decide) (hts _ w_680) (fun _ h9 => h9) rfl d_Se_clear_1 ?_
  have hGo4 := hG
  refine zk_v (va_runV (As := []) (rest := []) ⟨hx, hb, hml, hown, hts⟩ (t_AL_clear_u l hL) (zcV 0 hts w_1016 w_130 w_131 w_6 w_132 (by decide +kernel) ⟨Nat.le_of_ble_eq_true rfl, Nat.le_of_ble_eq_true rfl⟩) (zc_preV hbase hK hN hQ hG hS hL.1.choose_spec rfl) rfl rfl hl.1 rfl (lv_room (Nat.le_of_ble_eq_true rfl)) d_Se_clear_4 ⟨(by decide), (by decide)⟩) hS (fun G4 H locs hp4 hG hS => ?_)
  exact hret _ _ _ _ _ _ _ (hp4) hG hS (Nat.le_refl _) (Nat.le_refl _) d_Se_clear_7
abbrev rm_Se_add (B : Nat) : Room := { frames := 7, cells := 1, slots := B, locals := 230 }
set_option maxHeartbeats 4000000 in
set_option maxRecDepth 100000 in
/-- Section.add(row) -/
theorem t_Se_add (l : Launch) (E : zc_E) (G : zg_G) (a la dd y : Nat) (xs : List Nat) (ha : G a = some (.inr (6, [.ref la]))) (hL : zL E G la dd xs) (hy : zel G y) (hn : xs.length < 2000) (B : Nat) (hB : 2 * xs.length + 10 ≤ B) (hel : ∀ z ∈ xs, zel G z) : zMv l E y_Se_add c_Se_add 2 (rm_Se_add B) [.ref a, .ref y] G (fun (G2 : zg_G) => ∃ dd2, zL E G2 la dd2 (xs ++ [y]) ∧ (dd2 = dd ∨ G dd2 = none) ∧ zx (fun q => q = la ∨ q = dd) G G2) := by
  refine zMv.of (by decide) (Nat.le_of_ble_eq_true rfl) ?_
  intro p e s m args below meth c Q hZ hG hret ls hl
  obtain ⟨hx, hb, hr, hts, hown, hlocks, hml, hnm, hbase, hK, hN, hQ⟩ := hZ
  have hl : lv_has ls 2 [(0, .ref a), (1, .ref y)] := hl
  have hS : zg_S (zc_b E) s.heap s.heap [] := va_S.rf
  refine lv_aload_n hx hb d_Se_add_0 rfl (lv_at hl 0 rfl) ?_
  refine zg_get (ci := 6) (C := "ZoneAnswers$Section") (T := T_Se) (N := 1) hx hb hts zi_Se hown hK hG ha rfl 0 (by decide) (hts _ w_680) (fun _ h9 => h9) rfl d_Se_add_1 ?_
  refine lv_aload_n hx hb d_Se_add_4 rfl (lv_at hl 1 rfl) ?_
  have hGo5 := hG
  refine zk_i (va_runV (As := [.ref y]) (rest := []) ⟨hx, hb, hml, hown, hts⟩ (t_AL_add_2 l E G la dd xs hL y hy hn B hB hel) (zcV 1 hts w_1067 w_638 w_639 w_6 w_640 (by decide +kernel) ⟨Nat.le_of_ble_eq_true rfl, Nat.le_of_ble_eq_true rfl⟩) (zc_preV hbase hK hN hQ hG hS hL.1.choose_spec rfl) rfl rfl hl.1 rfl (lv_room (Nat.le_of_ble_eq_true rfl)) d_Se_add_5 ⟨(by dsimp only; omega), (by dsimp only; omega)⟩) hS (fun r5 G5 H locs hp5 hG hS => ?_)
  refine lv_pop hx hb d_Se_add_8 rfl ?_
  exact hret _ _ _ _ _ _ _ (hp5.2) hG hS (by dsimp only; omega) (by dsimp only; omega) d_Se_add_9
