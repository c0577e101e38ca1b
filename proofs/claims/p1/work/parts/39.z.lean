abbrev c_Ow_isCut : ByteArray := prog_5_method_2_code
abbrev y_Ow_isCut : MethodName := ⟨"ZoneAnswers$Owner", "isCut", "()Z"⟩
theorem d_Ow_isCut_0 : decode c_Ow_isCut 0 = .ok (.aload_n 0, 1) := by decide +kernel
theorem d_Ow_isCut_1 : decode c_Ow_isCut 1 = .ok (.getfield 22, 3) := by decide +kernel
theorem d_Ow_isCut_4 : decode c_Ow_isCut 4 = .ok (.aload_n 0, 1) := by decide +kernel
theorem d_Ow_isCut_5 : decode c_Ow_isCut 5 = .ok (.if_acmp .ne 7, 3) := by decide +kernel
theorem d_Ow_isCut_8 : decode c_Ow_isCut 8 = .ok (.iconst 1, 1) := by decide +kernel
theorem d_Ow_isCut_9 : decode c_Ow_isCut 9 = .ok (.goto 4, 3) := by decide +kernel
theorem d_Ow_isCut_12 : decode c_Ow_isCut 12 = .ok (.iconst 0, 1) := by decide +kernel
theorem d_Ow_isCut_13 : decode c_Ow_isCut 13 = .ok (.ireturn, 1) := by decide +kernel
abbrev c_Ow_isGivenAway : ByteArray := prog_5_method_3_code
abbrev y_Ow_isGivenAway : MethodName := ⟨"ZoneAnswers$Owner", "isGivenAway", "()Z"⟩
theorem d_Ow_isGivenAway_0 : decode c_Ow_isGivenAway 0 = .ok (.aload_n 0, 1) := by decide +kernel
theorem d_Ow_isGivenAway_1 : decode c_Ow_isGivenAway 1 = .ok (.getfield 22, 3) := by decide +kernel
theorem d_Ow_isGivenAway_4 : decode c_Ow_isGivenAway 4 = .ok (.ifnull 15, 3) := by decide +kernel
theorem d_Ow_isGivenAway_7 : decode c_Ow_isGivenAway 7 = .ok (.aload_n 0, 1) := by decide +kernel
theorem d_Ow_isGivenAway_8 : decode c_Ow_isGivenAway 8 = .ok (.getfield 22, 3) := by decide +kernel
theorem d_Ow_isGivenAway_11 : decode c_Ow_isGivenAway 11 = .ok (.aload_n 0, 1) := by decide +kernel
theorem d_Ow_isGivenAway_12 : decode c_Ow_isGivenAway 12 = .ok (.if_acmp .eq 7, 3) := by decide +kernel
theorem d_Ow_isGivenAway_15 : decode c_Ow_isGivenAway 15 = .ok (.iconst 1, 1) := by decide +kernel
theorem d_Ow_isGivenAway_16 : decode c_Ow_isGivenAway 16 = .ok (.goto 4, 3) := by decide +kernel
theorem d_Ow_isGivenAway_19 : decode c_Ow_isGivenAway 19 = .ok (.iconst 0, 1) := by decide +kernel
theorem d_Ow_isGivenAway_20 : decode c_Ow_isGivenAway 20 = .ok (.ireturn, 1) := by decide +kernel
abbrev c_Zo_isFull : ByteArray := prog_10_method_5_code
abbrev y_Zo_isFull : MethodName := ⟨"ZoneAnswers$Zone", "isFull", "()Z"⟩
theorem d_Zo_isFull_0 : decode c_Zo_isFull 0 = .ok (.aload_n 0, 1) := by decide +kernel
theorem d_Zo_isFull_1 : decode c_Zo_isFull 1 = .ok (.getfield 21, 3) := by decide +kernel
theorem d_Zo_isFull_4 : decode c_Zo_isFull 4 = .ok (.sipush 2000, 3) := by decide +kernel
theorem d_Zo_isFull_7 : decode c_Zo_isFull 7 = .ok (.if_icmp .lt 7, 3) := by decide +kernel
theorem d_Zo_isFull_10 : decode c_Zo_isFull 10 = .ok (.iconst 1, 1) := by decide +kernel
theorem d_Zo_isFull_11 : decode c_Zo_isFull 11 = .ok (.goto 4, 3) := by decide +kernel
theorem d_Zo_isFull_14 : decode c_Zo_isFull 14 = .ok (.iconst 0, 1) := by decide +kernel
theorem d_Zo_isFull_15 : decode c_Zo_isFull 15 = .ok (.ireturn, 1) := by decide +kernel
abbrev rm_Ow_isCut : Room := { frames := 0, cells := 0, slots := 0, locals := 0 }
set_option maxHeartbeats 4000000 in
set_option maxRecDepth 100000 in
/-- Owner.isCut() -/
theorem t_Ow_isCut (l : Launch) (E : zc_E) (G : zg_G) (a na se : Nat) (cu : Option Nat) (ha : G a = some (.inr (4, [.ref na, .ref se, va_rf cu]))) : zMi l E y_Ow_isCut c_Ow_isCut 1 (some .boolean) rm_Ow_isCut [.ref a] G (fun (r : Int32) (G2 : zg_G) => zb r (cu = some a) ∧ G2 = G) := by
  refine zMi.of (by decide) (Nat.le_of_ble_eq_true rfl) ?_
  intro p e s m args below meth c Q hZ hG hret ls hl
  obtain ⟨hx, hb, hr, hts, hown, hlocks, hml, hnm, hbase, hK, hN, hQ⟩ := hZ
  have hl : lv_has ls 1 [(0, .ref a)] := hl
  have hS : zg_S (zc_b E) s.heap s.heap [] := va_S.rf
  refine lv_aload_n hx hb d_Ow_isCut_0 rfl (lv_at hl 0 rfl) ?_
  refine zg_get (ci := 4) (C := "ZoneAnswers$Owner") (T := T_Ow) (N := 3) hx hb hts zi_Ow hown hK hG ha rfl 2 (by decide) (hts _ w_210) (fun _ h9 => h9) rfl d_Ow_isCut_1 ?_
  refine lv_aload_n hx hb d_Ow_isCut_4 rfl (lv_at hl 0 rfl) ?_
  refine lv_acmp_ne (rx := cu) (ry := (some a)) (tgt := 12) hx hb d_Ow_isCut_5 (by decide) (fun c5 => ?_) (fun c5 => ?_)
  · refine lv_iconst (v := 0) hx hb d_Ow_isCut_12 (by decide) ?_
    exact hret _ _ _ _ _ _ _ _ _ hr (rfl) (⟨by first | exact zb.t c5 | exact zb.f c5, rfl⟩) hG hS (Nat.le_refl _) (Nat.le_refl _) d_Ow_isCut_13
  · refine lv_iconst (v := 1) hx hb d_Ow_isCut_8 (by decide) ?_
    refine lv_goto (tgt := 13) hx hb d_Ow_isCut_9 (by decide) ?_
    exact hret _ _ _ _ _ _ _ _ _ hr (rfl) (⟨by first | exact zb.t c5 | exact zb.f c5, rfl⟩) hG hS (Nat.le_refl _) (Nat.le_refl _) d_Ow_isCut_13
abbrev rm_Ow_isGivenAway : Room := { frames := 0, cells := 0, slots := 0, locals := 0 }
set_option maxHeartbeats 4000000 in
set_option maxRecDepth 100000 in
/-- Owner.isGivenAway(), of one below no cut -/
theorem t_Ow_isGivenAway_n (l : Launch) (E : zc_E) (G : zg_G) (a na se : Nat) (ha : G a = some (.inr (4, [.ref na, .ref se, .null]))) : zMi l E y_Ow_isGivenAway c_Ow_isGivenAway 1 (some .boolean) rm_Ow_isGivenAway [.ref a] G (fun (r : Int32) (G2 : zg_G) => r = 0 ∧ G2 = G) := by
  refine zMi.of (by decide) (Nat.le_of_ble_eq_true rfl) ?_
  intro p e s m args below meth c Q hZ hG hret ls hl
  obtain ⟨hx, hb, hr, hts, hown, hlocks, hml, hnm, hbase, hK, hN, hQ⟩ := hZ
  have hl : lv_has ls 1 [(0, .ref a)] := hl
  have hS : zg_S (zc_b E) s.heap s.heap [] := va_S.rf
  refine lv_aload_n hx hb d_Ow_isGivenAway_0 rfl (lv_at hl 0 rfl) ?_
  refine zg_get (ci := 4) (C := "ZoneAnswers$Owner") (T := T_Ow) (N := 3) hx hb hts zi_Ow hown hK hG ha rfl 2 (by decide) (hts _ w_210) (fun _ h9 => h9) rfl d_Ow_isGivenAway_1 ?_
  refine lv_ifnullN (tgt := 19) hx hb d_Ow_isGivenAway_4 (by decide) ?_
  refine lv_iconst (v := 0) hx hb d_Ow_isGivenAway_19 (by decide) ?_
  exact hret _ _ _ _ _ _ _ _ _ hr (rfl) (⟨rfl, rfl⟩) hG hS (Nat.le_refl _) (Nat.le_refl _) d_Ow_isGivenAway_20
set_option maxHeartbeats 4000000 in
set_option maxRecDepth 100000 in
/-- Owner.isGivenAway(), of one at or below a cut -/
theorem t_Ow_isGivenAway_s (l : Launch) (E : zc_E) (G : zg_G) (a na se cu : Nat) (ha : G a = some (.inr (4, [.ref na, .ref se, .ref cu]))) : zMi l E y_Ow_isGivenAway c_Ow_isGivenAway 1 (some .boolean) rm_Ow_isGivenAway [.ref a] G (fun (r : Int32) (G2 : zg_G) => zb r (¬ cu = a) ∧ G2 = G) := by
  refine zMi.of (by decide) (Nat.le_of_ble_eq_true rfl) ?_
  intro p e s m args below meth c Q hZ hG hret ls hl
  obtain ⟨hx, hb, hr, hts, hown, hlocks, hml, hnm, hbase, hK, hN, hQ⟩ := hZ
  have hl : lv_has ls 1 [(0, .ref a)] := hl
  have hS : zg_S (zc_b E) s.heap s.heap [] := va_S.rf
  refine lv_aload_n hx hb d_Ow_isGivenAway_0 rfl (lv_at hl 0 rfl) ?_
  refine zg_get (ci := 4) (C := "ZoneAnswers$Owner") (T := T_Ow) (N := 3) hx hb hts zi_Ow hown hK hG ha rfl 2 (by decide) (hts _ w_210) (fun _ h9 => h9) rfl d_Ow_isGivenAway_1 ?_
  refine lv_ifnull hx hb d_Ow_isGivenAway_4 ?_
  refine lv_aload_n hx hb d_Ow_isGivenAway_7 rfl (lv_at hl 0 rfl) ?_
  refine zg_get (ci := 4) (C := "ZoneAnswers$Owner") (T := T_Ow) (N := 3) hx hb hts zi_Ow hown hK hG ha rfl 2 (by decide) (hts _ w_210) (fun _ h9 => h9) rfl d_Ow_isGivenAway_8 ?_
  refine lv_aload_n hx hb d_Ow_isGivenAway_11 rfl (lv_at hl 0 rfl) ?_
  refine lv_acmp_eq (rx := (some cu)) (ry := (some a)) (tgt := 19) hx hb d_Ow_isGivenAway_12 (by decide) (fun c12 => ?_) (fun c12 => ?_)
  · refine lv_iconst (v := 0) hx hb d_Ow_isGivenAway_19 (by decide) ?_
    exact hret _ _ _ _ _ _ _ _ _ hr (rfl) (⟨by first | exact zb.t (fun q => c12 (congrArg some q)) | exact zb.f (fun q => q (Option.some.inj c12)), rfl⟩) hG hS (Nat.le_refl _) (Nat.le_refl _) d_Ow_isGivenAway_20
  · refine lv_iconst (v := 1) hx hb d_Ow_isGivenAway_15 (by decide) ?_
    refine lv_goto (tgt := 20) hx hb d_Ow_isGivenAway_16 (by decide) ?_
    exact hret _ _ _ _ _ _ _ _ _ hr (rfl) (⟨by first | exact zb.t (fun q => c12 (congrArg some q)) | exact zb.f (fun q => q (Option.some.inj c12)), rfl⟩) hG hS (Nat.le_refl _) (Nat.le_refl _) d_Ow_isGivenAway_20
abbrev rm_Zo_isFull : Room := { frames := 0, cells := 0, slots := 0, locals := 0 }
set_option maxHeartbeats 4000000 in
set_option maxRecDepth 100000 in
/-- Zone.isFull() -/
theorem t_Zo_isFull (l : Launch) (E : zc_E) (G : zg_G) (a la tn st sd : Nat) (rc : Int32) (ha : G a = some (.inr (9, [.ref la, .ref tn, .ref st, .ref sd, .int rc]))) : zMi l E y_Zo_isFull c_Zo_isFull 1 (some .boolean) rm_Zo_isFull [.ref a] G (fun (r : Int32) (G2 : zg_G) => zb r (¬ rc < 2000) ∧ G2 = G) := by
  refine zMi.of (by decide) (Nat.le_of_ble_eq_true rfl) ?_
  intro p e s m args below meth c Q hZ hG hret ls hl
  obtain ⟨hx, hb, hr, hts, hown, hlocks, hml, hnm, hbase, hK, hN, hQ⟩ := hZ
  have hl : lv_has ls 1 [(0, .ref a)] := hl
  have hS : zg_S (zc_b E) s.heap s.heap [] := va_S.rf
  refine lv_aload_n hx hb d_Zo_isFull_0 rfl (lv_at hl 0 rfl) ?_
  refine zg_get (ci := 9) (C := "ZoneAnswers$Zone") (T := T_Zo) (N := 5) hx hb hts zi_Zo hown hK hG ha rfl 4 (by decide) (hts _ w_95) (fun _ h9 => h9) rfl d_Zo_isFull_1 ?_
  refine lv_sipush (v := 2000) hx hb d_Zo_isFull_4 (by decide) ?_
  refine lv_icmp_lt (tgt := 14) hx hb d_Zo_isFull_7 (by decide) (fun c7 => ?_) (fun c7 => ?_)
  · refine lv_iconst (v := 0) hx hb d_Zo_isFull_14 (by decide) ?_
    exact hret _ _ _ _ _ _ _ _ _ hr (rfl) (⟨by first | exact zb.t c7 | exact zb.f (fun q => q c7), rfl⟩) hG hS (Nat.le_refl _) (Nat.le_refl _) d_Zo_isFull_15
  · refine lv_iconst (v := 1) hx hb d_Zo_isFull_10 (by decide) ?_
    refine lv_goto (tgt := 15) hx hb d_Zo_isFull_11 (by decide) ?_
    exact hret _ _ _ _ _ _ _ _ _ hr (rfl) (⟨by first | exact zb.t c7 | exact zb.f (fun q => q c7), rfl⟩) hG hS (Nat.le_refl _) (Nat.le_refl _) d_Zo_isFull_15
