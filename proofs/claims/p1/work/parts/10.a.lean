theorem w_52 : (.fieldLink "ZoneAnswers$Tape" 15 "ZoneAnswers$Tape" "length" "I" : Cond) ∈ zw := zw_at 52 (by decide +kernel) (by decide +kernel)
theorem w_80 : (.fieldLink "java/util/ArrayList" 48 "java/util/ArrayList" "size" "I" : Cond) ∈ zw := zw_at 80 (by decide +kernel) (by decide +kernel)
theorem w_777 : (.constant "ZoneAnswers$Tape" 19 (65516 : Int32) : Cond) ∈ zw := zw_at 777 (by decide +kernel) (by decide +kernel)
abbrev c_Ta_length : ByteArray := prog_8_method_2_code
abbrev y_Ta_length : MethodName := ⟨"ZoneAnswers$Tape", "length", "()I"⟩
theorem d_Ta_length_0 : decode c_Ta_length 0 = .ok (.aload_n 0, 1) := by decide +kernel
theorem d_Ta_length_1 : decode c_Ta_length 1 = .ok (.getfield 15, 3) := by decide +kernel
theorem d_Ta_length_4 : decode c_Ta_length 4 = .ok (.ireturn, 1) := by decide +kernel
abbrev c_Ta_cutTo : ByteArray := prog_8_method_5_code
abbrev y_Ta_cutTo : MethodName := ⟨"ZoneAnswers$Tape", "cutTo", "(I)V"⟩
theorem d_Ta_cutTo_0 : decode c_Ta_cutTo 0 = .ok (.aload_n 0, 1) := by decide +kernel
theorem d_Ta_cutTo_1 : decode c_Ta_cutTo 1 = .ok (.iload_n 1, 1) := by decide +kernel
theorem d_Ta_cutTo_2 : decode c_Ta_cutTo 2 = .ok (.putfield 15, 3) := by decide +kernel
theorem d_Ta_cutTo_5 : decode c_Ta_cutTo 5 = .ok (.return_, 1) := by decide +kernel
abbrev c_Ta_hasRoom : ByteArray := prog_8_method_3_code
abbrev y_Ta_hasRoom : MethodName := ⟨"ZoneAnswers$Tape", "hasRoom", "()Z"⟩
theorem d_Ta_hasRoom_0 : decode c_Ta_hasRoom 0 = .ok (.aload_n 0, 1) := by decide +kernel
theorem d_Ta_hasRoom_1 : decode c_Ta_hasRoom 1 = .ok (.getfield 15, 3) := by decide +kernel
theorem d_Ta_hasRoom_4 : decode c_Ta_hasRoom 4 = .ok (.ldc 19, 2) := by decide +kernel
theorem d_Ta_hasRoom_6 : decode c_Ta_hasRoom 6 = .ok (.if_icmp .gt 7, 3) := by decide +kernel
theorem d_Ta_hasRoom_9 : decode c_Ta_hasRoom 9 = .ok (.iconst 1, 1) := by decide +kernel
theorem d_Ta_hasRoom_10 : decode c_Ta_hasRoom 10 = .ok (.goto 4, 3) := by decide +kernel
theorem d_Ta_hasRoom_13 : decode c_Ta_hasRoom 13 = .ok (.iconst 0, 1) := by decide +kernel
theorem d_Ta_hasRoom_14 : decode c_Ta_hasRoom 14 = .ok (.ireturn, 1) := by decide +kernel
abbrev c_AL_size : ByteArray := prog_35_method_8_code
abbrev y_AL_size : MethodName := ⟨"java/util/ArrayList", "size", "()I"⟩
theorem d_AL_size_0 : decode c_AL_size 0 = .ok (.aload_n 0, 1) := by decide +kernel
theorem d_AL_size_1 : decode c_AL_size 1 = .ok (.getfield 48, 3) := by decide +kernel
theorem d_AL_size_4 : decode c_AL_size 4 = .ok (.ireturn, 1) := by decide +kernel
abbrev c_AL_isEmpty : ByteArray := prog_35_method_9_code
abbrev y_AL_isEmpty : MethodName := ⟨"java/util/ArrayList", "isEmpty", "()Z"⟩
theorem d_AL_isEmpty_0 : decode c_AL_isEmpty 0 = .ok (.aload_n 0, 1) := by decide +kernel
theorem d_AL_isEmpty_1 : decode c_AL_isEmpty 1 = .ok (.getfield 48, 3) := by decide +kernel
theorem d_AL_isEmpty_4 : decode c_AL_isEmpty 4 = .ok (.ifCond .ne 7, 3) := by decide +kernel
theorem d_AL_isEmpty_7 : decode c_AL_isEmpty 7 = .ok (.iconst 1, 1) := by decide +kernel
theorem d_AL_isEmpty_8 : decode c_AL_isEmpty 8 = .ok (.goto 4, 3) := by decide +kernel
theorem d_AL_isEmpty_11 : decode c_AL_isEmpty 11 = .ok (.iconst 0, 1) := by decide +kernel
theorem d_AL_isEmpty_12 : decode c_AL_isEmpty 12 = .ok (.ireturn, 1) := by decide +kernel
abbrev rm_Ta_length : Room := { frames := 0, cells := 0, slots := 0, locals := 0 }
set_option maxHeartbeats 4000000 in
set_option maxRecDepth 100000 in
/-- Tape.length() -/
theorem t_Ta_length (l : Launch) (E : zc_E) (G : zg_G) (a b : Nat) (n : Int32) (h : G a = some (.inr (7, [.ref b, .int n]))) : zMi l E y_Ta_length c_Ta_length 1 (some .int) rm_Ta_length [.ref a] G (fun (r : Int32) (G2 : zg_G) => r = n ∧ G2 = G) := by
  refine zMi.of (by decide) (Nat.le_of_ble_eq_true rfl) ?_
  intro p e s m args below meth c Q hZ hG hret ls hl
  obtain ⟨hx, hb, hr, hts, hown, hlocks, hml, hnm, hbase, hK, hN, hQ⟩ := hZ
  have hl : lv_has ls 1 [(0, .ref a)] := hl
  have hS : zg_S (zc_b E) s.heap s.heap [] := va_S.rf
  refine lv_aload_n hx hb d_Ta_length_0 rfl (lv_at hl 0 rfl) ?_
  refine zg_get (ci := 7) (C := "ZoneAnswers$Tape") (T := T_Ta) (N := 2) hx hb hts zi_Ta hown hK hG h rfl 1 (by decide) (hts _ w_52) (fun _ h9 => h9) rfl d_Ta_length_1 ?_
  exact hret _ _ _ _ _ _ _ _ _ hr (rfl) (⟨rfl, rfl⟩) hG hS (Nat.le_refl _) (Nat.le_refl _) d_Ta_length_4
abbrev rm_Ta_cutTo : Room := { frames := 0, cells := 0, slots := 0, locals := 0 }
set_option maxHeartbeats 4000000 in
set_option maxRecDepth 100000 in
/-- Tape.cutTo(k) -/
theorem t_Ta_cutTo (l : Launch) (E : zc_E) (G : zg_G) (a b : Nat) (n : Int32) (h : G a = some (.inr (7, [.ref b, .int n]))) (k : Int32) : zMv l E y_Ta_cutTo c_Ta_cutTo 2 rm_Ta_cutTo [.ref a, .int k] G (fun (G2 : zg_G) => G2 = zg_up G a (.inr (7, [.ref b, .int k]))) := by
  refine zMv.of (by decide) (Nat.le_of_ble_eq_true rfl) ?_
  intro p e s m args below meth c Q hZ hG hret ls hl
  obtain ⟨hx, hb, hr, hts, hown, hlocks, hml, hnm, hbase, hK, hN, hQ⟩ := hZ
  have hl : lv_has ls 2 [(0, .ref a), (1, .int k)] := hl
  have hS : zg_S (zc_b E) s.heap s.heap [] := va_S.rf
  refine lv_aload_n hx hb d_Ta_cutTo_0 rfl (lv_at hl 0 rfl) ?_
  refine lv_iload_n hx hb d_Ta_cutTo_1 rfl (lv_at hl 1 rfl) ?_
  refine zg_put (ci := 7) (v := .int k) (ty := .int) (C := "ZoneAnswers$Tape") (T := T_Ta) (N := 2) hx hb hts zi_Ta t_Ta t_Ta_ok n_Ta hown hK hG hS h rfl 1 (by decide) (hts _ w_52) (fun _ h9 => h9) rfl (by decide +kernel) rfl rfl (Nat.le_of_ble_eq_true rfl) d_Ta_cutTo_2 (fun H locs hG hS => ?_)
  obtain ⟨G1, eG1⟩ : ∃ z : zg_G, z = zg_up G a (.inr (7, [.ref b, .int k])) := ⟨_, rfl⟩
  have hG : zP E G1 H := by rw [eG1]; exact hG
  have k2 : G1 a = some (.inr (7, [.ref b, .int k])) := by rw [eG1]; exact zg_up_self _ _ _
  exact hret _ _ _ _ _ _ _ (eG1) hG hS (Nat.le_refl _) (Nat.le_refl _) d_Ta_cutTo_5
abbrev rm_Ta_hasRoom : Room := { frames := 0, cells := 0, slots := 0, locals := 0 }
set_option maxHeartbeats 4000000 in
set_option maxRecDepth 100000 in
/-- Tape.hasRoom() -/
theorem t_Ta_hasRoom (l : Launch) (E : zc_E) (G : zg_G) (a b : Nat) (n : Int32) (h : G a = some (.inr (7, [.ref b, .int n]))) : zMi l E y_Ta_hasRoom c_Ta_hasRoom 1 (some .boolean) rm_Ta_hasRoom [.ref a] G (fun (r : Int32) (G2 : zg_G) => r = (if 65516 < n then 0 else 1) ∧ G2 = G) := by
  refine zMi.of (by decide) (Nat.le_of_ble_eq_true rfl) ?_
  intro p e s m args below meth c Q hZ hG hret ls hl
  obtain ⟨hx, hb, hr, hts, hown, hlocks, hml, hnm, hbase, hK, hN, hQ⟩ := hZ
  have hl : lv_has ls 1 [(0, .ref a)] := hl
  have hS : zg_S (zc_b E) s.heap s.heap [] := va_S.rf
  refine lv_aload_n hx hb d_Ta_hasRoom_0 rfl (lv_at hl 0 rfl) ?_
  refine zg_get (ci := 7) (C := "ZoneAnswers$Tape") (T := T_Ta) (N := 2) hx hb hts zi_Ta hown hK hG h rfl 1 (by decide) (hts _ w_52) (fun _ h9 => h9) rfl d_Ta_hasRoom_1 ?_
  refine lv_ldc hx hb hown (hts _ w_777) d_Ta_hasRoom_4 ?_
  refine lv_icmp_gt (tgt := 13) hx hb d_Ta_hasRoom_6 (by decide) (fun c6 => ?_) (fun c6 => ?_)
  · refine lv_iconst (v := 0) hx hb d_Ta_hasRoom_13 (by decide) ?_
    exact hret _ _ _ _ _ _ _ _ _ hr rfl (by simp [c6]) hG hS (Nat.le_refl _) (Nat.le_refl _) d_Ta_hasRoom_14
  · refine lv_iconst (v := 1) hx hb d_Ta_hasRoom_9 (by decide) ?_
    refine lv_goto (tgt := 14) hx hb d_Ta_hasRoom_10 (by decide) ?_
    exact hret _ _ _ _ _ _ _ _ _ hr rfl (by simp [c6]) hG hS (Nat.le_refl _) (Nat.le_refl _) d_Ta_hasRoom_14
abbrev rm_AL_size : Room := { frames := 0, cells := 0, slots := 0, locals := 0 }
set_option maxHeartbeats 4000000 in
set_option maxRecDepth 100000 in
/-- ArrayList.size() -/
theorem t_AL_size (l : Launch) (E : zc_E) (G : zg_G) (a : Nat) (d : Value) (n k : Int32) (h : G a = some (.inr (0, [d, .int n, .int k]))) : zMi l E y_AL_size c_AL_size 1 (some .int) rm_AL_size [.ref a] G (fun (r : Int32) (G2 : zg_G) => r = n ∧ G2 = G) := by
  refine zMi.of (by decide) (Nat.le_of_ble_eq_true rfl) ?_
  intro p e s m args below meth c Q hZ hG hret ls hl
  obtain ⟨hx, hb, hr, hts, hown, hlocks, hml, hnm, hbase, hK, hN, hQ⟩ := hZ
  have hl : lv_has ls 1 [(0, .ref a)] := hl
  have hS : zg_S (zc_b E) s.heap s.heap [] := va_S.rf
  refine lv_aload_n hx hb d_AL_size_0 rfl (lv_at hl 0 rfl) ?_
  refine zg_get (ci := 0) (C := "java/util/ArrayList") (T := T_AL) (N := 3) hx hb hts zi_AL hown hK hG h rfl 1 (by decide) (hts _ w_80) (fun _ h9 => h9) rfl d_AL_size_1 ?_
  exact hret _ _ _ _ _ _ _ _ _ hr (rfl) (⟨rfl, rfl⟩) hG hS (Nat.le_refl _) (Nat.le_refl _) d_AL_size_4
abbrev rm_AL_isEmpty : Room := { frames := 0, cells := 0, slots := 0, locals := 0 }
set_option maxHeartbeats 4000000 in
set_option maxRecDepth 100000 in
/-- ArrayList.isEmpty() -/
theorem t_AL_isEmpty (l : Launch) (E : zc_E) (G : zg_G) (a : Nat) (d : Value) (n k : Int32) (h : G a = some (.inr (0, [d, .int n, .int k]))) : zMi l E y_AL_isEmpty c_AL_isEmpty 1 (some .boolean) rm_AL_isEmpty [.ref a] G (fun (r : Int32) (G2 : zg_G) => r = (if n = 0 then 1 else 0) ∧ G2 = G) := by
  refine zMi.of (by decide) (Nat.le_of_ble_eq_true rfl) ?_
  intro p e s m args below meth c Q hZ hG hret ls hl
  obtain ⟨hx, hb, hr, hts, hown, hlocks, hml, hnm, hbase, hK, hN, hQ⟩ := hZ
  have hl : lv_has ls 1 [(0, .ref a)] := hl
  have hS : zg_S (zc_b E) s.heap s.heap [] := va_S.rf
  refine lv_aload_n hx hb d_AL_isEmpty_0 rfl (lv_at hl 0 rfl) ?_
  refine zg_get (ci := 0) (C := "java/util/ArrayList") (T := T_AL) (N := 3) hx hb hts zi_AL hown hK hG h rfl 1 (by decide) (hts _ w_80) (fun _ h9 => h9) rfl d_AL_isEmpty_1 ?_
  refine lv_if_ne (tgt := 11) hx hb d_AL_isEmpty_4 (by decide) (fun c4 => ?_) (fun c4 => ?_)
  · refine lv_iconst (v := 0) hx hb d_AL_isEmpty_11 (by decide) ?_
    exact hret _ _ _ _ _ _ _ _ _ hr rfl (by simp [c4]) hG hS (Nat.le_refl _) (Nat.le_refl _) d_AL_isEmpty_12
  · refine lv_iconst (v := 1) hx hb d_AL_isEmpty_7 (by decide) ?_
    refine lv_goto (tgt := 12) hx hb d_AL_isEmpty_8 (by decide) ?_
    exact hret _ _ _ _ _ _ _ _ _ hr rfl (by simp [c4]) hG hS (Nat.le_refl _) (Nat.le_refl _) d_AL_isEmpty_12
