theorem zK30_z (k : Nat × Nat) (h : zKz k) : ¬ k = (30, 0) := by
  intro w
  rw [w] at h
  rcases h with h | h | h
  · have := h.2; simp at this
  · simp at h
  · simp at h
theorem zlk_len (o : zOt) : (zlk o).length = (zfl o 1 45 (oX o)).length + 2 + (zfl o 48 65535 (oX o)).length := by
  unfold zlk
  rw [List.length_append, List.length_append]; rfl
theorem zlk_le (o : zOt) : (zlk o).length ≤ (oX o).length + 2 := by
  have := zfl_2 (o := o) (xs := oX o)
  rw [zlk_len]; omega
theorem w_1105 : (.methodLink "ZoneAnswers$Owner" 50 ⟨"ZoneAnswers$Owner", "addTypes", "([IIII)I"⟩ : Cond) ∈ zw := zw_at 1105 (by decide +kernel) (by decide +kernel)
theorem w_1107 : (.instanceMethod ⟨"ZoneAnswers$Owner", "addTypes", "([IIII)I"⟩ : Cond) ∈ zw := zw_at 1107 (by decide +kernel) (by decide +kernel)
theorem w_1108 : (.code ⟨"ZoneAnswers$Owner", "addTypes", "([IIII)I"⟩ prog_5_method_8_code 9 (some .int) : Cond) ∈ zw := zw_at 1108 (by decide +kernel) (by decide +kernel)
theorem w_1113 : (.constant "ZoneAnswers$Owner" 54 (65535 : Int32) : Cond) ∈ zw := zw_at 1113 (by decide +kernel) (by decide +kernel)
theorem w_1114 : (.methodLink "ZoneAnswers$Owner" 55 ⟨"java/util/Arrays", "copyOf", "([II)[I"⟩ : Cond) ∈ zw := zw_at 1114 (by decide +kernel) (by decide +kernel)
theorem w_1115 : (.static ⟨"java/util/Arrays", "copyOf", "([II)[I"⟩ : Cond) ∈ zw := zw_at 1115 (by decide +kernel) (by decide +kernel)
theorem w_1116 : (.code ⟨"java/util/Arrays", "copyOf", "([II)[I"⟩ prog_36_method_123_code 3 (some (.array .int)) : Cond) ∈ zw := zw_at 1116 (by decide +kernel) (by decide +kernel)
theorem wp_18 : (.selects "ZoneAnswers$Owner" ⟨"ZoneAnswers$Owner", "addTypes", "([IIII)I"⟩ ⟨"ZoneAnswers$Owner", "addTypes", "([IIII)I"⟩ : Cond) ∈ zw := zw_pv 18 (y := ⟨"ZoneAnswers$Owner", "addTypes", "([IIII)I"⟩) rfl (by decide +kernel)
abbrev c_Ow_linkTypes : ByteArray := prog_5_method_7_code
abbrev y_Ow_linkTypes : MethodName := ⟨"ZoneAnswers$Owner", "linkTypes", "()[I"⟩
theorem d_Ow_linkTypes_0 : decode c_Ow_linkTypes 0 = .ok (.aload_n 0, 1) := by decide +kernel
theorem d_Ow_linkTypes_1 : decode c_Ow_linkTypes 1 = .ok (.getfield 18, 3) := by decide +kernel
theorem d_Ow_linkTypes_4 : decode c_Ow_linkTypes 4 = .ok (.invokevirtual 26, 3) := by decide +kernel
theorem d_Ow_linkTypes_7 : decode c_Ow_linkTypes 7 = .ok (.iconst 2, 1) := by decide +kernel
theorem d_Ow_linkTypes_8 : decode c_Ow_linkTypes 8 = .ok (.iadd, 1) := by decide +kernel
theorem d_Ow_linkTypes_9 : decode c_Ow_linkTypes 9 = .ok (.newarray .int, 2) := by decide +kernel
theorem d_Ow_linkTypes_11 : decode c_Ow_linkTypes 11 = .ok (.astore_n 1, 1) := by decide +kernel
theorem d_Ow_linkTypes_12 : decode c_Ow_linkTypes 12 = .ok (.aload_n 0, 1) := by decide +kernel
theorem d_Ow_linkTypes_13 : decode c_Ow_linkTypes 13 = .ok (.aload_n 1, 1) := by decide +kernel
theorem d_Ow_linkTypes_14 : decode c_Ow_linkTypes 14 = .ok (.iconst 0, 1) := by decide +kernel
theorem d_Ow_linkTypes_15 : decode c_Ow_linkTypes 15 = .ok (.iconst 1, 1) := by decide +kernel
theorem d_Ow_linkTypes_16 : decode c_Ow_linkTypes 16 = .ok (.bipush 45, 2) := by decide +kernel
theorem d_Ow_linkTypes_18 : decode c_Ow_linkTypes 18 = .ok (.invokevirtual 50, 3) := by decide +kernel
theorem d_Ow_linkTypes_21 : decode c_Ow_linkTypes 21 = .ok (.istore_n 2, 1) := by decide +kernel
theorem d_Ow_linkTypes_22 : decode c_Ow_linkTypes 22 = .ok (.aload_n 1, 1) := by decide +kernel
theorem d_Ow_linkTypes_23 : decode c_Ow_linkTypes 23 = .ok (.iload_n 2, 1) := by decide +kernel
theorem d_Ow_linkTypes_24 : decode c_Ow_linkTypes 24 = .ok (.bipush 46, 2) := by decide +kernel
theorem d_Ow_linkTypes_26 : decode c_Ow_linkTypes 26 = .ok (.iastore, 1) := by decide +kernel
theorem d_Ow_linkTypes_27 : decode c_Ow_linkTypes 27 = .ok (.aload_n 1, 1) := by decide +kernel
theorem d_Ow_linkTypes_28 : decode c_Ow_linkTypes 28 = .ok (.iload_n 2, 1) := by decide +kernel
theorem d_Ow_linkTypes_29 : decode c_Ow_linkTypes 29 = .ok (.iconst 1, 1) := by decide +kernel
theorem d_Ow_linkTypes_30 : decode c_Ow_linkTypes 30 = .ok (.iadd, 1) := by decide +kernel
theorem d_Ow_linkTypes_31 : decode c_Ow_linkTypes 31 = .ok (.bipush 47, 2) := by decide +kernel
theorem d_Ow_linkTypes_33 : decode c_Ow_linkTypes 33 = .ok (.iastore, 1) := by decide +kernel
theorem d_Ow_linkTypes_34 : decode c_Ow_linkTypes 34 = .ok (.aload_n 0, 1) := by decide +kernel
theorem d_Ow_linkTypes_35 : decode c_Ow_linkTypes 35 = .ok (.aload_n 1, 1) := by decide +kernel
theorem d_Ow_linkTypes_36 : decode c_Ow_linkTypes 36 = .ok (.iload_n 2, 1) := by decide +kernel
theorem d_Ow_linkTypes_37 : decode c_Ow_linkTypes 37 = .ok (.iconst 2, 1) := by decide +kernel
theorem d_Ow_linkTypes_38 : decode c_Ow_linkTypes 38 = .ok (.iadd, 1) := by decide +kernel
theorem d_Ow_linkTypes_39 : decode c_Ow_linkTypes 39 = .ok (.bipush 48, 2) := by decide +kernel
theorem d_Ow_linkTypes_41 : decode c_Ow_linkTypes 41 = .ok (.ldc 54, 2) := by decide +kernel
theorem d_Ow_linkTypes_43 : decode c_Ow_linkTypes 43 = .ok (.invokevirtual 50, 3) := by decide +kernel
theorem d_Ow_linkTypes_46 : decode c_Ow_linkTypes 46 = .ok (.istore_n 2, 1) := by decide +kernel
theorem d_Ow_linkTypes_47 : decode c_Ow_linkTypes 47 = .ok (.aload_n 1, 1) := by decide +kernel
theorem d_Ow_linkTypes_48 : decode c_Ow_linkTypes 48 = .ok (.iload_n 2, 1) := by decide +kernel
theorem d_Ow_linkTypes_49 : decode c_Ow_linkTypes 49 = .ok (.invokestatic 55, 3) := by decide +kernel
theorem d_Ow_linkTypes_52 : decode c_Ow_linkTypes 52 = .ok (.areturn, 1) := by decide +kernel
abbrev rm_Ow_linkTypes (n0 : Nat) : Room := { frames := 4, cells := 2, slots := 2 * (n0 + 2), locals := 120 }
set_option maxHeartbeats 4000000 in
set_option maxRecDepth 100000 in
/-- Owner.linkTypes() -/
theorem t_Ow_linkTypes (l : Launch) (E : zc_E) (G : zg_G) (ro : zRo) (o : zOt) (hO : zOR E G ro o) (hol : (oX o).length < 2000) : zMq l E y_Ow_linkTypes c_Ow_linkTypes 3 (some (.array .int)) (rm_Ow_linkTypes (oX o).length) [.ref (oA o)] G (fun (r : Option Nat) (G2 : zg_G) => ∃ q f2, r = some q ∧ G q = none ∧ zx z0 G G2 ∧ G2 q = some (.inl (E.2.1 1, (zlk o).length, .inl f2)) ∧ ∀ j, j < (zlk o).length → f2 j = (zlk o).getD j 0) := by
  refine zMq.of (by decide) (Nat.le_of_ble_eq_true rfl) ?_
  intro p e s m args below meth c Q hZ hG hret ls hl
  obtain ⟨hx, hb, hr, hts, hown, hlocks, hml, hnm, hbase, hK, hN, hQ⟩ := hZ
  have hl : lv_has ls 3 [(0, .ref (oA o))] := hl
  have hS : zg_S (zc_b E) s.heap s.heap [] := va_S.rf
  obtain ⟨⟨⟨kl0, hal0⟩, -⟩, -⟩ := id hO.2.2.2.1
  rw [List.length_map] at hal0
  have hE00 : G (E.2.2.2 0) = none := hQ.out hG
  have hkl := zlk_le o
  have hx0 : zx z0 G G := zx.rf
  refine lv_aload_n hx hb d_Ow_linkTypes_0 rfl (lv_at hl 0 rfl) ?_
  refine zg_get (ci := 4) (C := "ZoneAnswers$Owner") (T := T_Ow) (N := 3) hx hb hts zi_Ow hown hK hG hO.1 rfl 1 (by decide) (hts _ w_207) (fun _ h9 => h9) rfl d_Ow_linkTypes_1 ?_
  refine zk_i (va_runV (As := []) (rest := []) ⟨hx, hb, hml, hown, hts⟩ (t_AL_size l E G (oL o) (.ref (oD o)) (nI ((oX o).length)) kl0 hal0) (zcV 0 hts w_606 w_160 w_161 w_6 w_162 (by decide +kernel) ⟨Nat.le_of_ble_eq_true rfl, Nat.le_of_ble_eq_true rfl⟩) (zc_preV hbase hK hN hQ hG hS hal0 rfl) rfl rfl hl.1 rfl (lv_room (Nat.le_of_ble_eq_true rfl)) d_Ow_linkTypes_4 ⟨(by dsimp only; omega), (by dsimp only; omega)⟩) hS (fun r4 G4 H locs hp4 hG hS => ?_)
  have hG : zP E G H := hp4.2 ▸ hG
  refine zi_as (y := nI ((oX o).length)) hp4.1 ?_
  refine lv_iconst (v := 2) hx hb d_Ow_linkTypes_7 (by decide) ?_
  refine lv_iadd hx hb d_Ow_linkTypes_8 ?_
  refine zi_as (y := nI ((oX o).length + 2)) (nI_add ((oX o).length) 2) ?_
  refine zg_newp (atype := .int) (ty := .int) (N' := (oX o).length + 2) (a0 := ((oX o).length + 2, .inl (fun _ => 0))) hx hb (hts _ w_1196) rfl hK hG hS hbase (fun _ => rfl) (nI_pos (by omega)) (zi_n _ (by omega)) (by show _ * _ ≤ _; simp only [componentBytes]; omega) (by dsimp only; omega) (by dsimp only; omega) d_Ow_linkTypes_9 1 rfl (fun _ h => h) (fun q9 H n9 hG hS => ?_)
  obtain ⟨G1, eG1⟩ : ∃ z : zg_G, z = zg_up G q9 (.inl (E.2.1 1, (oX o).length + 2, .inl (fun _ => 0))) := ⟨_, rfl⟩
  have hG : zP E G1 H := by rw [eG1]; exact hG
  have hx2 : zx z0 G G1 := hx0.tr (by rw [eG1]; exact zx.nw n9)
  have ne9_oA_o : oA o ≠ q9 := zg_fr n9 hO.1
  have k3 : G1 (oA o) = some (.inr (4, [.ref (oN o), .ref (oL o), va_rf (oC o)])) := by rw [eG1, zg_up_ne (zg_fr n9 hO.1)]; exact hO.1
  have ne9_oL_o : oL o ≠ q9 := zg_fr n9 hal0
  have k4 : G1 (oL o) = some (.inr (0, [.ref (oD o), .int (nI ((oX o).length)), .int kl0])) := by rw [eG1, zg_up_ne (zg_fr n9 hal0)]; exact hal0
  have k5 : G1 q9 = some (.inl (E.2.1 1, (oX o).length + 2, .inl (fun _ => 0))) := by rw [eG1]; exact zg_up_self _ _ _
  refine lv_astore_n (lv' := [(1, .ref q9), (0, .ref (oA o))]) hx hb d_Ow_linkTypes_11 rfl hl (by decide) rfl (fun ls hl => ?_)
  refine lv_aload_n hx hb d_Ow_linkTypes_12 rfl (lv_at hl 1 rfl) ?_
  refine lv_aload_n hx hb d_Ow_linkTypes_13 rfl (lv_at hl 0 rfl) ?_
  refine lv_iconst (v := 0) hx hb d_Ow_linkTypes_14 (by decide) ?_
  refine zi_as (y := nI 0) (nI_0.symm) ?_
  refine lv_iconst (v := 1) hx hb d_Ow_linkTypes_15 (by decide) ?_
  refine lv_bipush (v := 45) hx hb d_Ow_linkTypes_16 (by decide) ?_
  have hE1 : G1 (E.2.2.2 0) = none := hQ.out hG
  obtain ⟨ro1, er1⟩ : ∃ z : zRo, z = zrn ro q9 (30, 0) := ⟨_, rfl⟩
  have hr1 : ro1 q9 = (30, 0) := by rw [er1]; exact zrn_self _ _ _
  have hf1 : zfr ro (fun _ => False) G ro1 G1 := zfr.z (by rw [eG1]; exact zx.nw n9) (by rw [er1]; exact zro.nw n9)
  have hO1 := hO.fr hf1 hE1 id (fun _ _ z => z)
  have hz2 := zfl_2 (o := o) (xs := oX o)
  have hle1 := zfl_le (o := o) (lo := 1) (hi := 45) (oX o)
  have hGo18 := hG
  refine zk_i (va_runV (As := [.ref q9, .int (nI 0), .int 1, .int 45]) (rest := []) ⟨hx, hb, hml, hown, hts⟩ (t_Ow_addTypes l E G1 ro1 o hO1 hol q9 ((oX o).length + 2) (fun _ => 0) k5 hr1 (by omega) 0 1 45 (by omega)) (zcV 4 hts w_1105 w_1107 wp_18 w_12 w_1108 (by decide +kernel) ⟨Nat.le_of_ble_eq_true rfl, Nat.le_of_ble_eq_true rfl⟩) (zc_preV hbase hK hN hQ hG hS k3 rfl) rfl rfl hl.1 rfl (lv_room (Nat.le_of_ble_eq_true rfl)) d_Ow_linkTypes_18 ⟨(by dsimp only; omega), (by dsimp only; omega)⟩) hS (fun r18 G18 H locs hp18 hG hS => ?_)
  obtain ⟨f18, er18, hc18, hx18, hu18⟩ := hp18
  obtain ⟨us, hus⟩ : ∃ z : Nat, z = 0 + (zfl o 1 45 (oX o)).length := ⟨_, rfl⟩
  have hus2 : us = (zfl o 1 45 (oX o)).length := by omega
  refine zi_as (y := nI us) (by rw [er18, hus]) ?_
  have hf2 : zfr ro1 (fun k => k = (30, 0)) G1 ro1 G18 := zfr.of (zk.of hx18 (by rintro q e rfl _; exact hr1)) zro.rf (fun k z => z)
  have hO2 := hO1.fr hf2 (hQ.out hG) (by simp) zK30_z
  have hx6 : zx z0 G G18 := fun q x hs hq => hx18 q x (fun z => by rw [z, n9] at hq; cases hq) (hx2 q x hs hq)
  refine lv_istore_n (lv' := [(2, .int (nI us)), (1, .ref q9), (0, .ref (oA o))]) hx hb d_Ow_linkTypes_21 rfl hl (by decide) rfl (fun ls hl => ?_)
  refine lv_aload_n hx hb d_Ow_linkTypes_22 rfl (lv_at hl 1 rfl) ?_
  refine lv_iload_n hx hb d_Ow_linkTypes_23 rfl (lv_at hl 0 rfl) ?_
  refine lv_bipush (v := 46) hx hb d_Ow_linkTypes_24 (by decide) ?_
  refine zg_iast hx hb hK hG hS 1 hc18 rfl (vp_in_nI (by omega) (by omega)) d_Ow_linkTypes_26 (fun H locs hG hS => ?_)
  rw [zi_n us (by omega)] at hG
  obtain ⟨G7, eG7⟩ : ∃ z : zg_G, z = zg_up G18 q9 (.inl (E.2.1 1, (oX o).length + 2, .inl (upd f18 us 46))) := ⟨_, rfl⟩
  have hG : zP E G7 H := by rw [eG7]; exact hG
  have hx8 : zx z0 G G7 := by rw [eG7]; exact hx6.upn n9
  have k9 : G7 q9 = some (.inl (E.2.1 1, (oX o).length + 2, .inl (upd f18 us 46))) := by rw [eG7]; exact zg_up_self _ _ _
  refine lv_aload_n hx hb d_Ow_linkTypes_27 rfl (lv_at hl 1 rfl) ?_
  refine lv_iload_n hx hb d_Ow_linkTypes_28 rfl (lv_at hl 0 rfl) ?_
  refine lv_iconst (v := 1) hx hb d_Ow_linkTypes_29 (by decide) ?_
  refine lv_iadd hx hb d_Ow_linkTypes_30 ?_
  refine zi_as (y := nI (us + 1)) (nI_add us 1) ?_
  refine lv_bipush (v := 47) hx hb d_Ow_linkTypes_31 (by decide) ?_
  refine zg_iast hx hb hK hG hS 1 k9 rfl (vp_in_nI (by omega) (by omega)) d_Ow_linkTypes_33 (fun H locs hG hS => ?_)
  rw [zi_n (us + 1) (by omega)] at hG
  obtain ⟨G10, eG10⟩ : ∃ z : zg_G, z = zg_up G7 q9 (.inl (E.2.1 1, (oX o).length + 2, .inl (upd (upd f18 us 46) (us + 1) 47))) := ⟨_, rfl⟩
  have hG : zP E G10 H := by rw [eG10]; exact hG
  have hx11 : zx z0 G G10 := by rw [eG10]; exact hx8.upn n9
  have k12 : G10 q9 = some (.inl (E.2.1 1, (oX o).length + 2, .inl (upd (upd f18 us 46) (us + 1) 47))) := by rw [eG10]; exact zg_up_self _ _ _
  refine lv_aload_n hx hb d_Ow_linkTypes_34 rfl (lv_at hl 2 rfl) ?_
  refine lv_aload_n hx hb d_Ow_linkTypes_35 rfl (lv_at hl 1 rfl) ?_
  refine lv_iload_n hx hb d_Ow_linkTypes_36 rfl (lv_at hl 0 rfl) ?_
  refine lv_iconst (v := 2) hx hb d_Ow_linkTypes_37 (by decide) ?_
  refine lv_iadd hx hb d_Ow_linkTypes_38 ?_
  refine zi_as (y := nI (us + 2)) (nI_add us 2) ?_
  refine lv_bipush (v := 48) hx hb d_Ow_linkTypes_39 (by decide) ?_
  refine lv_ldc hx hb hown (hts _ w_1113) d_Ow_linkTypes_41 ?_
  have hE3 : G10 (E.2.2.2 0) = none := hQ.out hG
  have hf3 : zfr ro1 (fun k => k = (30, 0)) G18 ro1 G10 := zfr.of (zk.of (S := fun z => z = q9) (by rw [eG10, eG7]; exact (zx.up (S := fun z => z = q9) rfl).tr (zx.up (S := fun z => z = q9) rfl)) (by rintro q e rfl _; exact hr1)) zro.rf (fun k z => z)
  have hO3 := hO2.fr hf3 hE3 (by simp) zK30_z
  have hu3 : zup (fun _ => 0) (upd (upd f18 us 46) (us + 1) 47) 0 (zfl o 1 45 (oX o) ++ [46] ++ [47]) := by
    have q1 := zup_s (v := 46) hu18
    have q2 := zup_s (v := 47) q1
    have e1 : 0 + (zfl o 1 45 (oX o) ++ ([46] : List Int32)).length = us + 1 := by rw [List.length_append, show ([46] : List Int32).length = 1 from rfl]; omega
    have e2 : 0 + (zfl o 1 45 (oX o)).length = us := by omega
    rw [e1, e2] at q2
    exact q2
  have hGo43 := hG
  refine zk_i (va_runV (As := [.ref q9, .int (nI (us + 2)), .int 48, .int 65535]) (rest := []) ⟨hx, hb, hml, hown, hts⟩ (t_Ow_addTypes l E G10 ro1 o hO3 hol q9 ((oX o).length + 2) _ k12 hr1 (by omega) (us + 2) 48 65535 (by omega)) (zcV 4 hts w_1105 w_1107 wp_18 w_12 w_1108 (by decide +kernel) ⟨Nat.le_of_ble_eq_true rfl, Nat.le_of_ble_eq_true rfl⟩) (zc_preV hbase hK hN hQ hG hS hO3.1 rfl) rfl rfl hl.1 rfl (lv_room (Nat.le_of_ble_eq_true rfl)) d_Ow_linkTypes_43 ⟨(by dsimp only; omega), (by dsimp only; omega)⟩) hS (fun r43 G43 H locs hp43 hG hS => ?_)
  obtain ⟨f43, er43, hc43, hx43, hu43⟩ := hp43
  have hll : us + 2 + (zfl o 48 65535 (oX o)).length = (zlk o).length := by rw [zlk_len]; omega
  refine zi_as (y := nI ((zlk o).length)) (by rw [er43, hll]) ?_
  have hu4 : zup (fun _ => 0) f43 0 (zlk o) := by
    have e1 : 0 + (zfl o 1 45 (oX o) ++ ([46] : List Int32) ++ [47]).length = us + 2 := by rw [List.length_append, List.length_append, show ([46] : List Int32).length = 1 from rfl, show ([47] : List Int32).length = 1 from rfl]; omega
    have q1 := zup_app (fr := 0) (L1 := zfl o 1 45 (oX o) ++ [46] ++ [47]) (L2 := zfl o 48 65535 (oX o)) hu3 (by rw [e1]; exact hu43)
    unfold zlk; rw [show ([46, 47] : List Int32) = [46] ++ [47] from rfl, ← List.append_assoc]; exact q1
  have hx13 : zx z0 G G43 := fun q x hs hq => hx43 q x (fun z => by rw [z, n9] at hq; cases hq) (hx11 q x hs hq)
  refine lv_istore_n (lv' := [(2, .int (nI ((zlk o).length))), (1, .ref q9), (0, .ref (oA o))]) hx hb d_Ow_linkTypes_46 rfl hl (by decide) rfl (fun ls hl => ?_)
  refine lv_aload_n hx hb d_Ow_linkTypes_47 rfl (lv_at hl 1 rfl) ?_
  refine lv_iload_n hx hb d_Ow_linkTypes_48 rfl (lv_at hl 0 rfl) ?_
  have hGo49 := hG
  refine zk_q (va_runS (As := [.ref q9, .int (nI ((zlk o).length))]) (rest := []) ⟨hx, hb, hml, hown, hts⟩ (t_Ar_copyOf_4 l E G43 q9 ((oX o).length + 2) f43 hc43 (by omega) (zlk o).length hkl) (zcS 2 hts w_1114 w_1115 w_22 w_1116 (by decide +kernel) ⟨Nat.le_of_ble_eq_true rfl, Nat.le_of_ble_eq_true rfl⟩) (zc_pre hbase hK hN hQ hG hS) rfl rfl hl.1 rfl (lv_room (Nat.le_of_ble_eq_true rfl)) d_Ow_linkTypes_49 ⟨(by dsimp only; omega), (by dsimp only; omega)⟩) hS (fun r49 G49 H locs hp49 hG hS => ?_)
  obtain ⟨qc, fc, er49, nqc, hx49, hcc, hfc⟩ := hp49
  refine zr_some (a := qc) er49 ?_
  have k14 : G49 q9 = some (.inl (E.2.1 1, (oX o).length + 2, .inl f43)) := hx49.o hc43
  have ne_qc_q9 : q9 ≠ qc := zg_fr nqc hc43
  have hx15 : zx z0 G G49 := hx13.tr (hx49.w (fun _ z => z.elim))
  have nq0 : G qc = none := zx.no hx13 nqc
  exact hret (some qc) _ _ _ _ _ _ _ _ hr (Or.inr ⟨_, rfl⟩) (⟨qc, fc, rfl, nq0, hx15, hcc, fun j hj => by rw [hfc j hj]; have q9 := hu4.1 j hj; rw [Nat.zero_add] at q9; exact q9⟩) hG hS (by dsimp only; omega) (by dsimp only; omega) d_Ow_linkTypes_52
