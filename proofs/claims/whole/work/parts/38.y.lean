theorem np_star_len (ls : np_N) : np_len ([42] :: ls) = 2 + np_len ls := by rw [np_len_cons]; simp
theorem np_star_f {ls : np_N} {f g F : Nat → Int32} {p n : Nat} (hn : n = np_len ls) (hf : np_f ls (fun j => f (p + j))) (e : F = va_cpy f (upd (upd g 0 (vp_nar .byte 1)) 1 (vp_nar .byte 42)) p 2 n) : np_f ([42] :: ls) F := by
  subst e
  refine np_f_cons.mpr ⟨?_, fun j hj => ?_, fun j hj => ?_⟩
  · unfold va_cpy; rw [if_neg (by omega)]; rfl
  · have : j = 0 := by have : j < 1 := hj; omega
    rw [this]; unfold va_cpy; rw [if_neg (by omega)]; rfl
  · show va_cpy f _ p 2 n (1 + 1 + j) = _
    unfold va_cpy
    rw [if_pos (by omega), show p + (1 + 1 + j - 2) = p + j by omega]
    exact hf j hj
theorem w_1154 : (.methodLink "ZoneAnswers$Name" 29 ⟨"java/lang/System", "arraycopy", "(Ljava/lang/Object;ILjava/lang/Object;II)V"⟩ : Cond) ∈ zw := zw_at 1154 (by decide +kernel) (by decide +kernel)
theorem w_1155 : (.classLink "ZoneAnswers$Name" 10 "ZoneAnswers$Name" : Cond) ∈ zw := zw_at 1155 (by decide +kernel) (by decide +kernel)
theorem w_1156 : (.methodLink "ZoneAnswers$Name" 35 ⟨"ZoneAnswers$Name", "<init>", "([B)V"⟩ : Cond) ∈ zw := zw_at 1156 (by decide +kernel) (by decide +kernel)
abbrev c_Na_star : ByteArray := prog_4_method_8_code
abbrev y_Na_star : MethodName := ⟨"ZoneAnswers$Name", "star", "(I)LZoneAnswers$Name;"⟩
theorem d_Na_star_0 : decode c_Na_star 0 = .ok (.aload_n 0, 1) := by decide +kernel
theorem d_Na_star_1 : decode c_Na_star 1 = .ok (.iload_n 1, 1) := by decide +kernel
theorem d_Na_star_2 : decode c_Na_star 2 = .ok (.invokevirtual 19, 3) := by decide +kernel
theorem d_Na_star_5 : decode c_Na_star 5 = .ok (.istore_n 2, 1) := by decide +kernel
theorem d_Na_star_6 : decode c_Na_star 6 = .ok (.iconst 2, 1) := by decide +kernel
theorem d_Na_star_7 : decode c_Na_star 7 = .ok (.aload_n 0, 1) := by decide +kernel
theorem d_Na_star_8 : decode c_Na_star 8 = .ok (.getfield 9, 3) := by decide +kernel
theorem d_Na_star_11 : decode c_Na_star 11 = .ok (.arraylength, 1) := by decide +kernel
theorem d_Na_star_12 : decode c_Na_star 12 = .ok (.iadd, 1) := by decide +kernel
theorem d_Na_star_13 : decode c_Na_star 13 = .ok (.iload_n 2, 1) := by decide +kernel
theorem d_Na_star_14 : decode c_Na_star 14 = .ok (.isub, 1) := by decide +kernel
theorem d_Na_star_15 : decode c_Na_star 15 = .ok (.newarray .byte, 2) := by decide +kernel
theorem d_Na_star_17 : decode c_Na_star 17 = .ok (.astore_n 3, 1) := by decide +kernel
theorem d_Na_star_18 : decode c_Na_star 18 = .ok (.aload_n 3, 1) := by decide +kernel
theorem d_Na_star_19 : decode c_Na_star 19 = .ok (.iconst 0, 1) := by decide +kernel
theorem d_Na_star_20 : decode c_Na_star 20 = .ok (.iconst 1, 1) := by decide +kernel
theorem d_Na_star_21 : decode c_Na_star 21 = .ok (.bastore, 1) := by decide +kernel
theorem d_Na_star_22 : decode c_Na_star 22 = .ok (.aload_n 3, 1) := by decide +kernel
theorem d_Na_star_23 : decode c_Na_star 23 = .ok (.iconst 1, 1) := by decide +kernel
theorem d_Na_star_24 : decode c_Na_star 24 = .ok (.bipush 42, 2) := by decide +kernel
theorem d_Na_star_26 : decode c_Na_star 26 = .ok (.bastore, 1) := by decide +kernel
theorem d_Na_star_27 : decode c_Na_star 27 = .ok (.aload_n 0, 1) := by decide +kernel
theorem d_Na_star_28 : decode c_Na_star 28 = .ok (.getfield 9, 3) := by decide +kernel
theorem d_Na_star_31 : decode c_Na_star 31 = .ok (.iload_n 2, 1) := by decide +kernel
theorem d_Na_star_32 : decode c_Na_star 32 = .ok (.aload_n 3, 1) := by decide +kernel
theorem d_Na_star_33 : decode c_Na_star 33 = .ok (.iconst 2, 1) := by decide +kernel
theorem d_Na_star_34 : decode c_Na_star 34 = .ok (.aload_n 0, 1) := by decide +kernel
theorem d_Na_star_35 : decode c_Na_star 35 = .ok (.getfield 9, 3) := by decide +kernel
theorem d_Na_star_38 : decode c_Na_star 38 = .ok (.arraylength, 1) := by decide +kernel
theorem d_Na_star_39 : decode c_Na_star 39 = .ok (.iload_n 2, 1) := by decide +kernel
theorem d_Na_star_40 : decode c_Na_star 40 = .ok (.isub, 1) := by decide +kernel
theorem d_Na_star_41 : decode c_Na_star 41 = .ok (.invokestatic 29, 3) := by decide +kernel
theorem d_Na_star_44 : decode c_Na_star 44 = .ok (.new 10, 3) := by decide +kernel
theorem d_Na_star_47 : decode c_Na_star 47 = .ok (.dup, 1) := by decide +kernel
theorem d_Na_star_48 : decode c_Na_star 48 = .ok (.aload_n 3, 1) := by decide +kernel
theorem d_Na_star_49 : decode c_Na_star 49 = .ok (.invokespecial 35, 3) := by decide +kernel
theorem d_Na_star_52 : decode c_Na_star 52 = .ok (.areturn, 1) := by decide +kernel
abbrev rm_Na_star (B : Nat) : Room := { frames := 2, cells := 2, slots := B, locals := 60 }
set_option maxHeartbeats 4000000 in
set_option maxRecDepth 100000 in
/-- Name.star(k) -/
theorem t_Na_star (l : Launch) (E : zc_E) (G : zg_G) (a0 b0 : Nat) (ls0 : np_N) (f0 : Nat → Int32) (ha0 : G a0 = some (.inr (3, [.ref b0, .int (nI ls0.length)]))) (hb0 : G b0 = some (.inl (E.2.1 0, np_len ls0, .inl f0))) (hf0 : np_f ls0 f0) (hg0 : np_g ls0) (hft : sb_Fit f0) (k : Nat) (hk : k ≤ ls0.length) (hg2 : np_g ([42] :: ls0.drop (ls0.length - k))) (B : Nat) (hB : 300 ≤ B) : zMq l E y_Na_star c_Na_star 4 (some (.object "ZoneAnswers$Name")) (rm_Na_star B) [.ref a0, .int (nI k)] G (fun (r : Option Nat) (G2 : zg_G) => ∃ q, r = some q ∧ G q = none ∧ zx z0 G G2 ∧ zNa E G2 q ([42] :: ls0.drop (ls0.length - k))) := by
  refine zMq.of (by decide) (Nat.le_of_ble_eq_true rfl) ?_
  intro p e s m args below meth c Q hZ hG hret ls hl
  obtain ⟨hx, hb, hr, hts, hown, hlocks, hml, hnm, hbase, hK, hN, hQ⟩ := hZ
  have hl : lv_has ls 4 [(0, .ref a0), (1, .int (nI k))] := hl
  have hS : zg_S (zc_b E) s.heap s.heap [] := va_S.rf
  have zl0 := hg0.2
  have zc0 := hg0.count
  have hq0 : ls0.length - k ≤ ls0.length := Nat.sub_le _ _
  have hld := np_len_drop ls0 (ls0.length - k) hq0
  have hpl := np_pos_le ls0 (ls0.length - k) hq0
  have hl2 := np_star_len (ls0.drop (ls0.length - k))
  have hx0 : zx z0 G G := zx.rf
  refine lv_aload_n hx hb d_Na_star_0 rfl (lv_at hl 0 rfl) ?_
  refine lv_iload_n hx hb d_Na_star_1 rfl (lv_at hl 1 rfl) ?_
  refine zk_i (va_runV (As := [.int (nI k)]) (rest := []) ⟨hx, hb, hml, hown, hts⟩ (t_Na_tail l E G a0 b0 ls0 f0 ha0 hb0 hf0 hg0 k hk) (zcV 1 hts w_185 w_187 wp_1 w_7 w_188 (by decide +kernel) ⟨Nat.le_of_ble_eq_true rfl, Nat.le_of_ble_eq_true rfl⟩) (zc_preV hbase hK hN hQ hG hS ha0 rfl) rfl rfl hl.1 rfl (lv_room (Nat.le_of_ble_eq_true rfl)) d_Na_star_2 ⟨(by dsimp only; omega), (by dsimp only; omega)⟩) hS (fun r2 G2 H locs hp2 hG hS => ?_)
  have hG : zP E G H := hp2.2 ▸ hG
  refine zi_as (y := nI (np_pos ls0 (ls0.length - k))) hp2.1 ?_
  refine lv_istore_n (lv' := [(2, .int (nI (np_pos ls0 (ls0.length - k)))), (0, .ref a0), (1, .int (nI k))]) hx hb d_Na_star_5 rfl hl (by decide) rfl (fun ls hl => ?_)
  refine lv_iconst (v := 2) hx hb d_Na_star_6 (by decide) ?_
  refine lv_aload_n hx hb d_Na_star_7 rfl (lv_at hl 1 rfl) ?_
  refine zg_get (ci := 3) (C := "ZoneAnswers$Name") (T := T_Na) (N := 2) hx hb hts zi_Na hown hK hG ha0 rfl 0 (by decide) (hts _ w_113) (fun _ h9 => h9) rfl d_Na_star_8 ?_
  refine zg_alen hx hb hK hG 0 hb0 rfl (v := nI (np_len ls0)) rfl d_Na_star_11 ?_
  refine lv_iadd hx hb d_Na_star_12 ?_
  refine zi_as (y := nI (2 + (np_len ls0))) (nI_add 2 (np_len ls0)) ?_
  refine lv_iload_n hx hb d_Na_star_13 rfl (lv_at hl 0 rfl) ?_
  refine lv_isub hx hb d_Na_star_14 ?_
  refine zi_as (y := nI (2 + (np_len ls0) - (np_pos ls0 (ls0.length - k)))) (zi_sub (a := 2 + (np_len ls0)) (b := np_pos ls0 (ls0.length - k)) (by omega)) ?_
  refine zg_newp (atype := .byte) (ty := .byte) (N' := 2 + (np_len ls0) - (np_pos ls0 (ls0.length - k))) (a0 := (2 + (np_len ls0) - (np_pos ls0 (ls0.length - k)), .inl (fun _ => 0))) hx hb (hts _ w_58) rfl hK hG hS hbase (fun _ => rfl) (nI_pos (by omega)) (zi_n _ (by omega)) (by show _ * _ ≤ _; simp only [componentBytes]; omega) (by dsimp only; omega) (by dsimp only; omega) d_Na_star_15 0 rfl (fun _ h => h) (fun q15 H n15 hG hS => ?_)
  obtain ⟨G1, eG1⟩ : ∃ z : zg_G, z = zg_up G q15 (.inl (E.2.1 0, 2 + (np_len ls0) - (np_pos ls0 (ls0.length - k)), .inl (fun _ => 0))) := ⟨_, rfl⟩
  have hG : zP E G1 H := by rw [eG1]; exact hG
  have hx2 : zx z0 G G1 := hx0.tr (by rw [eG1]; exact zx.nw n15)
  have ne15_a0 : a0 ≠ q15 := zg_fr n15 ha0
  have k3 : G1 a0 = some (.inr (3, [.ref b0, .int (nI ls0.length)])) := by rw [eG1, zg_up_ne (zg_fr n15 ha0)]; exact ha0
  have ne15_b0 : b0 ≠ q15 := zg_fr n15 hb0
  have k4 : G1 b0 = some (.inl (E.2.1 0, np_len ls0, .inl f0)) := by rw [eG1, zg_up_ne (zg_fr n15 hb0)]; exact hb0
  have k5 : G1 q15 = some (.inl (E.2.1 0, 2 + (np_len ls0) - (np_pos ls0 (ls0.length - k)), .inl (fun _ => 0))) := by rw [eG1]; exact zg_up_self _ _ _
  refine lv_astore_n (lv' := [(3, .ref q15), (2, .int (nI (np_pos ls0 (ls0.length - k)))), (0, .ref a0), (1, .int (nI k))]) hx hb d_Na_star_17 rfl hl (by decide) rfl (fun ls hl => ?_)
  refine lv_aload_n hx hb d_Na_star_18 rfl (lv_at hl 0 rfl) ?_
  refine lv_iconst (v := 0) hx hb d_Na_star_19 (by decide) ?_
  refine zi_as (y := nI 0) (nI_0.symm) ?_
  refine lv_iconst (v := 1) hx hb d_Na_star_20 (by decide) ?_
  refine zg_bast hx hb hK hG hS 0 k5 rfl (vp_in_nI (by omega) (by omega)) d_Na_star_21 (fun H locs hG hS => ?_)
  rw [zi_n 0 (by omega)] at hG
  obtain ⟨G6, eG6⟩ : ∃ z : zg_G, z = zg_up G1 q15 (.inl (E.2.1 0, 2 + (np_len ls0) - (np_pos ls0 (ls0.length - k)), .inl (upd (fun _ => 0) 0 (vp_nar .byte 1)))) := ⟨_, rfl⟩
  have hG : zP E G6 H := by rw [eG6]; exact hG
  have hx7 : zx z0 G G6 := by rw [eG6]; exact hx2.upn n15
  have k8 : G6 a0 = some (.inr (3, [.ref b0, .int (nI ls0.length)])) := by rw [eG6, zg_up_ne (ne15_a0)]; exact k3
  have k9 : G6 b0 = some (.inl (E.2.1 0, np_len ls0, .inl f0)) := by rw [eG6, zg_up_ne (ne15_b0)]; exact k4
  have k10 : G6 q15 = some (.inl (E.2.1 0, 2 + (np_len ls0) - (np_pos ls0 (ls0.length - k)), .inl (upd (fun _ => 0) 0 (vp_nar .byte 1)))) := by rw [eG6]; exact zg_up_self _ _ _
  refine lv_aload_n hx hb d_Na_star_22 rfl (lv_at hl 0 rfl) ?_
  refine lv_iconst (v := 1) hx hb d_Na_star_23 (by decide) ?_
  refine zi_as (y := nI 1) (by decide) ?_
  refine lv_bipush (v := 42) hx hb d_Na_star_24 (by decide) ?_
  refine zg_bast hx hb hK hG hS 0 k10 rfl (vp_in_nI (by omega) (by omega)) d_Na_star_26 (fun H locs hG hS => ?_)
  rw [zi_n 1 (by omega)] at hG
  obtain ⟨G11, eG11⟩ : ∃ z : zg_G, z = zg_up G6 q15 (.inl (E.2.1 0, 2 + (np_len ls0) - (np_pos ls0 (ls0.length - k)), .inl (upd (upd (fun _ => 0) 0 (vp_nar .byte 1)) 1 (vp_nar .byte 42)))) := ⟨_, rfl⟩
  have hG : zP E G11 H := by rw [eG11]; exact hG
  have hx12 : zx z0 G G11 := by rw [eG11]; exact hx7.upn n15
  have k13 : G11 a0 = some (.inr (3, [.ref b0, .int (nI ls0.length)])) := by rw [eG11, zg_up_ne (ne15_a0)]; exact k8
  have k14 : G11 b0 = some (.inl (E.2.1 0, np_len ls0, .inl f0)) := by rw [eG11, zg_up_ne (ne15_b0)]; exact k9
  have k15 : G11 q15 = some (.inl (E.2.1 0, 2 + (np_len ls0) - (np_pos ls0 (ls0.length - k)), .inl (upd (upd (fun _ => 0) 0 (vp_nar .byte 1)) 1 (vp_nar .byte 42)))) := by rw [eG11]; exact zg_up_self _ _ _
  refine lv_aload_n hx hb d_Na_star_27 rfl (lv_at hl 2 rfl) ?_
  refine zg_get (ci := 3) (C := "ZoneAnswers$Name") (T := T_Na) (N := 2) hx hb hts zi_Na hown hK hG k13 rfl 0 (by decide) (hts _ w_113) (fun _ h9 => h9) rfl d_Na_star_28 ?_
  refine lv_iload_n hx hb d_Na_star_31 rfl (lv_at hl 1 rfl) ?_
  refine lv_aload_n hx hb d_Na_star_32 rfl (lv_at hl 0 rfl) ?_
  refine lv_iconst (v := 2) hx hb d_Na_star_33 (by decide) ?_
  refine lv_aload_n hx hb d_Na_star_34 rfl (lv_at hl 2 rfl) ?_
  refine zg_get (ci := 3) (C := "ZoneAnswers$Name") (T := T_Na) (N := 2) hx hb hts zi_Na hown hK hG k13 rfl 0 (by decide) (hts _ w_113) (fun _ h9 => h9) rfl d_Na_star_35 ?_
  refine zg_alen hx hb hK hG 0 k14 rfl (v := nI (np_len ls0)) rfl d_Na_star_38 ?_
  refine lv_iload_n hx hb d_Na_star_39 rfl (lv_at hl 1 rfl) ?_
  refine lv_isub hx hb d_Na_star_40 ?_
  refine zi_as (y := nI (np_len ls0 - (np_pos ls0 (ls0.length - k)))) (zi_sub (a := np_len ls0) (b := np_pos ls0 (ls0.length - k)) (by omega)) ?_
  refine zg_copyi hx hb (hml.trans hl.1.symm) hown (hts _ w_1154) (hts _ w_350) (hts _ w_349) (hts _ w_23) hK hG hS 0 0 k14 k15 rfl rfl rfl (nI_pos (by omega)) (by decide) (nI_pos (by omega)) (by rw [zi_n (np_pos ls0 (ls0.length - k)) (by omega), zi_n (np_len ls0 - (np_pos ls0 (ls0.length - k))) (by omega)]; omega) (by rw [show Int32.toNatClampNeg 2 = 2 from by decide, zi_n (np_len ls0 - (np_pos ls0 (ls0.length - k))) (by omega)]; omega) (by rw [zi_n (np_pos ls0 (ls0.length - k)) (by omega), zi_n (np_len ls0 - (np_pos ls0 (ls0.length - k))) (by omega)]; exact fun i hi => hft _) (Nat.le_of_ble_eq_true rfl) (by show _ ≤ (60 : Nat); decide) d_Na_star_41 (fun H locs hG hS => ?_)
  rw [zi_n (np_pos ls0 (ls0.length - k)) (by omega), show Int32.toNatClampNeg 2 = 2 from by decide, zi_n (np_len ls0 - (np_pos ls0 (ls0.length - k))) (by omega)] at hG
  obtain ⟨G16, eG16⟩ : ∃ z : zg_G, z = zg_up G11 q15 (.inl (E.2.1 0, 2 + (np_len ls0) - (np_pos ls0 (ls0.length - k)), .inl (va_cpy f0 (upd (upd (fun _ => 0) 0 (vp_nar .byte 1)) 1 (vp_nar .byte 42)) (np_pos ls0 (ls0.length - k)) 2 (np_len ls0 - (np_pos ls0 (ls0.length - k)))))) := ⟨_, rfl⟩
  have hG : zP E G16 H := by rw [eG16]; exact hG
  have hx17 : zx z0 G G16 := by rw [eG16]; exact hx12.upn n15
  have k18 : G16 a0 = some (.inr (3, [.ref b0, .int (nI ls0.length)])) := by rw [eG16, zg_up_ne (ne15_a0)]; exact k13
  have k19 : G16 b0 = some (.inl (E.2.1 0, np_len ls0, .inl f0)) := by rw [eG16, zg_up_ne (ne15_b0)]; exact k14
  have k20 : G16 q15 = some (.inl (E.2.1 0, 2 + (np_len ls0) - (np_pos ls0 (ls0.length - k)), .inl (va_cpy f0 (upd (upd (fun _ => 0) 0 (vp_nar .byte 1)) 1 (vp_nar .byte 42)) (np_pos ls0 (ls0.length - k)) 2 (np_len ls0 - (np_pos ls0 (ls0.length - k)))))) := by rw [eG16]; exact zg_up_self _ _ _
  refine zg_new (ci := 3) (fs := [.null, .int 0]) (C := "ZoneAnswers$Name") (T := T_Na) (N := 2) hx hb hts zi_Na t_Na t_Na_ok hown (hts _ w_1155) (hts _ w_108) (hts _ w_7) hK hG hS hbase rfl (fun j hj => by rcases (show j = 0 ∨ j = 1 by omega) with rfl | rfl <;> rfl) (by dsimp only; omega) (by dsimp only; omega) d_Na_star_44 (fun q44 H n44 hG hS => ?_)
  obtain ⟨G21, eG21⟩ : ∃ z : zg_G, z = zg_up G16 q44 (.inr (3, [.null, .int 0])) := ⟨_, rfl⟩
  have hG : zP E G21 H := by rw [eG21]; exact hG
  have nf44 : G q44 = none := zx.fr hx17 n44 (fun h => h)
  have hx22 : zx z0 G G21 := hx17.tr (by rw [eG21]; exact zx.nw n44)
  have ne44_a0 : a0 ≠ q44 := zg_fr n44 k18
  have k23 : G21 a0 = some (.inr (3, [.ref b0, .int (nI ls0.length)])) := by rw [eG21, zg_up_ne (zg_fr n44 k18)]; exact k18
  have ne44_b0 : b0 ≠ q44 := zg_fr n44 k19
  have k24 : G21 b0 = some (.inl (E.2.1 0, np_len ls0, .inl f0)) := by rw [eG21, zg_up_ne (zg_fr n44 k19)]; exact k19
  have ne44_q15 : q15 ≠ q44 := zg_fr n44 k20
  have k25 : G21 q15 = some (.inl (E.2.1 0, 2 + (np_len ls0) - (np_pos ls0 (ls0.length - k)), .inl (va_cpy f0 (upd (upd (fun _ => 0) 0 (vp_nar .byte 1)) 1 (vp_nar .byte 42)) (np_pos ls0 (ls0.length - k)) 2 (np_len ls0 - (np_pos ls0 (ls0.length - k)))))) := by rw [eG21, zg_up_ne (zg_fr n44 k20)]; exact k20
  have k26 : G21 q44 = some (.inr (3, [.null, .int 0])) := by rw [eG21]; exact zg_up_self _ _ _
  refine lv_dup hx hb d_Na_star_47 rfl ?_
  refine lv_aload_n hx hb d_Na_star_48 rfl (lv_at hl 0 rfl) ?_
  have hGo49 := hG
  refine zk_v (va_runI (As := [.ref q15]) (rest := [.ref q44]) ⟨hx, hb, hml, hown, hts⟩ (t_Na_init l E G21 q44 q15 ([42] :: ls0.drop (ls0.length - k)) _ (by rw [show np_len ([42] :: ls0.drop (ls0.length - k)) = 2 + np_len ls0 - np_pos ls0 (ls0.length - k) by omega]; exact k25) (np_star_f (by omega) (hf0.drop hq0) rfl) hg2 k26) (zcI 1 hts w_1156 w_110 w_7 w_111 rfl (by decide +kernel) ⟨Nat.le_of_ble_eq_true rfl, Nat.le_of_ble_eq_true rfl⟩) (zc_pre hbase hK hN hQ hG hS) rfl rfl hl.1 rfl (lv_room (Nat.le_of_ble_eq_true rfl)) d_Na_star_49 ⟨(by dsimp only; omega), (by dsimp only; omega)⟩) hS (fun G49 H locs hp49 hG hS => ?_)
  have hx27 : zx z0 G G49 := by rw [hp49]; exact hx22.upn nf44
  have k28 : G49 a0 = some (.inr (3, [.ref b0, .int (nI ls0.length)])) := by rw [hp49, zg_up_ne (ne44_a0)]; exact k23
  have k29 : G49 b0 = some (.inl (E.2.1 0, np_len ls0, .inl f0)) := by rw [hp49, zg_up_ne (ne44_b0)]; exact k24
  have k30 : G49 q15 = some (.inl (E.2.1 0, 2 + (np_len ls0) - (np_pos ls0 (ls0.length - k)), .inl (va_cpy f0 (upd (upd (fun _ => 0) 0 (vp_nar .byte 1)) 1 (vp_nar .byte 42)) (np_pos ls0 (ls0.length - k)) 2 (np_len ls0 - (np_pos ls0 (ls0.length - k)))))) := by rw [hp49, zg_up_ne (ne44_q15)]; exact k25
  have k31 : G49 q44 = some (.inr (3, [.ref q15, .int (nI ([42] :: ls0.drop (ls0.length - k)).length)])) := by rw [hp49]; exact zg_up_self _ _ _
  exact hret (some q44) _ _ _ _ _ _ _ _ hr (Or.inl ⟨_, rfl⟩) (⟨q44, rfl, nf44, hx27, q15, _, k31, by rw [show np_len ([42] :: ls0.drop (ls0.length - k)) = 2 + np_len ls0 - np_pos ls0 (ls0.length - k) by omega]; exact k30, np_star_f (by omega) (hf0.drop hq0) rfl, hg2, sb_fitC hft (zf_fitu (zf_fitu zf_fit0))⟩) hG hS (by dsimp only; omega) (by dsimp only; omega) d_Na_star_52
