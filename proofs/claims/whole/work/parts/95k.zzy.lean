/-- a new Name -/
def zNb (E : zc_E) (G G2 : zg_G) (q : Nat) (ls : np_N) : Prop := ∃ b f, G q = none ∧ G b = none ∧ G2 q = some (.inr (3, [.ref b, .int (nI ls.length)])) ∧ G2 b = some (.inl (E.2.1 0, np_len ls, .inl f)) ∧ np_f ls f ∧ np_g ls ∧ sb_Fit f
theorem zNb.nr {E : zc_E} {G G2 : zg_G} {q : Nat} {ls : np_N} (h : zNb E G G2 q ls) (hx : zx z0 G G2) (ro : zRo) : ∃ ro2, zfr ro (fun _ => False) G ro2 G2 ∧ zro G ro ro2 ∧ zNR E G2 ro2 q ls := by
  obtain ⟨b, f, h1, h2, h3, h4, h5, h6, h7⟩ := h
  have hr : zro G ro (zrn (zrn ro q (0, 0)) b (0, 0)) := (zro.nw h1).tr2 (zro.nw h2)
  have hn : q ≠ b := fun z => by rw [z, h4] at h3; cases h3
  exact ⟨_, zfr.z hx hr, hr, b, f, h3, h4, h5, h6, h7, by rw [zrn_ne hn, zrn_self], zrn_self _ _ _⟩

abbrev rm_Na_star_b (B : Nat) : Room := { frames := 2, cells := 2, slots := B, locals := 60 }
set_option maxHeartbeats 4000000 in
set_option maxRecDepth 100000 in
/-- Name.star(k), with its row new -/
theorem t_Na_star_b (l : Launch) (E : zc_E) (G : zg_G) (a0 b0 : Nat) (ls0 : np_N) (f0 : Nat → Int32) (ha0 : G a0 = some (.inr (3, [.ref b0, .int (nI ls0.length)]))) (hb0 : G b0 = some (.inl (E.2.1 0, np_len ls0, .inl f0))) (hf0 : np_f ls0 f0) (hg0 : np_g ls0) (hft : sb_Fit f0) (k : Nat) (hk : k ≤ ls0.length) (hg2 : np_g ([42] :: ls0.drop (ls0.length - k))) (B : Nat) (hB : 300 ≤ B) : zMq l E y_Na_star c_Na_star 4 (some (.object "ZoneAnswers$Name")) (rm_Na_star_b B) [.ref a0, .int (nI k)] G (fun (r : Option Nat) (G2 : zg_G) => ∃ q, r = some q ∧ zx z0 G G2 ∧ zNb E G G2 q ([42] :: ls0.drop (ls0.length - k))) := by
  refine zMq.of (by decide) (Nat.le_of_ble_eq_true rfl) ?_
  intro p e s m args below meth c Q hZ hG hret ls hl
  obtain ⟨hx, hb, hr, hts, hown, hlocks, hml, hnm, hbase, hK, hN, hQ⟩ := hZ
  have hl : lv_has ls 4 [(0, .ref a0), (1, .int (nI k))] := hl
  have hS : zg_S (zc_b E) s.heap s.heap [] := va_S.rf
  have zl0 := hg0.2
  have zc0 := hg0.count
  have hq0 : ls0.length - k ≤ ls0.length := Nat.sub_le _ _
  have hld := np_len_drop ls0 (ls0.length - k) hq0
  have hpl := np_pos_le ls0 (ls0.length - k) hq0
  have hl2 := np_star_len (ls0.drop (ls0.length - k))
  have hx0 : zx z0 G G := zx.rf
  refine lv_aload_n hx hb d_Na_star_0 rfl (lv_at hl 0 rfl) ?_
  refine lv_iload_n hx hb d_Na_star_1 rfl (lv_at hl 1 rfl) ?_
  refine zk_i (va_runV (As := [.int (nI k)]) (rest := []) ⟨hx, hb, hml, hown, hts⟩ (t_Na_tail l E G a0 b0 ls0 f0 ha0 hb0 hf0 hg0 k hk) (zcV 1 hts w_185 w_187 wp_1 w_7 w_188 (by decide +kernel) ⟨Nat.le_of_ble_eq_true rfl, Nat.le_of_ble_eq_true rfl⟩) (zc_preV hbase hK hN hQ hG hS ha0 rfl) rfl rfl hl.1 rfl (lv_room (Nat.le_of_ble_eq_true rfl)) d_Na_star_2 ⟨(by dsimp only; omega), (by dsimp only; omega)⟩) hS (fun r2 G2 H locs hp2 hG hS => ?_)
  have hG : zP E G H := hp2.2 ▸ hG
  refine zi_as (y := nI (np_pos ls0 (ls0.length - k))) hp2.1 ?_
  refine lv_istore_n (lv' := [(2, .int (nI (np_pos ls0 (ls0.length - k)))), (0, .ref a0), (1, .int (nI k))]) hx hb d_Na_star_5 rfl hl (by decide) rfl (fun ls hl => ?_)
  refine lv_iconst (v := 2) hx hb d_Na_star_6 (by decide) ?_
  refine lv_aload_n hx hb d_Na_star_7 rfl (lv_at hl 1 rfl) ?_
  refine zg_get (ci := 3) (C := "ZoneAnswers$Name") (T := T_Na) (N := 2) hx hb hts zi_Na hown hK hG ha0 rfl 0 (by decide) (hts _ w_113) (fun _ h9 => h9) rfl d_Na_star_8 ?_
  refine zg_alen hx hb hK hG 0 hb0 rfl (v := nI (np_len ls0)) rfl d_Na_star_11 ?_
  refine lv_iadd hx hb d_Na_star_12 ?_
  refine zi_as (y := nI (2 + (np_len ls0))) (nI_add 2 (np_len ls0)) ?_
  refine lv_iload_n hx hb d_Na_star_13 rfl (lv_at hl 0 rfl) ?_
  refine lv_isub hx hb d_Na_star_14 ?_
  refine zi_as (y := nI (2 + (np_len ls0) - (np_pos ls0 (ls0.length - k)))) (zi_sub (a := 2 + (np_len ls0)) (b := np_pos ls0 (ls0.length - k)) (by omega)) ?_
  refine zg_newp (atype := .byte) (ty := .byte) (N' := 2 + (np_len ls0) - (np_pos ls0 (ls0.length - k))) (a0 := (2 + (np_len ls0) - (np_pos ls0 (ls0.length - k)), .inl (fun _ => 0))) hx hb (hts _ w_58) rfl hK hG hS hbase (fun _ => rfl) (nI_pos (by omega)) (zi_n _ (by omega)) (by show _ * _ ≤ _; simp only [componentBytes]; omega) (by dsimp only; omega) (by dsimp only; omega) d_Na_star_15 0 rfl (fun _ h => h) (fun q15 H n15 hG hS => ?_)
  obtain ⟨G1, eG1⟩ : ∃ z : zg_G, z = zg_up G q15 (.inl (E.2.1 0, 2 + (np_len ls0) - (np_pos ls0 (ls0.length - k)), .inl (fun _ => 0))) := ⟨_, rfl⟩
  have hG : zP E G1 H := by rw [eG1]; exact hG
  have hx2 : zx z0 G G1 := hx0.tr (by rw [eG1]; exact zx.nw n15)
  have ne15_a0 : a0 ≠ q15 := zg_fr n15 ha0
  have k3 : G1 a0 = some (.inr (3, [.ref b0, .int (nI ls0.length)])) := by rw [eG1, zg_up_ne (zg_fr n15 ha0)]; exact ha0
  have ne15_b0 : b0 ≠ q15 := zg_fr n15 hb0
  have k4 : G1 b0 = some (.inl (E.2.1 0, np_len ls0, .inl f0)) := by rw [eG1, zg_up_ne (zg_fr n15 hb0)]; exact hb0
  have k5 : G1 q15 = some (.inl (E.2.1 0, 2 + (np_len ls0) - (np_pos ls0 (ls0.length - k)), .inl (fun _ => 0))) := by rw [eG1]; exact zg_up_self _ _ _
  refine lv_astore_n (lv' := [(3, .ref q15), (2, .int (nI (np_pos ls0 (ls0.length - k)))), (0, .ref a0), (1, .int (nI k))]) hx hb d_Na_star_17 rfl hl (by decide) rfl (fun ls hl => ?_)
  refine lv_aload_n hx hb d_Na_star_18 rfl (lv_at hl 0 rfl) ?_
  refine lv_iconst (v := 0) hx hb d_Na_star_19 (by decide) ?_
  refine zi_as (y := nI 0) (nI_0.symm) ?_
  refine lv_iconst (v := 1) hx hb d_Na_star_20 (by decide) ?_
  refine zg_bast hx hb hK hG hS 0 k5 rfl (vp_in_nI (by omega) (by omega)) d_Na_star_21 (fun H locs hG hS => ?_)
  rw [zi_n 0 (by omega)] at hG
  obtain ⟨G6, eG6⟩ : ∃ z : zg_G, z = zg_up G1 q15 (.inl (E.2.1 0, 2 + (np_len ls0) - (np_pos ls0 (ls0.length - k)), .inl (upd (fun _ => 0) 0 (vp_nar .byte 1)))) := ⟨_, rfl⟩
  have hG : zP E G6 H := by rw [eG6]; exact hG
  have hx7 : zx z0 G G6 := by rw [eG6]; exact hx2.upn n15
  have k8 : G6 a0 = some (.inr (3, [.ref b0, .int (nI ls0.length)])) := by rw [eG6, zg_up_ne (ne15_a0)]; exact k3
  have k9 : G6 b0 = some (.inl (E.2.1 0, np_len ls0, .inl f0)) := by rw [eG6, zg_up_ne (ne15_b0)]; exact k4
  have k10 : G6 q15 = some (.inl (E.2.1 0, 2 + (np_len ls0) - (np_pos ls0 (ls0.length - k)), .inl (upd (fun _ => 0) 0 (vp_nar .byte 1)))) := by rw [eG6]; exact zg_up_self _ _ _
  refine lv_aload_n hx hb d_Na_star_22 rfl (lv_at hl 0 rfl) ?_
  refine lv_iconst (v := 1) hx hb d_Na_star_23 (by decide) ?_
  refine zi_as (y := nI 1) (by decide) ?_
  refine lv_bipush (v := 42) hx hb d_Na_star_24 (by decide) ?_
  refine zg_bast hx hb hK hG hS 0 k10 rfl (vp_in_nI (by omega) (by omega)) d_Na_star_26 (fun H locs hG hS => ?_)
  rw [zi_n 1 (by omega)] at hG
  obtain ⟨G11, eG11⟩ : ∃ z : zg_G, z = zg_up G6 q15 (.inl (E.2.1 0, 2 + (np_len ls0) - (np_pos ls0 (ls0.length - k)), .inl (upd (upd (fun _ => 0) 0 (vp_nar .byte 1)) 1 (vp_nar .byte 42)))) := ⟨_, rfl⟩
  have hG : zP E G11 H := by rw [eG11]; exact hG
  have hx12 : zx z0 G G11 := by rw [eG11]; exact hx7.upn n15
  have k13 : G11 a0 = some (.inr (3, [.ref b0, .int (nI ls0.length)])) := by rw [eG11, zg_up_ne (ne15_a0)]; exact k8
  have k14 : G11 b0 = some (.inl (E.2.1 0, np_len ls0, .inl f0)) := by rw [eG11, zg_up_ne (ne15_b0)]; exact k9
  have k15 : G11 q15 = some (.inl (E.2.1 0, 2 + (np_len ls0) - (np_pos ls0 (ls0.length - k)), .inl (upd (upd (fun _ => 0) 0 (vp_nar .byte 1)) 1 (vp_nar .byte 42)))) := by rw [eG11]; exact zg_up_self _ _ _
  refine lv_aload_n hx hb d_Na_star_27 rfl (lv_at hl 2 rfl) ?_
  refine zg_get (ci := 3) (C := "ZoneAnswers$Name") (T := T_Na) (N := 2) hx hb hts zi_Na hown hK hG k13 rfl 0 (by decide) (hts _ w_113) (fun _ h9 => h9) rfl d_Na_star_28 ?_
  refine lv_iload_n hx hb d_Na_star_31 rfl (lv_at hl 1 rfl) ?_
  refine lv_aload_n hx hb d_Na_star_32 rfl (lv_at hl 0 rfl) ?_
  refine lv_iconst (v := 2) hx hb d_Na_star_33 (by decide) ?_
  refine lv_aload_n hx hb d_Na_star_34 rfl (lv_at hl 2 rfl) ?_
  refine zg_get (ci := 3) (C := "ZoneAnswers$Name") (T := T_Na) (N := 2) hx hb hts zi_Na hown hK hG k13 rfl 0 (by decide) (hts _ w_113) (fun _ h9 => h9) rfl d_Na_star_35 ?_
  refine zg_alen hx hb hK hG 0 k14 rfl (v := nI (np_len ls0)) rfl d_Na_star_38 ?_
  refine lv_iload_n hx hb d_Na_star_39 rfl (lv_at hl 1 rfl) ?_
  refine lv_isub hx hb d_Na_star_40 ?_
  refine zi_as (y := nI (np_len ls0 - (np_pos ls0 (ls0.length - k)))) (zi_sub (a := np_len ls0) (b := np_pos ls0 (ls0.length - k)) (by omega)) ?_
  refine zg_copyi hx hb (hml.trans hl.1.symm) hown (hts _ w_1154) (hts _ w_350) (hts _ w_349) (hts _ w_23) hK hG hS 0 0 k14 k15 rfl rfl rfl (nI_pos (by omega)) (by decide) (nI_pos (by omega)) (by rw [zi_n (np_pos ls0 (ls0.length - k)) (by omega), zi_n (np_len ls0 - (np_pos ls0 (ls0.length - k))) (by omega)]; omega) (by rw [show Int32.toNatClampNeg 2 = 2 from by decide, zi_n (np_len ls0 - (np_pos ls0 (ls0.length - k))) (by omega)]; omega) (by rw [zi_n (np_pos ls0 (ls0.length - k)) (by omega), zi_n (np_len ls0 - (np_pos ls0 (ls0.length - k))) (by omega)]; exact fun i hi => hft _) (Nat.le_of_ble_eq_true rfl) (by show _ ≤ (60 : Nat); decide) d_Na_star_41 (fun H locs hG hS => ?_)
  rw [zi_n (np_pos ls0 (ls0.length - k)) (by omega), show Int32.toNatClampNeg 2 = 2 from by decide, zi_n (np_len ls0 - (np_pos ls0 (ls0.length - k))) (by omega)] at hG
  obtain ⟨G16, eG16⟩ : ∃ z : zg_G, z = zg_up G11 q15 (.inl (E.2.1 0, 2 + (np_len ls0) - (np_pos ls0 (ls0.length - k)), .inl (va_cpy f0 (upd (upd (fun _ => 0) 0 (vp_nar .byte 1)) 1 (vp_nar .byte 42)) (np_pos ls0 (ls0.length - k)) 2 (np_len ls0 - (np_pos ls0 (ls0.length - k)))))) := ⟨_, rfl⟩
  have hG : zP E G16 H := by rw [eG16]; exact hG
  have hx17 : zx z0 G G16 := by rw [eG16]; exact hx12.upn n15
  have k18 : G16 a0 = some (.inr (3, [.ref b0, .int (nI ls0.length)])) := by rw [eG16, zg_up_ne (ne15_a0)]; exact k13
  have k19 : G16 b0 = some (.inl (E.2.1 0, np_len ls0, .inl f0)) := by rw [eG16, zg_up_ne (ne15_b0)]; exact k14
  have k20 : G16 q15 = some (.inl (E.2.1 0, 2 + (np_len ls0) - (np_pos ls0 (ls0.length - k)), .inl (va_cpy f0 (upd (upd (fun _ => 0) 0 (vp_nar .byte 1)) 1 (vp_nar .byte 42)) (np_pos ls0 (ls0.length - k)) 2 (np_len ls0 - (np_pos ls0 (ls0.length - k)))))) := by rw [eG16]; exact zg_up_self _ _ _
  refine zg_new (ci := 3) (fs := [.null, .int 0]) (C := "ZoneAnswers$Name") (T := T_Na) (N := 2) hx hb hts zi_Na t_Na t_Na_ok hown (hts _ w_1155) (hts _ w_108) (hts _ w_7) hK hG hS hbase rfl (fun j hj => by rcases (show j = 0 ∨ j = 1 by omega) with rfl | rfl <;> rfl) (by dsimp only; omega) (by dsimp only; omega) d_Na_star_44 (fun q44 H n44 hG hS => ?_)
  obtain ⟨G21, eG21⟩ : ∃ z : zg_G, z = zg_up G16 q44 (.inr (3, [.null, .int 0])) := ⟨_, rfl⟩
  have hG : zP E G21 H := by rw [eG21]; exact hG
  have nf44 : G q44 = none := zx.fr hx17 n44 (fun h => h)
  have hx22 : zx z0 G G21 := hx17.tr (by rw [eG21]; exact zx.nw n44)
  have ne44_a0 : a0 ≠ q44 := zg_fr n44 k18
  have k23 : G21 a0 = some (.inr (3, [.ref b0, .int (nI ls0.length)])) := by rw [eG21, zg_up_ne (zg_fr n44 k18)]; exact k18
  have ne44_b0 : b0 ≠ q44 := zg_fr n44 k19
  have k24 : G21 b0 = some (.inl (E.2.1 0, np_len ls0, .inl f0)) := by rw [eG21, zg_up_ne (zg_fr n44 k19)]; exact k19
  have ne44_q15 : q15 ≠ q44 := zg_fr n44 k20
  have k25 : G21 q15 = some (.inl (E.2.1 0, 2 + (np_len ls0) - (np_pos ls0 (ls0.length - k)), .inl (va_cpy f0 (upd (upd (fun _ => 0) 0 (vp_nar .byte 1)) 1 (vp_nar .byte 42)) (np_pos ls0 (ls0.length - k)) 2 (np_len ls0 - (np_pos ls0 (ls0.length - k)))))) := by rw [eG21, zg_up_ne (zg_fr n44 k20)]; exact k20
  have k26 : G21 q44 = some (.inr (3, [.null, .int 0])) := by rw [eG21]; exact zg_up_self _ _ _
  refine lv_dup hx hb d_Na_star_47 rfl ?_
  refine lv_aload_n hx hb d_Na_star_48 rfl (lv_at hl 0 rfl) ?_
  have hGo49 := hG
  refine zk_v (va_runI (As := [.ref q15]) (rest := [.ref q44]) ⟨hx, hb, hml, hown, hts⟩ (t_Na_init l E G21 q44 q15 ([42] :: ls0.drop (ls0.length - k)) _ (by rw [show np_len ([42] :: ls0.drop (ls0.length - k)) = 2 + np_len ls0 - np_pos ls0 (ls0.length - k) by omega]; exact k25) (np_star_f (by omega) (hf0.drop hq0) rfl) hg2 k26) (zcI 1 hts w_1156 w_110 w_7 w_111 rfl (by decide +kernel) ⟨Nat.le_of_ble_eq_true rfl, Nat.le_of_ble_eq_true rfl⟩) (zc_pre hbase hK hN hQ hG hS) rfl rfl hl.1 rfl (lv_room (Nat.le_of_ble_eq_true rfl)) d_Na_star_49 ⟨(by dsimp only; omega), (by dsimp only; omega)⟩) hS (fun G49 H locs hp49 hG hS => ?_)
  have hx27 : zx z0 G G49 := by rw [hp49]; exact hx22.upn nf44
  have k28 : G49 a0 = some (.inr (3, [.ref b0, .int (nI ls0.length)])) := by rw [hp49, zg_up_ne (ne44_a0)]; exact k23
  have k29 : G49 b0 = some (.inl (E.2.1 0, np_len ls0, .inl f0)) := by rw [hp49, zg_up_ne (ne44_b0)]; exact k24
  have k30 : G49 q15 = some (.inl (E.2.1 0, 2 + (np_len ls0) - (np_pos ls0 (ls0.length - k)), .inl (va_cpy f0 (upd (upd (fun _ => 0) 0 (vp_nar .byte 1)) 1 (vp_nar .byte 42)) (np_pos ls0 (ls0.length - k)) 2 (np_len ls0 - (np_pos ls0 (ls0.length - k)))))) := by rw [hp49, zg_up_ne (ne44_q15)]; exact k25
  have k31 : G49 q44 = some (.inr (3, [.ref q15, .int (nI ([42] :: ls0.drop (ls0.length - k)).length)])) := by rw [hp49]; exact zg_up_self _ _ _
  exact hret (some q44) _ _ _ _ _ _ _ _ hr (Or.inl ⟨_, rfl⟩) (⟨q44, rfl, hx27, q15, _, nf44, n15, k31, by rw [show np_len ([42] :: ls0.drop (ls0.length - k)) = 2 + np_len ls0 - np_pos ls0 (ls0.length - k) by omega]; exact k30, np_star_f (by omega) (hf0.drop hq0) rfl, hg2, sb_fitC hft (zf_fitu (zf_fitu zf_fit0))⟩) hG hS (by dsimp only; omega) (by dsimp only; omega) d_Na_star_52
abbrev rm_ZA_tapeName_b (B : Nat) : Room := { frames := 4, cells := 2, slots := B, locals := 130 }
set_option maxHeartbeats 4000000 in
set_option maxRecDepth 100000 in
/-- tapeName(), with its row new -/
theorem t_ZA_tapeName_b (l : Launch) (E : zc_E) (G : zg_G) (xo ta zo an b : Nat) (tp : List Int32) (hX : G xo = some (.inr (10, [.ref ta, .ref zo, .ref an]))) (hT : zTp E G ta b tp) (hlen : tp.length ≤ 65536) (B : Nat) (hB : tp.length + 2 ≤ B) : zMq l E y_ZA_tapeName c_ZA_tapeName 2 (some (.object "ZoneAnswers$Name")) (rm_ZA_tapeName_b B) [.ref xo] G (fun (r : Option Nat) (G2 : zg_G) => (∃ ls q, zTn tp ls ∧ r = some q ∧ zx z0 G G2 ∧ zNb E G G2 q (np_low ls)) ∨ (r = none ∧ G2 = G ∧ ¬ ∃ ls, zTn tp ls)) := by
  refine zMq.of (by decide) (Nat.le_of_ble_eq_true rfl) ?_
  intro p e s m args below meth c Q hZ hG hret ls hl
  obtain ⟨hx, hb, hr, hts, hown, hlocks, hml, hnm, hbase, hK, hN, hQ⟩ := hZ
  have hl : lv_has ls 2 [(0, .ref xo)] := hl
  have hS : zg_S (zc_b E) s.heap s.heap [] := va_S.rf
  have hx0 : zx z0 G G := zx.rf
  refine lv_aload_n hx hb d_ZA_tapeName_0 rfl (lv_at hl 0 rfl) ?_
  refine zg_get (ci := 10) (C := "ZoneAnswers") (T := T_ZA) (N := 3) hx hb hts zi_ZA hown hK hG hX rfl 0 (by decide) (hts _ w_703) (fun _ h9 => h9) rfl d_ZA_tapeName_1 ?_
  refine lv_iconst (v := 0) hx hb d_ZA_tapeName_4 (by decide) ?_
  refine zi_as (y := nI 0) (nI_0.symm) ?_
  refine zk_i (va_runV (As := [.int (nI 0)]) (rest := []) ⟨hx, hb, hml, hown, hts⟩ (t_Ta_nameEnd l E G ta b tp hT hlen 0 (by omega)) (zcV 1 hts w_829 w_830 w_831 w_2 w_832 (by decide +kernel) ⟨Nat.le_of_ble_eq_true rfl, Nat.le_of_ble_eq_true rfl⟩) (zc_preV hbase hK hN hQ hG hS hT.1 rfl) rfl rfl hl.1 rfl (lv_room (Nat.le_of_ble_eq_true rfl)) d_ZA_tapeName_5 ⟨(by dsimp only; omega), (by dsimp only; omega)⟩) hS (fun r5 G5 H locs hp5 hG hS => ?_)
  have hG : zP E G H := hp5.2 ▸ hG
  refine lv_istore_n (lv' := [(1, .int r5), (0, .ref xo)]) hx hb d_ZA_tapeName_8 rfl hl (by decide) rfl (fun ls hl => ?_)
  refine lv_iload_n hx hb d_ZA_tapeName_9 rfl (lv_at hl 0 rfl) ?_
  refine lv_if_lt (tgt := 43) hx hb d_ZA_tapeName_10 (by decide) (fun c10 => ?_) (fun c10 => ?_)
  · refine lv_null hx hb d_ZA_tapeName_43 ?_
    exact hret none _ _ _ _ _ _ _ _ hr (Or.inl ⟨_, rfl⟩) (Or.inr ⟨rfl, rfl, zE_no hp5.1 hlen (by first | exact Or.inl c10 | exact Or.inr c21)⟩) hG hS (by dsimp only; omega) (by dsimp only; omega) d_ZA_tapeName_44
  · refine lv_iload_n hx hb d_ZA_tapeName_13 rfl (lv_at hl 0 rfl) ?_
    refine lv_aload_n hx hb d_ZA_tapeName_14 rfl (lv_at hl 1 rfl) ?_
    refine zg_get (ci := 10) (C := "ZoneAnswers") (T := T_ZA) (N := 3) hx hb hts zi_ZA hown hK hG hX rfl 0 (by decide) (hts _ w_703) (fun _ h9 => h9) rfl d_ZA_tapeName_15 ?_
    refine zk_i (va_runV (As := []) (rest := [.int r5]) ⟨hx, hb, hml, hown, hts⟩ (t_Ta_length l E G ta b (nI tp.length) hT.1) (zcV 0 hts w_729 w_730 w_731 w_2 w_732 (by decide +kernel) ⟨Nat.le_of_ble_eq_true rfl, Nat.le_of_ble_eq_true rfl⟩) (zc_preV hbase hK hN hQ hG hS hT.1 rfl) rfl rfl hl.1 rfl (lv_room (Nat.le_of_ble_eq_true rfl)) d_ZA_tapeName_18 ⟨(by dsimp only; omega), (by dsimp only; omega)⟩) hS (fun r18 G18 H locs hp18 hG hS => ?_)
    have hG : zP E G H := hp18.2 ▸ hG
    refine zi_as (y := nI tp.length) hp18.1 ?_
    refine lv_icmp_ne (tgt := 43) hx hb d_ZA_tapeName_21 (by decide) (fun c21 => ?_) (fun c21 => ?_)
    · refine lv_null hx hb d_ZA_tapeName_43 ?_
      exact hret none _ _ _ _ _ _ _ _ hr (Or.inl ⟨_, rfl⟩) (Or.inr ⟨rfl, rfl, zE_no hp5.1 hlen (by first | exact Or.inl c10 | exact Or.inr c21)⟩) hG hS (by dsimp only; omega) (by dsimp only; omega) d_ZA_tapeName_44
    · subst c21
      obtain ⟨ls9, hls9⟩ := zE_len hp5.1 hlen rfl
      have hl9 := hls9.2
      have hok9 := hls9.1.1
      refine zg_new (ci := 3) (fs := [.null, .int 0]) (C := "ZoneAnswers$Name") (T := T_Na) (N := 2) hx hb hts zi_Na t_Na t_Na_ok hown (hts _ w_107) (hts _ w_108) (hts _ w_7) hK hG hS hbase rfl (fun j hj => by rcases (show j = 0 ∨ j = 1 by omega) with rfl | rfl <;> rfl) (by dsimp only; omega) (by dsimp only; omega) d_ZA_tapeName_24 (fun q24 H n24 hG hS => ?_)
      obtain ⟨G1, eG1⟩ : ∃ z : zg_G, z = zg_up G q24 (.inr (3, [.null, .int 0])) := ⟨_, rfl⟩
      have hG : zP E G1 H := by rw [eG1]; exact hG
      have hx2 : zx z0 G G1 := hx0.tr (by rw [eG1]; exact zx.nw n24)
      have ne24_xo : xo ≠ q24 := zg_fr n24 hX
      have k3 : G1 xo = some (.inr (10, [.ref ta, .ref zo, .ref an])) := by rw [eG1, zg_up_ne (zg_fr n24 hX)]; exact hX
      have ne24_ta : ta ≠ q24 := zg_fr n24 hT.1
      have k4 : G1 ta = some (.inr (7, [.ref b, .int (nI tp.length)])) := by rw [eG1, zg_up_ne (zg_fr n24 hT.1)]; exact hT.1
      have k5 : G1 q24 = some (.inr (3, [.null, .int 0])) := by rw [eG1]; exact zg_up_self _ _ _
      refine lv_dup hx hb d_ZA_tapeName_27 rfl ?_
      refine lv_aload_n hx hb d_ZA_tapeName_28 rfl (lv_at hl 1 rfl) ?_
      refine zg_get (ci := 10) (C := "ZoneAnswers") (T := T_ZA) (N := 3) hx hb hts zi_ZA hown hK hG k3 rfl 0 (by decide) (hts _ w_703) (fun _ h9 => h9) rfl d_ZA_tapeName_29 ?_
      refine lv_iconst (v := 0) hx hb d_ZA_tapeName_32 (by decide) ?_
      refine zi_as (y := nI 0) (nI_0.symm) ?_
      refine lv_iload_n hx hb d_ZA_tapeName_33 rfl (lv_at hl 0 rfl) ?_
      have hGo34 := hG
      refine zk_q (va_runV (As := [.int (nI 0), .int (nI tp.length)]) (rest := [.ref q24, .ref q24]) ⟨hx, hb, hml, hown, hts⟩ (t_Ta_lowered l E G1 ta b tp (hT.x hx2) 0 tp.length (Nat.zero_le _) (Nat.le_refl _)) (zcV 2 hts w_833 w_834 w_835 w_2 w_836 (by decide +kernel) ⟨Nat.le_of_ble_eq_true rfl, Nat.le_of_ble_eq_true rfl⟩) (zc_preV hbase hK hN hQ hG hS k4 rfl) rfl rfl hl.1 rfl (lv_room (Nat.le_of_ble_eq_true rfl)) d_ZA_tapeName_34 ⟨(by dsimp only; omega), (by dsimp only; omega)⟩) hS (fun r34 G34 H locs hp34 hG hS => ?_)
      have hxo34 := hx2
      obtain ⟨q34, f34, er34, nq34, hx34, hq34, hft34, hlo34⟩ := hp34
      refine zr_some (a := q34) er34 ?_
      have k6 : G34 xo = some (.inr (10, [.ref ta, .ref zo, .ref an])) := hx34.o k3
      have ne_q34_xo : xo ≠ q34 := zg_fr nq34 k3
      have k7 : G34 ta = some (.inr (7, [.ref b, .int (nI tp.length)])) := hx34.o k4
      have ne_q34_ta : ta ≠ q34 := zg_fr nq34 k4
      have k8 : G34 q24 = some (.inr (3, [.null, .int 0])) := hx34.o k5
      have ne_q34_q24 : q24 ≠ q34 := zg_fr nq34 k5
      have hx9 : zx z0 G G34 := hx2.tr (hx34.w (fun _ z => z.elim))
      have hb34 : G34 q34 = some (.inl (E.2.1 0, np_len (np_low ls9), .inl f34)) := by rw [np_low_len hok9.1, hl9]; exact hq34
      have hf34 : np_f (np_low ls9) f34 := np_low_f hok9.1 hls9.1.2.2 (fun j hj => hlo34 j (by omega))
      have nf34 : G q34 = none := zx.no hxo34 nq34
      have hGo37 := hG
      refine zk_v (va_runI (As := [.ref q34]) (rest := [.ref q24]) ⟨hx, hb, hml, hown, hts⟩ (t_Na_init l E G34 q24 q34 (np_low ls9) f34 hb34 hf34 (np_low_g hok9) k8) (zcI 1 hts w_109 w_110 w_7 w_111 rfl (by decide +kernel) ⟨Nat.le_of_ble_eq_true rfl, Nat.le_of_ble_eq_true rfl⟩) (zc_pre hbase hK hN hQ hG hS) rfl rfl hl.1 rfl (lv_room (Nat.le_of_ble_eq_true rfl)) d_ZA_tapeName_37 ⟨(by dsimp only; omega), (by dsimp only; omega)⟩) hS (fun G37 H locs hp37 hG hS => ?_)
      have hx10 : zx z0 G G37 := by rw [hp37]; exact hx9.upn n24
      have k11 : G37 xo = some (.inr (10, [.ref ta, .ref zo, .ref an])) := by rw [hp37, zg_up_ne (ne24_xo)]; exact k6
      have k12 : G37 ta = some (.inr (7, [.ref b, .int (nI tp.length)])) := by rw [hp37, zg_up_ne (ne24_ta)]; exact k7
      have k13 : G37 q24 = some (.inr (3, [.ref q34, .int (nI (np_low ls9).length)])) := by rw [hp37]; exact zg_up_self _ _ _
      have k14 : G37 q34 = some (.inl (E.2.1 0, np_len (np_low ls9), .inl f34)) := by rw [hp37, zg_up_ne (Ne.symm ne_q34_q24)]; exact hb34
      refine lv_goto (tgt := 44) hx hb d_ZA_tapeName_40 (by decide) ?_
      exact hret (some q24) _ _ _ _ _ _ _ _ hr (Or.inl ⟨_, rfl⟩) (Or.inl ⟨ls9, q24, hls9, rfl, hx10, q34, f34, n24, nf34, k13, k14, hf34, np_low_g hok9, hft34⟩) hG hS (by dsimp only; omega) (by dsimp only; omega) d_ZA_tapeName_44
abbrev rm_ZA_recordName_b (B : Nat) : Room := { frames := 4, cells := 2, slots := B, locals := 130 }
set_option maxHeartbeats 4000000 in
set_option maxRecDepth 100000 in
/-- recordName(t), with its row new -/
theorem t_ZA_recordName_b (l : Launch) (E : zc_E) (G : zg_G) (xo ta zo an b : Nat) (tp : List Int32) (hX : G xo = some (.inr (10, [.ref ta, .ref zo, .ref an]))) (hT : zTp E G ta b tp) (hlen : tp.length ≤ 65536) (la tn st sd : Nat) (rc : Int32) (hZ0 : G zo = some (.inr (9, [.ref la, .ref tn, .ref st, .ref sd, .int rc]))) (bt : Nat) (lt : np_N) (ft : Nat → Int32) (htn : G tn = some (.inr (3, [.ref bt, .int (nI lt.length)]))) (hbt : G bt = some (.inl (E.2.1 0, np_len lt, .inl ft))) (hft0 : np_f lt ft) (hgt : np_g lt) (t : Int32) (B : Nat) (hB : tp.length + 2 ≤ B) : zMq l E y_ZA_recordName c_ZA_recordName 4 (some (.object "ZoneAnswers$Name")) (rm_ZA_recordName_b B) [.ref xo, .int t] G (fun (r : Option Nat) (G2 : zg_G) => (∃ ls q, zRn tp t ls ∧ lt <:+ np_low ls ∧ r = some q ∧ zx z0 G G2 ∧ zNb E G G2 q (np_low ls)) ∨ (r = none ∧ zx z0 G G2 ∧ ¬ ∃ ls, zRn tp t ls ∧ lt <:+ np_low ls)) := by
  refine zMq.of (by decide) (Nat.le_of_ble_eq_true rfl) ?_
  intro p e s m args below meth c Q hZ hG hret ls hl
  obtain ⟨hx, hb, hr, hts, hown, hlocks, hml, hnm, hbase, hK, hN, hQ⟩ := hZ
  have hl : lv_has ls 4 [(0, .ref xo), (1, .int t)] := hl
  have hS : zg_S (zc_b E) s.heap s.heap [] := va_S.rf
  have hx0 : zx z0 G G := zx.rf
  refine lv_aload_n hx hb d_ZA_recordName_0 rfl (lv_at hl 0 rfl) ?_
  refine zg_get (ci := 10) (C := "ZoneAnswers") (T := T_ZA) (N := 3) hx hb hts zi_ZA hown hK hG hX rfl 0 (by decide) (hts _ w_703) (fun _ h9 => h9) rfl d_ZA_recordName_1 ?_
  refine lv_iconst (v := 0) hx hb d_ZA_recordName_4 (by decide) ?_
  refine zi_as (y := nI 0) (nI_0.symm) ?_
  refine zk_i (va_runV (As := [.int (nI 0)]) (rest := []) ⟨hx, hb, hml, hown, hts⟩ (t_Ta_nameEnd l E G ta b tp hT hlen 0 (by omega)) (zcV 1 hts w_829 w_830 w_831 w_2 w_832 (by decide +kernel) ⟨Nat.le_of_ble_eq_true rfl, Nat.le_of_ble_eq_true rfl⟩) (zc_preV hbase hK hN hQ hG hS hT.1 rfl) rfl rfl hl.1 rfl (lv_room (Nat.le_of_ble_eq_true rfl)) d_ZA_recordName_5 ⟨(by dsimp only; omega), (by dsimp only; omega)⟩) hS (fun r5 G5 H locs hp5 hG hS => ?_)
  have hG : zP E G H := hp5.2 ▸ hG
  refine lv_istore_n (lv' := [(2, .int r5), (0, .ref xo), (1, .int t)]) hx hb d_ZA_recordName_8 rfl hl (by decide) rfl (fun ls hl => ?_)
  refine lv_iload_n hx hb d_ZA_recordName_9 rfl (lv_at hl 0 rfl) ?_
  refine lv_if_lt (tgt := 32) hx hb d_ZA_recordName_10 (by decide) (fun c10 => ?_) (fun c10 => ?_)
  · refine lv_null hx hb d_ZA_recordName_32 ?_
    exact hret none _ _ _ _ _ _ _ _ hr (Or.inl ⟨_, rfl⟩) (Or.inr ⟨rfl, zx.rf, by first | exact fun ⟨l2, z1, z2⟩ => zE_ng hp5.1 c10 ⟨l2, z1.1⟩ | exact fun ⟨l2, z1, z2⟩ => hp14.1.z c17 z1.2.1 | exact fun ⟨l2, z1, z2⟩ => hp26.1.z c29 (zNm_un z1.1 hls9 ▸ z1.2.2)⟩) hG hS (by dsimp only; omega) (by dsimp only; omega) d_ZA_recordName_33
  · obtain ⟨ls9, hls9, e9⟩ := zE_nn hp5.1 c10
    subst e9
    have hl9 := hls9.2.1
    have hok9 := hls9.1
    refine lv_iload_n hx hb d_ZA_recordName_13 rfl (lv_at hl 2 rfl) ?_
    refine zk_i (va_runS (As := [.int t]) (rest := []) ⟨hx, hb, hml, hown, hts⟩ (t_ZA_isPutType l E G t) (zcS 1 hts w_858 w_859 w_1 w_860 (by decide +kernel) ⟨Nat.le_of_ble_eq_true rfl, Nat.le_of_ble_eq_true rfl⟩) (zc_pre hbase hK hN hQ hG hS) rfl rfl hl.1 rfl (lv_room (Nat.le_of_ble_eq_true rfl)) d_ZA_recordName_14 ⟨(by dsimp only; omega), (by dsimp only; omega)⟩) hS (fun r14 G14 H locs hp14 hG hS => ?_)
    have hG : zP E G H := hp14.2 ▸ hG
    refine lv_if_eq (tgt := 32) hx hb d_ZA_recordName_17 (by decide) (fun c17 => ?_) (fun c17 => ?_)
    · refine lv_null hx hb d_ZA_recordName_32 ?_
      exact hret none _ _ _ _ _ _ _ _ hr (Or.inl ⟨_, rfl⟩) (Or.inr ⟨rfl, zx.rf, by first | exact fun ⟨l2, z1, z2⟩ => zE_ng hp5.1 c10 ⟨l2, z1.1⟩ | exact fun ⟨l2, z1, z2⟩ => hp14.1.z c17 z1.2.1 | exact fun ⟨l2, z1, z2⟩ => hp26.1.z c29 (zNm_un z1.1 hls9 ▸ z1.2.2)⟩) hG hS (by dsimp only; omega) (by dsimp only; omega) d_ZA_recordName_33
    · refine lv_aload_n hx hb d_ZA_recordName_20 rfl (lv_at hl 1 rfl) ?_
      refine zg_get (ci := 10) (C := "ZoneAnswers") (T := T_ZA) (N := 3) hx hb hts zi_ZA hown hK hG hX rfl 0 (by decide) (hts _ w_703) (fun _ h9 => h9) rfl d_ZA_recordName_21 ?_
      refine lv_iload_n hx hb d_ZA_recordName_24 rfl (lv_at hl 2 rfl) ?_
      refine lv_iload_n hx hb d_ZA_recordName_25 rfl (lv_at hl 0 rfl) ?_
      refine zk_i (va_runV (As := [.int t, .int (nI (np_len ls9))]) (rest := []) ⟨hx, hb, hml, hown, hts⟩ (t_Ta_isData l E G ta b tp hT hlen t (np_len ls9) (by omega)) (zcV 2 hts w_862 w_863 w_864 w_2 w_865 (by decide +kernel) ⟨Nat.le_of_ble_eq_true rfl, Nat.le_of_ble_eq_true rfl⟩) (zc_preV hbase hK hN hQ hG hS hT.1 rfl) rfl rfl hl.1 rfl (lv_room (Nat.le_of_ble_eq_true rfl)) d_ZA_recordName_26 ⟨(by dsimp only; omega), (by dsimp only; omega)⟩) hS (fun r26 G26 H locs hp26 hG hS => ?_)
      have hG : zP E G H := hp26.2 ▸ hG
      refine lv_if_ne (tgt := 34) hx hb d_ZA_recordName_29 (by decide) (fun c29 => ?_) (fun c29 => ?_)
      · refine zg_new (ci := 3) (fs := [.null, .int 0]) (C := "ZoneAnswers$Name") (T := T_Na) (N := 2) hx hb hts zi_Na t_Na t_Na_ok hown (hts _ w_107) (hts _ w_108) (hts _ w_7) hK hG hS hbase rfl (fun j hj => by rcases (show j = 0 ∨ j = 1 by omega) with rfl | rfl <;> rfl) (by dsimp only; omega) (by dsimp only; omega) d_ZA_recordName_34 (fun q34 H n34 hG hS => ?_)
        obtain ⟨G1, eG1⟩ : ∃ z : zg_G, z = zg_up G q34 (.inr (3, [.null, .int 0])) := ⟨_, rfl⟩
        have hG : zP E G1 H := by rw [eG1]; exact hG
        have hx2 : zx z0 G G1 := hx0.tr (by rw [eG1]; exact zx.nw n34)
        have ne34_xo : xo ≠ q34 := zg_fr n34 hX
        have k3 : G1 xo = some (.inr (10, [.ref ta, .ref zo, .ref an])) := by rw [eG1, zg_up_ne (zg_fr n34 hX)]; exact hX
        have ne34_ta : ta ≠ q34 := zg_fr n34 hT.1
        have k4 : G1 ta = some (.inr (7, [.ref b, .int (nI tp.length)])) := by rw [eG1, zg_up_ne (zg_fr n34 hT.1)]; exact hT.1
        have ne34_zo : zo ≠ q34 := zg_fr n34 hZ0
        have k5 : G1 zo = some (.inr (9, [.ref la, .ref tn, .ref st, .ref sd, .int rc])) := by rw [eG1, zg_up_ne (zg_fr n34 hZ0)]; exact hZ0
        have ne34_tn : tn ≠ q34 := zg_fr n34 htn
        have k6 : G1 tn = some (.inr (3, [.ref bt, .int (nI lt.length)])) := by rw [eG1, zg_up_ne (zg_fr n34 htn)]; exact htn
        have ne34_bt : bt ≠ q34 := zg_fr n34 hbt
        have k7 : G1 bt = some (.inl (E.2.1 0, np_len lt, .inl ft)) := by rw [eG1, zg_up_ne (zg_fr n34 hbt)]; exact hbt
        have k8 : G1 q34 = some (.inr (3, [.null, .int 0])) := by rw [eG1]; exact zg_up_self _ _ _
        refine lv_dup hx hb d_ZA_recordName_37 rfl ?_
        refine lv_aload_n hx hb d_ZA_recordName_38 rfl (lv_at hl 1 rfl) ?_
        refine zg_get (ci := 10) (C := "ZoneAnswers") (T := T_ZA) (N := 3) hx hb hts zi_ZA hown hK hG k3 rfl 0 (by decide) (hts _ w_703) (fun _ h9 => h9) rfl d_ZA_recordName_39 ?_
        refine lv_iconst (v := 0) hx hb d_ZA_recordName_42 (by decide) ?_
        refine zi_as (y := nI 0) (nI_0.symm) ?_
        refine lv_iload_n hx hb d_ZA_recordName_43 rfl (lv_at hl 0 rfl) ?_
        have hGo44 := hG
        refine zk_q (va_runV (As := [.int (nI 0), .int (nI (np_len ls9))]) (rest := [.ref q34, .ref q34]) ⟨hx, hb, hml, hown, hts⟩ (t_Ta_lowered l E G1 ta b tp (hT.x hx2) 0 (np_len ls9) (Nat.zero_le _) (by omega)) (zcV 2 hts w_833 w_834 w_835 w_2 w_836 (by decide +kernel) ⟨Nat.le_of_ble_eq_true rfl, Nat.le_of_ble_eq_true rfl⟩) (zc_preV hbase hK hN hQ hG hS k4 rfl) rfl rfl hl.1 rfl (lv_room (Nat.le_of_ble_eq_true rfl)) d_ZA_recordName_44 ⟨(by dsimp only; omega), (by dsimp only; omega)⟩) hS (fun r44 G44 H locs hp44 hG hS => ?_)
        have hxo44 := hx2
        obtain ⟨q44, f44, er44, nq44, hx44, hq44, hft44, hlo44⟩ := hp44
        refine zr_some (a := q44) er44 ?_
        have k9 : G44 xo = some (.inr (10, [.ref ta, .ref zo, .ref an])) := hx44.o k3
        have ne_q44_xo : xo ≠ q44 := zg_fr nq44 k3
        have k10 : G44 ta = some (.inr (7, [.ref b, .int (nI tp.length)])) := hx44.o k4
        have ne_q44_ta : ta ≠ q44 := zg_fr nq44 k4
        have k11 : G44 zo = some (.inr (9, [.ref la, .ref tn, .ref st, .ref sd, .int rc])) := hx44.o k5
        have ne_q44_zo : zo ≠ q44 := zg_fr nq44 k5
        have k12 : G44 tn = some (.inr (3, [.ref bt, .int (nI lt.length)])) := hx44.o k6
        have ne_q44_tn : tn ≠ q44 := zg_fr nq44 k6
        have k13 : G44 bt = some (.inl (E.2.1 0, np_len lt, .inl ft)) := hx44.o k7
        have ne_q44_bt : bt ≠ q44 := zg_fr nq44 k7
        have k14 : G44 q34 = some (.inr (3, [.null, .int 0])) := hx44.o k8
        have ne_q44_q34 : q34 ≠ q44 := zg_fr nq44 k8
        have hx15 : zx z0 G G44 := hx2.tr (hx44.w (fun _ z => z.elim))
        have hb44 : G44 q44 = some (.inl (E.2.1 0, np_len (np_low ls9), .inl f44)) := by rw [np_low_len hok9.1]; exact hq44
        have hf44 : np_f (np_low ls9) f44 := np_low_f hok9.1 hls9.2.2 (fun j hj => hlo44 j (by omega))
        have nf44 : G q44 = none := zx.no hxo44 nq44
        have hGo47 := hG
        refine zk_v (va_runI (As := [.ref q44]) (rest := [.ref q34]) ⟨hx, hb, hml, hown, hts⟩ (t_Na_init l E G44 q34 q44 (np_low ls9) f44 hb44 hf44 (np_low_g hok9) k14) (zcI 1 hts w_109 w_110 w_7 w_111 rfl (by decide +kernel) ⟨Nat.le_of_ble_eq_true rfl, Nat.le_of_ble_eq_true rfl⟩) (zc_pre hbase hK hN hQ hG hS) rfl rfl hl.1 rfl (lv_room (Nat.le_of_ble_eq_true rfl)) d_ZA_recordName_47 ⟨(by dsimp only; omega), (by dsimp only; omega)⟩) hS (fun G47 H locs hp47 hG hS => ?_)
        have hx16 : zx z0 G G47 := by rw [hp47]; exact hx15.upn n34
        have k17 : G47 xo = some (.inr (10, [.ref ta, .ref zo, .ref an])) := by rw [hp47, zg_up_ne (ne34_xo)]; exact k9
        have k18 : G47 ta = some (.inr (7, [.ref b, .int (nI tp.length)])) := by rw [hp47, zg_up_ne (ne34_ta)]; exact k10
        have k19 : G47 zo = some (.inr (9, [.ref la, .ref tn, .ref st, .ref sd, .int rc])) := by rw [hp47, zg_up_ne (ne34_zo)]; exact k11
        have k20 : G47 tn = some (.inr (3, [.ref bt, .int (nI lt.length)])) := by rw [hp47, zg_up_ne (ne34_tn)]; exact k12
        have k21 : G47 bt = some (.inl (E.2.1 0, np_len lt, .inl ft)) := by rw [hp47, zg_up_ne (ne34_bt)]; exact k13
        have k22 : G47 q34 = some (.inr (3, [.ref q44, .int (nI (np_low ls9).length)])) := by rw [hp47]; exact zg_up_self _ _ _
        have k23 : G47 q44 = some (.inl (E.2.1 0, np_len (np_low ls9), .inl f44)) := by rw [hp47, zg_up_ne (Ne.symm ne_q44_q34)]; exact hb44
        refine lv_astore_n (lv' := [(3, .ref q34), (2, .int (nI (np_len ls9))), (0, .ref xo), (1, .int t)]) hx hb d_ZA_recordName_50 rfl hl (by decide) rfl (fun ls hl => ?_)
        refine lv_aload_n hx hb d_ZA_recordName_51 rfl (lv_at hl 0 rfl) ?_
        refine lv_aload_n hx hb d_ZA_recordName_52 rfl (lv_at hl 2 rfl) ?_
        refine zg_get (ci := 10) (C := "ZoneAnswers") (T := T_ZA) (N := 3) hx hb hts zi_ZA hown hK hG k17 rfl 1 (by decide) (hts _ w_704) (fun _ h9 => h9) rfl d_ZA_recordName_53 ?_
        refine zk_q (va_runV (As := []) (rest := [.ref q34]) ⟨hx, hb, hml, hown, hts⟩ (t_Zo_top l E G47 zo la tn st sd rc k19) (zcV 0 hts w_874 w_875 w_876 w_3 w_877 (by decide +kernel) ⟨Nat.le_of_ble_eq_true rfl, Nat.le_of_ble_eq_true rfl⟩) (zc_preV hbase hK hN hQ hG hS k19 rfl) rfl rfl hl.1 rfl (lv_room (Nat.le_of_ble_eq_true rfl)) d_ZA_recordName_56 ⟨(by dsimp only; omega), (by dsimp only; omega)⟩) hS (fun r56 G56 H locs hp56 hG hS => ?_)
        have hG : zP E G47 H := hp56.2 ▸ hG
        refine zr_some (a := tn) hp56.1 ?_
        refine zk_i (va_runV (As := [.ref tn]) (rest := []) ⟨hx, hb, hml, hown, hts⟩ (t_Na_isAtOrBelow l E G47 q34 q44 (np_low ls9) f44 k22 k23 hf44 (np_low_g hok9) tn bt lt ft k20 k21 hft0 hgt) (zcV 1 hts w_878 w_650 w_651 w_7 w_652 (by decide +kernel) ⟨Nat.le_of_ble_eq_true rfl, Nat.le_of_ble_eq_true rfl⟩) (zc_preV hbase hK hN hQ hG hS k22 rfl) rfl rfl hl.1 rfl (lv_room (Nat.le_of_ble_eq_true rfl)) d_ZA_recordName_59 ⟨(by dsimp only; omega), (by dsimp only; omega)⟩) hS (fun r59 G59 H locs hp59 hG hS => ?_)
        have hG : zP E G47 H := hp59.2 ▸ hG
        refine lv_if_eq (tgt := 69) hx hb d_ZA_recordName_62 (by decide) (fun c62 => ?_) (fun c62 => ?_)
        · refine lv_null hx hb d_ZA_recordName_69 ?_
          exact hret none _ _ _ _ _ _ _ _ hr (Or.inl ⟨_, rfl⟩) (Or.inr ⟨rfl, hx16, fun ⟨l2, z1, z2⟩ => hp59.1.z c62 (zNm_un z1.1 hls9 ▸ z2)⟩) hG hS (by dsimp only; omega) (by dsimp only; omega) d_ZA_recordName_70
        · refine lv_aload_n hx hb d_ZA_recordName_65 rfl (lv_at hl 0 rfl) ?_
          refine lv_goto (tgt := 70) hx hb d_ZA_recordName_66 (by decide) ?_
          exact hret (some q34) _ _ _ _ _ _ _ _ hr (Or.inl ⟨_, rfl⟩) (Or.inl ⟨ls9, q34, ⟨hls9, hp14.1.nz c17, hp26.1.nz c29⟩, hp59.1.nz c62, rfl, hx16, q44, f44, n34, nf44, k22, k23, hf44, np_low_g hok9, hft44⟩) hG hS (by dsimp only; omega) (by dsimp only; omega) d_ZA_recordName_70
      · refine lv_null hx hb d_ZA_recordName_32 ?_
        exact hret none _ _ _ _ _ _ _ _ hr (Or.inl ⟨_, rfl⟩) (Or.inr ⟨rfl, zx.rf, by first | exact fun ⟨l2, z1, z2⟩ => zE_ng hp5.1 c10 ⟨l2, z1.1⟩ | exact fun ⟨l2, z1, z2⟩ => hp14.1.z c17 z1.2.1 | exact fun ⟨l2, z1, z2⟩ => hp26.1.z c29 (zNm_un z1.1 hls9 ▸ z1.2.2)⟩) hG hS (by dsimp only; omega) (by dsimp only; omega) d_ZA_recordName_33
