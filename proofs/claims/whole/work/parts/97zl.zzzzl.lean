/-! THE CLASS's CONSTRUCTOR: the rows of its sections are different -/

abbrev rm_An_init_d : Room := { frames := 5, cells := 6, slots := 12, locals := 140 }
set_option maxHeartbeats 4000000 in
set_option maxRecDepth 100000 in
/-- new Answer(zone) -/
theorem t_An_init_d (l : Launch) (E : zc_E) (G : zg_G) (a zo : Nat) (ha : G a = some (.inr (1, [.null, .null, .null, .null, .int 0, .int 0]))) : zMv l E y_An_init c_An_init 2 rm_An_init_d [.ref a, .ref zo] G (fun (G2 : zg_G) => ∃ (s1 s2 s3 r1 r2 r3 : Nat), zx (fun q => q = a) G G2 ∧ G2 a = some (.inr (1, [.ref zo, .ref s1, .ref s2, .ref s3, .int 0, .int 0])) ∧ G2 s1 = some (.inr (6, [.ref r1])) ∧ G2 s2 = some (.inr (6, [.ref r2])) ∧ G2 s3 = some (.inr (6, [.ref r3])) ∧ G2 r1 = some (.inr (0, [.ref (E.2.2.2 0), .int 0, .int 0])) ∧ G2 r2 = some (.inr (0, [.ref (E.2.2.2 0), .int 0, .int 0])) ∧ G2 r3 = some (.inr (0, [.ref (E.2.2.2 0), .int 0, .int 0])) ∧ (r1 ≠ r2 ∧ r1 ≠ r3 ∧ r2 ≠ r3)) := by
  refine zMv.of (by decide) (Nat.le_of_ble_eq_true rfl) ?_
  intro p e s m args below meth c Q hZ hG hret ls hl
  obtain ⟨hx, hb, hr, hts, hown, hlocks, hml, hnm, hbase, hK, hN, hQ⟩ := hZ
  have hl : lv_has ls 2 [(0, .ref a), (1, .ref zo)] := hl
  have hS : zg_S (zc_b E) s.heap s.heap [] := va_S.rf
  have hx0 : zx (fun q => q = a) G G := zx.rf
  refine lv_aload_n hx hb d_An_init_0 rfl (lv_at hl 0 rfl) ?_
  refine W.objInit hx hb hown (hts _ w_671) (hts _ w_43) (hts _ w_44) rfl (by rw [hml]; exact hl.1) rfl d_An_init_1 (Nat.le_of_ble_eq_true rfl) (Nat.le_of_ble_eq_true rfl) ?_
  refine W.eq (g2 := F0 m 4 ls []) rfl ?_
  refine lv_aload_n hx hb d_An_init_4 rfl (lv_at hl 0 rfl) ?_
  refine lv_aload_n hx hb d_An_init_5 rfl (lv_at hl 1 rfl) ?_
  refine zg_putF (ci := 1) (v := .ref zo) (ty := .object "ZoneAnswers$Zone") (C := "ZoneAnswers$Answer") (T := T_An) (N := 6) hx hb hts zi_An t_An t_An_ok n_An hown hK hG hS ha rfl 0 (by decide) (hts _ w_684) (fun _ h9 => h9) rfl hnm rfl (by decide +kernel) rfl rfl (Nat.le_of_ble_eq_true rfl) d_An_init_6 (fun H locs hG hS => ?_)
  obtain ⟨G1, eG1⟩ : ∃ z : zg_G, z = zg_up G a (.inr (1, [.ref zo, .null, .null, .null, .int 0, .int 0])) := ⟨_, rfl⟩
  have hG : zP E G1 H := by rw [eG1]; exact hG
  have hx2 : zx (fun q => q = a) G G1 := hx0.tr (by rw [eG1]; exact zx.up (rfl))
  have k3 : G1 a = some (.inr (1, [.ref zo, .null, .null, .null, .int 0, .int 0])) := by rw [eG1]; exact zg_up_self _ _ _
  refine lv_aload_n hx hb d_An_init_9 rfl (lv_at hl 0 rfl) ?_
  refine zg_new (ci := 6) (fs := [.null]) (C := "ZoneAnswers$Section") (T := T_Se) (N := 1) hx hb hts zi_Se t_Se t_Se_ok hown (hts _ w_672) (hts _ w_673) (hts _ w_29) hK hG hS hbase rfl (fun j hj => by rcases (show j = 0 by omega) with rfl <;> rfl) (by decide) (by decide) d_An_init_10 (fun q10 H n10 hG hS => ?_)
  obtain ⟨G4, eG4⟩ : ∃ z : zg_G, z = zg_up G1 q10 (.inr (6, [.null])) := ⟨_, rfl⟩
  have hG : zP E G4 H := by rw [eG4]; exact hG
  have nf10 : G q10 = none := zx.fr hx2 n10 (fun h => by (rw [h] at n10; first | (rw [n10] at k3; cases k3)))
  have hx5 : zx (fun q => q = a) G G4 := hx2.tr (by rw [eG4]; exact zx.nw n10)
  have ne10_a : a ≠ q10 := zg_fr n10 k3
  have k6 : G4 a = some (.inr (1, [.ref zo, .null, .null, .null, .int 0, .int 0])) := by rw [eG4, zg_up_ne (zg_fr n10 k3)]; exact k3
  have k7 : G4 q10 = some (.inr (6, [.null])) := by rw [eG4]; exact zg_up_self _ _ _
  refine lv_dup hx hb d_An_init_13 rfl ?_
  have hGo14 := hG
  refine zk_v (va_runI (As := []) (rest := [.ref q10, .ref a]) ⟨hx, hb, hml, hown, hts⟩ (t_Se_init l E G4 q10 k7) (zcI 0 hts w_674 w_675 w_29 w_676 rfl (by decide +kernel) ⟨Nat.le_of_ble_eq_true rfl, Nat.le_of_ble_eq_true rfl⟩) (zc_pre hbase hK hN hQ hG hS) rfl rfl hl.1 rfl (lv_room (Nat.le_of_ble_eq_true rfl)) d_An_init_14 ⟨(by decide), (by decide)⟩) hS (fun G14 H locs hp14 hG hS => ?_)
  obtain ⟨r0, nr0, er0⟩ := hp14
  obtain ⟨G8, eG8⟩ : ∃ z : zg_G, z = zg_up G4 r0 (.inr (0, [.ref (E.2.2.2 0), .int 0, .int 0])) := ⟨_, rfl⟩
  rw [← eG8] at er0
  have nf_r0 : G r0 = none := zx.fr hx5 nr0 (fun h => by (have n9 := nr0; rw [h] at n9; first | (rw [k6] at n9; cases n9)))
  have ne_r0_a : a ≠ r0 := zg_fr nr0 k6
  have k9 : G8 a = some (.inr (1, [.ref zo, .null, .null, .null, .int 0, .int 0])) := by rw [eG8, zg_up_ne ne_r0_a]; exact k6
  have ne_r0_q10 : q10 ≠ r0 := zg_fr nr0 k7
  have k10 : G8 q10 = some (.inr (6, [.null])) := by rw [eG8, zg_up_ne ne_r0_q10]; exact k7
  have k11 : G8 r0 = some (.inr (0, [.ref (E.2.2.2 0), .int 0, .int 0])) := by rw [eG8]; exact zg_up_self _ _ _
  have hx12 : zx (fun q => q = a) G G8 := hx5.tr (by rw [eG8]; exact zx.nw nr0)
  have hx13 : zx (fun q => q = a) G G14 := by rw [er0]; exact hx12.upn nf10
  have k14 : G14 a = some (.inr (1, [.ref zo, .null, .null, .null, .int 0, .int 0])) := by rw [er0, zg_up_ne (ne10_a)]; exact k9
  have k15 : G14 q10 = some (.inr (6, [.ref r0])) := by rw [er0]; exact zg_up_self _ _ _
  have k16 : G14 r0 = some (.inr (0, [.ref (E.2.2.2 0), .int 0, .int 0])) := by rw [er0, zg_up_ne (Ne.symm ne_r0_q10)]; exact k11
  refine zg_putF (ci := 1) (v := .ref q10) (ty := .object "ZoneAnswers$Section") (C := "ZoneAnswers$Answer") (T := T_An) (N := 6) hx hb hts zi_An t_An t_An_ok n_An hown hK hG hS k14 rfl 1 (by decide) (hts _ w_685) (fun _ h9 => h9) rfl hnm rfl (by decide +kernel) rfl rfl (Nat.le_of_ble_eq_true rfl) d_An_init_17 (fun H locs hG hS => ?_)
  obtain ⟨G17, eG17⟩ : ∃ z : zg_G, z = zg_up G14 a (.inr (1, [.ref zo, .ref q10, .null, .null, .int 0, .int 0])) := ⟨_, rfl⟩
  have hG : zP E G17 H := by rw [eG17]; exact hG
  have hx18 : zx (fun q => q = a) G G17 := hx13.tr (by rw [eG17]; exact zx.up (rfl))
  have k19 : G17 a = some (.inr (1, [.ref zo, .ref q10, .null, .null, .int 0, .int 0])) := by rw [eG17]; exact zg_up_self _ _ _
  have k20 : G17 q10 = some (.inr (6, [.ref r0])) := by rw [eG17, zg_up_ne (Ne.symm ne10_a)]; exact k15
  have k21 : G17 r0 = some (.inr (0, [.ref (E.2.2.2 0), .int 0, .int 0])) := by rw [eG17, zg_up_ne (Ne.symm ne_r0_a)]; exact k16
  refine lv_aload_n hx hb d_An_init_20 rfl (lv_at hl 0 rfl) ?_
  refine zg_new (ci := 6) (fs := [.null]) (C := "ZoneAnswers$Section") (T := T_Se) (N := 1) hx hb hts zi_Se t_Se t_Se_ok hown (hts _ w_672) (hts _ w_673) (hts _ w_29) hK hG hS hbase rfl (fun j hj => by rcases (show j = 0 by omega) with rfl <;> rfl) (by decide) (by decide) d_An_init_21 (fun q21 H n21 hG hS => ?_)
  obtain ⟨G22, eG22⟩ : ∃ z : zg_G, z = zg_up G17 q21 (.inr (6, [.null])) := ⟨_, rfl⟩
  have hG : zP E G22 H := by rw [eG22]; exact hG
  have nf21 : G q21 = none := zx.fr hx18 n21 (fun h => by (rw [h] at n21; first | (rw [n21] at k19; cases k19)))
  have hx23 : zx (fun q => q = a) G G22 := hx18.tr (by rw [eG22]; exact zx.nw n21)
  have ne21_a : a ≠ q21 := zg_fr n21 k19
  have k24 : G22 a = some (.inr (1, [.ref zo, .ref q10, .null, .null, .int 0, .int 0])) := by rw [eG22, zg_up_ne (zg_fr n21 k19)]; exact k19
  have ne21_q10 : q10 ≠ q21 := zg_fr n21 k20
  have k25 : G22 q10 = some (.inr (6, [.ref r0])) := by rw [eG22, zg_up_ne (zg_fr n21 k20)]; exact k20
  have ne21_r0 : r0 ≠ q21 := zg_fr n21 k21
  have k26 : G22 r0 = some (.inr (0, [.ref (E.2.2.2 0), .int 0, .int 0])) := by rw [eG22, zg_up_ne (zg_fr n21 k21)]; exact k21
  have k27 : G22 q21 = some (.inr (6, [.null])) := by rw [eG22]; exact zg_up_self _ _ _
  refine lv_dup hx hb d_An_init_24 rfl ?_
  have hGo25 := hG
  refine zk_v (va_runI (As := []) (rest := [.ref q21, .ref a]) ⟨hx, hb, hml, hown, hts⟩ (t_Se_init l E G22 q21 k27) (zcI 0 hts w_674 w_675 w_29 w_676 rfl (by decide +kernel) ⟨Nat.le_of_ble_eq_true rfl, Nat.le_of_ble_eq_true rfl⟩) (zc_pre hbase hK hN hQ hG hS) rfl rfl hl.1 rfl (lv_room (Nat.le_of_ble_eq_true rfl)) d_An_init_25 ⟨(by decide), (by decide)⟩) hS (fun G25 H locs hp25 hG hS => ?_)
  obtain ⟨r1, nr1, er1⟩ := hp25
  obtain ⟨G28, eG28⟩ : ∃ z : zg_G, z = zg_up G22 r1 (.inr (0, [.ref (E.2.2.2 0), .int 0, .int 0])) := ⟨_, rfl⟩
  rw [← eG28] at er1
  have nf_r1 : G r1 = none := zx.fr hx23 nr1 (fun h => by (have n9 := nr1; rw [h] at n9; first | (rw [k24] at n9; cases n9)))
  have ne_r1_a : a ≠ r1 := zg_fr nr1 k24
  have k29 : G28 a = some (.inr (1, [.ref zo, .ref q10, .null, .null, .int 0, .int 0])) := by rw [eG28, zg_up_ne ne_r1_a]; exact k24
  have ne_r1_q10 : q10 ≠ r1 := zg_fr nr1 k25
  have k30 : G28 q10 = some (.inr (6, [.ref r0])) := by rw [eG28, zg_up_ne ne_r1_q10]; exact k25
  have ne_r1_r0 : r0 ≠ r1 := zg_fr nr1 k26
  have k31 : G28 r0 = some (.inr (0, [.ref (E.2.2.2 0), .int 0, .int 0])) := by rw [eG28, zg_up_ne ne_r1_r0]; exact k26
  have ne_r1_q21 : q21 ≠ r1 := zg_fr nr1 k27
  have k32 : G28 q21 = some (.inr (6, [.null])) := by rw [eG28, zg_up_ne ne_r1_q21]; exact k27
  have k33 : G28 r1 = some (.inr (0, [.ref (E.2.2.2 0), .int 0, .int 0])) := by rw [eG28]; exact zg_up_self _ _ _
  have hx34 : zx (fun q => q = a) G G28 := hx23.tr (by rw [eG28]; exact zx.nw nr1)
  have hx35 : zx (fun q => q = a) G G25 := by rw [er1]; exact hx34.upn nf21
  have k36 : G25 a = some (.inr (1, [.ref zo, .ref q10, .null, .null, .int 0, .int 0])) := by rw [er1, zg_up_ne (ne21_a)]; exact k29
  have k37 : G25 q10 = some (.inr (6, [.ref r0])) := by rw [er1, zg_up_ne (ne21_q10)]; exact k30
  have k38 : G25 r0 = some (.inr (0, [.ref (E.2.2.2 0), .int 0, .int 0])) := by rw [er1, zg_up_ne (ne21_r0)]; exact k31
  have k39 : G25 q21 = some (.inr (6, [.ref r1])) := by rw [er1]; exact zg_up_self _ _ _
  have k40 : G25 r1 = some (.inr (0, [.ref (E.2.2.2 0), .int 0, .int 0])) := by rw [er1, zg_up_ne (Ne.symm ne_r1_q21)]; exact k33
  refine zg_putF (ci := 1) (v := .ref q21) (ty := .object "ZoneAnswers$Section") (C := "ZoneAnswers$Answer") (T := T_An) (N := 6) hx hb hts zi_An t_An t_An_ok n_An hown hK hG hS k36 rfl 2 (by decide) (hts _ w_686) (fun _ h9 => h9) rfl hnm rfl (by decide +kernel) rfl rfl (Nat.le_of_ble_eq_true rfl) d_An_init_28 (fun H locs hG hS => ?_)
  obtain ⟨G41, eG41⟩ : ∃ z : zg_G, z = zg_up G25 a (.inr (1, [.ref zo, .ref q10, .ref q21, .null, .int 0, .int 0])) := ⟨_, rfl⟩
  have hG : zP E G41 H := by rw [eG41]; exact hG
  have hx42 : zx (fun q => q = a) G G41 := hx35.tr (by rw [eG41]; exact zx.up (rfl))
  have k43 : G41 a = some (.inr (1, [.ref zo, .ref q10, .ref q21, .null, .int 0, .int 0])) := by rw [eG41]; exact zg_up_self _ _ _
  have k44 : G41 q10 = some (.inr (6, [.ref r0])) := by rw [eG41, zg_up_ne (Ne.symm ne10_a)]; exact k37
  have k45 : G41 r0 = some (.inr (0, [.ref (E.2.2.2 0), .int 0, .int 0])) := by rw [eG41, zg_up_ne (Ne.symm ne_r0_a)]; exact k38
  have k46 : G41 q21 = some (.inr (6, [.ref r1])) := by rw [eG41, zg_up_ne (Ne.symm ne21_a)]; exact k39
  have k47 : G41 r1 = some (.inr (0, [.ref (E.2.2.2 0), .int 0, .int 0])) := by rw [eG41, zg_up_ne (Ne.symm ne_r1_a)]; exact k40
  refine lv_aload_n hx hb d_An_init_31 rfl (lv_at hl 0 rfl) ?_
  refine zg_new (ci := 6) (fs := [.null]) (C := "ZoneAnswers$Section") (T := T_Se) (N := 1) hx hb hts zi_Se t_Se t_Se_ok hown (hts _ w_672) (hts _ w_673) (hts _ w_29) hK hG hS hbase rfl (fun j hj => by rcases (show j = 0 by omega) with rfl <;> rfl) (by decide) (by decide) d_An_init_32 (fun q32 H n32 hG hS => ?_)
  obtain ⟨G48, eG48⟩ : ∃ z : zg_G, z = zg_up G41 q32 (.inr (6, [.null])) := ⟨_, rfl⟩
  have hG : zP E G48 H := by rw [eG48]; exact hG
  have nf32 : G q32 = none := zx.fr hx42 n32 (fun h => by (rw [h] at n32; first | (rw [n32] at k43; cases k43)))
  have hx49 : zx (fun q => q = a) G G48 := hx42.tr (by rw [eG48]; exact zx.nw n32)
  have ne32_a : a ≠ q32 := zg_fr n32 k43
  have k50 : G48 a = some (.inr (1, [.ref zo, .ref q10, .ref q21, .null, .int 0, .int 0])) := by rw [eG48, zg_up_ne (zg_fr n32 k43)]; exact k43
  have ne32_q10 : q10 ≠ q32 := zg_fr n32 k44
  have k51 : G48 q10 = some (.inr (6, [.ref r0])) := by rw [eG48, zg_up_ne (zg_fr n32 k44)]; exact k44
  have ne32_r0 : r0 ≠ q32 := zg_fr n32 k45
  have k52 : G48 r0 = some (.inr (0, [.ref (E.2.2.2 0), .int 0, .int 0])) := by rw [eG48, zg_up_ne (zg_fr n32 k45)]; exact k45
  have ne32_q21 : q21 ≠ q32 := zg_fr n32 k46
  have k53 : G48 q21 = some (.inr (6, [.ref r1])) := by rw [eG48, zg_up_ne (zg_fr n32 k46)]; exact k46
  have ne32_r1 : r1 ≠ q32 := zg_fr n32 k47
  have k54 : G48 r1 = some (.inr (0, [.ref (E.2.2.2 0), .int 0, .int 0])) := by rw [eG48, zg_up_ne (zg_fr n32 k47)]; exact k47
  have k55 : G48 q32 = some (.inr (6, [.null])) := by rw [eG48]; exact zg_up_self _ _ _
  refine lv_dup hx hb d_An_init_35 rfl ?_
  have hGo36 := hG
  refine zk_v (va_runI (As := []) (rest := [.ref q32, .ref a]) ⟨hx, hb, hml, hown, hts⟩ (t_Se_init l E G48 q32 k55) (zcI 0 hts w_674 w_675 w_29 w_676 rfl (by decide +kernel) ⟨Nat.le_of_ble_eq_true rfl, Nat.le_of_ble_eq_true rfl⟩) (zc_pre hbase hK hN hQ hG hS) rfl rfl hl.1 rfl (lv_room (Nat.le_of_ble_eq_true rfl)) d_An_init_36 ⟨(by decide), (by decide)⟩) hS (fun G36 H locs hp36 hG hS => ?_)
  obtain ⟨r2, nr2, er2⟩ := hp36
  obtain ⟨G56, eG56⟩ : ∃ z : zg_G, z = zg_up G48 r2 (.inr (0, [.ref (E.2.2.2 0), .int 0, .int 0])) := ⟨_, rfl⟩
  rw [← eG56] at er2
  have nf_r2 : G r2 = none := zx.fr hx49 nr2 (fun h => by (have n9 := nr2; rw [h] at n9; first | (rw [k50] at n9; cases n9)))
  have ne_r2_a : a ≠ r2 := zg_fr nr2 k50
  have k57 : G56 a = some (.inr (1, [.ref zo, .ref q10, .ref q21, .null, .int 0, .int 0])) := by rw [eG56, zg_up_ne ne_r2_a]; exact k50
  have ne_r2_q10 : q10 ≠ r2 := zg_fr nr2 k51
  have k58 : G56 q10 = some (.inr (6, [.ref r0])) := by rw [eG56, zg_up_ne ne_r2_q10]; exact k51
  have ne_r2_r0 : r0 ≠ r2 := zg_fr nr2 k52
  have k59 : G56 r0 = some (.inr (0, [.ref (E.2.2.2 0), .int 0, .int 0])) := by rw [eG56, zg_up_ne ne_r2_r0]; exact k52
  have ne_r2_q21 : q21 ≠ r2 := zg_fr nr2 k53
  have k60 : G56 q21 = some (.inr (6, [.ref r1])) := by rw [eG56, zg_up_ne ne_r2_q21]; exact k53
  have ne_r2_r1 : r1 ≠ r2 := zg_fr nr2 k54
  have k61 : G56 r1 = some (.inr (0, [.ref (E.2.2.2 0), .int 0, .int 0])) := by rw [eG56, zg_up_ne ne_r2_r1]; exact k54
  have ne_r2_q32 : q32 ≠ r2 := zg_fr nr2 k55
  have k62 : G56 q32 = some (.inr (6, [.null])) := by rw [eG56, zg_up_ne ne_r2_q32]; exact k55
  have k63 : G56 r2 = some (.inr (0, [.ref (E.2.2.2 0), .int 0, .int 0])) := by rw [eG56]; exact zg_up_self _ _ _
  have hx64 : zx (fun q => q = a) G G56 := hx49.tr (by rw [eG56]; exact zx.nw nr2)
  have hx65 : zx (fun q => q = a) G G36 := by rw [er2]; exact hx64.upn nf32
  have k66 : G36 a = some (.inr (1, [.ref zo, .ref q10, .ref q21, .null, .int 0, .int 0])) := by rw [er2, zg_up_ne (ne32_a)]; exact k57
  have k67 : G36 q10 = some (.inr (6, [.ref r0])) := by rw [er2, zg_up_ne (ne32_q10)]; exact k58
  have k68 : G36 r0 = some (.inr (0, [.ref (E.2.2.2 0), .int 0, .int 0])) := by rw [er2, zg_up_ne (ne32_r0)]; exact k59
  have k69 : G36 q21 = some (.inr (6, [.ref r1])) := by rw [er2, zg_up_ne (ne32_q21)]; exact k60
  have k70 : G36 r1 = some (.inr (0, [.ref (E.2.2.2 0), .int 0, .int 0])) := by rw [er2, zg_up_ne (ne32_r1)]; exact k61
  have k71 : G36 q32 = some (.inr (6, [.ref r2])) := by rw [er2]; exact zg_up_self _ _ _
  have k72 : G36 r2 = some (.inr (0, [.ref (E.2.2.2 0), .int 0, .int 0])) := by rw [er2, zg_up_ne (Ne.symm ne_r2_q32)]; exact k63
  refine zg_putF (ci := 1) (v := .ref q32) (ty := .object "ZoneAnswers$Section") (C := "ZoneAnswers$Answer") (T := T_An) (N := 6) hx hb hts zi_An t_An t_An_ok n_An hown hK hG hS k66 rfl 3 (by decide) (hts _ w_687) (fun _ h9 => h9) rfl hnm rfl (by decide +kernel) rfl rfl (Nat.le_of_ble_eq_true rfl) d_An_init_39 (fun H locs hG hS => ?_)
  obtain ⟨G73, eG73⟩ : ∃ z : zg_G, z = zg_up G36 a (.inr (1, [.ref zo, .ref q10, .ref q21, .ref q32, .int 0, .int 0])) := ⟨_, rfl⟩
  have hG : zP E G73 H := by rw [eG73]; exact hG
  have hx74 : zx (fun q => q = a) G G73 := hx65.tr (by rw [eG73]; exact zx.up (rfl))
  have k75 : G73 a = some (.inr (1, [.ref zo, .ref q10, .ref q21, .ref q32, .int 0, .int 0])) := by rw [eG73]; exact zg_up_self _ _ _
  have k76 : G73 q10 = some (.inr (6, [.ref r0])) := by rw [eG73, zg_up_ne (Ne.symm ne10_a)]; exact k67
  have k77 : G73 r0 = some (.inr (0, [.ref (E.2.2.2 0), .int 0, .int 0])) := by rw [eG73, zg_up_ne (Ne.symm ne_r0_a)]; exact k68
  have k78 : G73 q21 = some (.inr (6, [.ref r1])) := by rw [eG73, zg_up_ne (Ne.symm ne21_a)]; exact k69
  have k79 : G73 r1 = some (.inr (0, [.ref (E.2.2.2 0), .int 0, .int 0])) := by rw [eG73, zg_up_ne (Ne.symm ne_r1_a)]; exact k70
  have k80 : G73 q32 = some (.inr (6, [.ref r2])) := by rw [eG73, zg_up_ne (Ne.symm ne32_a)]; exact k71
  have k81 : G73 r2 = some (.inr (0, [.ref (E.2.2.2 0), .int 0, .int 0])) := by rw [eG73, zg_up_ne (Ne.symm ne_r2_a)]; exact k72
  exact hret _ _ _ _ _ _ _ (⟨q10, q21, q32, r0, r1, r2, hx74, k75, k76, k78, k80, k77, k79, k81, ne_r1_r0, ne_r2_r0, ne_r2_r1⟩) hG hS (by decide) (by decide) d_An_init_42
abbrev rm_ZA_init_d : Room := { frames := 12, cells := 40, slots := 600, locals := 440 }
set_option maxHeartbeats 4000000 in
set_option maxRecDepth 100000 in
/-- new ZoneAnswers() -/
theorem t_ZA_init_d (l : Launch) (E : zc_E) (G : zg_G) (a : Nat) (ha : G a = some (.inr (10, [.null, .null, .null]))) : zMv l E y_ZA_init c_ZA_init 1 rm_ZA_init_d [.ref a] G (fun (G2 : zg_G) => ∃ (ta zo an b la x st sd o ol da dx d0 d1 d3 bt s1 s2 s3 r1 r2 r3 : Nat), zx (fun q => q = a) G G2 ∧ zNew E G2 a ta zo an b la x st sd o ol da dx d0 d1 d3 bt s1 s2 s3 r1 r2 r3 ∧ (r1 ≠ r2 ∧ r1 ≠ r3 ∧ r2 ≠ r3)) := by
  refine zMv.of (by decide) (Nat.le_of_ble_eq_true rfl) ?_
  intro p e s m args below meth c Q hZ hG hret ls hl
  obtain ⟨hx, hb, hr, hts, hown, hlocks, hml, hnm, hbase, hK, hN, hQ⟩ := hZ
  have hl : lv_has ls 1 [(0, .ref a)] := hl
  have hS : zg_S (zc_b E) s.heap s.heap [] := va_S.rf
  have hE00 : G (E.2.2.2 0) = none := hQ.out hG
  have hx0 : zx (fun q => q = a) G G := zx.rf
  refine lv_aload_n hx hb d_ZA_init_0 rfl (lv_at hl 0 rfl) ?_
  refine W.objInit hx hb hown (hts _ w_42) (hts _ w_43) (hts _ w_44) rfl (by rw [hml]; exact hl.1) rfl d_ZA_init_1 (Nat.le_of_ble_eq_true rfl) (Nat.le_of_ble_eq_true rfl) ?_
  refine W.eq (g2 := F0 m 4 ls []) rfl ?_
  refine lv_aload_n hx hb d_ZA_init_4 rfl (lv_at hl 0 rfl) ?_
  refine zg_new (ci := 7) (fs := [.null, .int 0]) (C := "ZoneAnswers$Tape") (T := T_Ta) (N := 2) hx hb hts zi_Ta t_Ta t_Ta_ok hown (hts _ w_45) (hts _ w_46) (hts _ w_2) hK hG hS hbase rfl (fun j hj => by rcases (show j = 0 ∨ j = 1 by omega) with rfl | rfl <;> rfl) (by decide) (by decide) d_ZA_init_5 (fun q5 H n5 hG hS => ?_)
  obtain ⟨G1, eG1⟩ : ∃ z : zg_G, z = zg_up G q5 (.inr (7, [.null, .int 0])) := ⟨_, rfl⟩
  have hG : zP E G1 H := by rw [eG1]; exact hG
  have hx2 : zx (fun q => q = a) G G1 := hx0.tr (by rw [eG1]; exact zx.nw n5)
  have ne5_a : a ≠ q5 := zg_fr n5 ha
  have k3 : G1 a = some (.inr (10, [.null, .null, .null])) := by rw [eG1, zg_up_ne (zg_fr n5 ha)]; exact ha
  have k4 : G1 q5 = some (.inr (7, [.null, .int 0])) := by rw [eG1]; exact zg_up_self _ _ _
  refine lv_dup hx hb d_ZA_init_8 rfl ?_
  have hGo9 := hG
  refine zk_v (va_runI (As := []) (rest := [.ref q5, .ref a]) ⟨hx, hb, hml, hown, hts⟩ (t_Ta_init l E G1 q5 k4) (zcI 0 hts w_47 w_48 w_2 w_49 rfl (by decide +kernel) ⟨Nat.le_of_ble_eq_true rfl, Nat.le_of_ble_eq_true rfl⟩) (zc_pre hbase hK hN hQ hG hS) rfl rfl hl.1 rfl (lv_room (Nat.le_of_ble_eq_true rfl)) d_ZA_init_9 ⟨(by decide), (by decide)⟩) hS (fun G9 H locs hp9 hG hS => ?_)
  obtain ⟨tb, ntb, etb⟩ := hp9
  obtain ⟨G5, eG5⟩ : ∃ z : zg_G, z = zg_up G1 tb (.inl (E.2.1 0, 256, .inl (fun _ => 0))) := ⟨_, rfl⟩
  rw [← eG5] at etb
  have nf_tb : G tb = none := zx.fr hx2 ntb (fun h => by (have n9 := ntb; rw [h] at n9; first | (rw [k3] at n9; cases n9)))
  have ne_tb_a : a ≠ tb := zg_fr ntb k3
  have k6 : G5 a = some (.inr (10, [.null, .null, .null])) := by rw [eG5, zg_up_ne ne_tb_a]; exact k3
  have ne_tb_q5 : q5 ≠ tb := zg_fr ntb k4
  have k7 : G5 q5 = some (.inr (7, [.null, .int 0])) := by rw [eG5, zg_up_ne ne_tb_q5]; exact k4
  have k8 : G5 tb = some (.inl (E.2.1 0, 256, .inl (fun _ => 0))) := by rw [eG5]; exact zg_up_self _ _ _
  have hx9 : zx (fun q => q = a) G G5 := hx2.tr (by rw [eG5]; exact zx.nw ntb)
  have hx10 : zx (fun q => q = a) G G9 := by rw [etb]; exact hx9.upn n5
  have k11 : G9 a = some (.inr (10, [.null, .null, .null])) := by rw [etb, zg_up_ne (ne5_a)]; exact k6
  have k12 : G9 q5 = some (.inr (7, [.ref tb, .int 0])) := by rw [etb]; exact zg_up_self _ _ _
  have k13 : G9 tb = some (.inl (E.2.1 0, 256, .inl (fun _ => 0))) := by rw [etb, zg_up_ne (Ne.symm ne_tb_q5)]; exact k8
  refine zg_putF (ci := 10) (v := .ref q5) (ty := .object "ZoneAnswers$Tape") (C := "ZoneAnswers") (T := T_ZA) (N := 3) hx hb hts zi_ZA t_ZA t_ZA_ok n_ZA hown hK hG hS k11 rfl 0 (by decide) (hts _ w_703) (fun _ h9 => h9) rfl hnm rfl (by decide +kernel) rfl rfl (Nat.le_of_ble_eq_true rfl) d_ZA_init_12 (fun H locs hG hS => ?_)
  obtain ⟨G14, eG14⟩ : ∃ z : zg_G, z = zg_up G9 a (.inr (10, [.ref q5, .null, .null])) := ⟨_, rfl⟩
  have hG : zP E G14 H := by rw [eG14]; exact hG
  have hx15 : zx (fun q => q = a) G G14 := hx10.tr (by rw [eG14]; exact zx.up (rfl))
  have k16 : G14 a = some (.inr (10, [.ref q5, .null, .null])) := by rw [eG14]; exact zg_up_self _ _ _
  have k17 : G14 q5 = some (.inr (7, [.ref tb, .int 0])) := by rw [eG14, zg_up_ne (Ne.symm ne5_a)]; exact k12
  have k18 : G14 tb = some (.inl (E.2.1 0, 256, .inl (fun _ => 0))) := by rw [eG14, zg_up_ne (Ne.symm ne_tb_a)]; exact k13
  refine lv_aload_n hx hb d_ZA_init_15 rfl (lv_at hl 0 rfl) ?_
  refine zg_new (ci := 9) (fs := [.null, .null, .null, .null, .int 0]) (C := "ZoneAnswers$Zone") (T := T_Zo) (N := 5) hx hb hts zi_Zo t_Zo t_Zo_ok hown (hts _ w_59) (hts _ w_60) (hts _ w_3) hK hG hS hbase rfl (fun j hj => by rcases (show j = 0 ∨ j = 1 ∨ j = 2 ∨ j = 3 ∨ j = 4 by omega) with rfl | rfl | rfl | rfl | rfl <;> rfl) (by decide) (by decide) d_ZA_init_16 (fun q16 H n16 hG hS => ?_)
  obtain ⟨G19, eG19⟩ : ∃ z : zg_G, z = zg_up G14 q16 (.inr (9, [.null, .null, .null, .null, .int 0])) := ⟨_, rfl⟩
  have hG : zP E G19 H := by rw [eG19]; exact hG
  have nf16 : G q16 = none := zx.fr hx15 n16 (fun h => by (rw [h] at n16; first | (rw [n16] at k16; cases k16)))
  have hx20 : zx (fun q => q = a) G G19 := hx15.tr (by rw [eG19]; exact zx.nw n16)
  have ne16_a : a ≠ q16 := zg_fr n16 k16
  have k21 : G19 a = some (.inr (10, [.ref q5, .null, .null])) := by rw [eG19, zg_up_ne (zg_fr n16 k16)]; exact k16
  have ne16_q5 : q5 ≠ q16 := zg_fr n16 k17
  have k22 : G19 q5 = some (.inr (7, [.ref tb, .int 0])) := by rw [eG19, zg_up_ne (zg_fr n16 k17)]; exact k17
  have ne16_tb : tb ≠ q16 := zg_fr n16 k18
  have k23 : G19 tb = some (.inl (E.2.1 0, 256, .inl (fun _ => 0))) := by rw [eG19, zg_up_ne (zg_fr n16 k18)]; exact k18
  have k24 : G19 q16 = some (.inr (9, [.null, .null, .null, .null, .int 0])) := by rw [eG19]; exact zg_up_self _ _ _
  refine lv_dup hx hb d_ZA_init_19 rfl ?_
  have hGo20 := hG
  refine zk_v (va_runI (As := []) (rest := [.ref q16, .ref a]) ⟨hx, hb, hml, hown, hts⟩ (t_Zo_init l E G19 q16 k24) (zcI 0 hts w_61 w_62 w_3 w_63 rfl (by decide +kernel) ⟨Nat.le_of_ble_eq_true rfl, Nat.le_of_ble_eq_true rfl⟩) (zc_pre hbase hK hN hQ hG hS) rfl rfl hl.1 rfl (lv_room (Nat.le_of_ble_eq_true rfl)) d_ZA_init_20 ⟨(by decide), (by decide)⟩) hS (fun G20 H locs hp20 hG hS => ?_)
  obtain ⟨zl, nzl, ezl⟩ := hp20
  obtain ⟨G25, eG25⟩ : ∃ z : zg_G, z = zg_up G19 zl (.inr (0, [.ref (E.2.2.2 0), .int 0, .int 0])) := ⟨_, rfl⟩
  rw [← eG25] at ezl
  have nf_zl : G zl = none := zx.fr hx20 nzl (fun h => by (have n9 := nzl; rw [h] at n9; first | (rw [k21] at n9; cases n9)))
  have ne_zl_a : a ≠ zl := zg_fr nzl k21
  have k26 : G25 a = some (.inr (10, [.ref q5, .null, .null])) := by rw [eG25, zg_up_ne ne_zl_a]; exact k21
  have ne_zl_q5 : q5 ≠ zl := zg_fr nzl k22
  have k27 : G25 q5 = some (.inr (7, [.ref tb, .int 0])) := by rw [eG25, zg_up_ne ne_zl_q5]; exact k22
  have ne_zl_tb : tb ≠ zl := zg_fr nzl k23
  have k28 : G25 tb = some (.inl (E.2.1 0, 256, .inl (fun _ => 0))) := by rw [eG25, zg_up_ne ne_zl_tb]; exact k23
  have ne_zl_q16 : q16 ≠ zl := zg_fr nzl k24
  have k29 : G25 q16 = some (.inr (9, [.null, .null, .null, .null, .int 0])) := by rw [eG25, zg_up_ne ne_zl_q16]; exact k24
  have k30 : G25 zl = some (.inr (0, [.ref (E.2.2.2 0), .int 0, .int 0])) := by rw [eG25]; exact zg_up_self _ _ _
  have hx31 : zx (fun q => q = a) G G25 := hx20.tr (by rw [eG25]; exact zx.nw nzl)
  have hx32 : zx (fun q => q = a) G G20 := by rw [ezl]; exact hx31.upn nf16
  have k33 : G20 a = some (.inr (10, [.ref q5, .null, .null])) := by rw [ezl, zg_up_ne (ne16_a)]; exact k26
  have k34 : G20 q5 = some (.inr (7, [.ref tb, .int 0])) := by rw [ezl, zg_up_ne (ne16_q5)]; exact k27
  have k35 : G20 tb = some (.inl (E.2.1 0, 256, .inl (fun _ => 0))) := by rw [ezl, zg_up_ne (ne16_tb)]; exact k28
  have k36 : G20 q16 = some (.inr (9, [.ref zl, .null, .null, .null, .int 0])) := by rw [ezl]; exact zg_up_self _ _ _
  have k37 : G20 zl = some (.inr (0, [.ref (E.2.2.2 0), .int 0, .int 0])) := by rw [ezl, zg_up_ne (Ne.symm ne_zl_q16)]; exact k30
  refine zg_putF (ci := 10) (v := .ref q16) (ty := .object "ZoneAnswers$Zone") (C := "ZoneAnswers") (T := T_ZA) (N := 3) hx hb hts zi_ZA t_ZA t_ZA_ok n_ZA hown hK hG hS k33 rfl 1 (by decide) (hts _ w_704) (fun _ h9 => h9) rfl hnm rfl (by decide +kernel) rfl rfl (Nat.le_of_ble_eq_true rfl) d_ZA_init_23 (fun H locs hG hS => ?_)
  obtain ⟨G38, eG38⟩ : ∃ z : zg_G, z = zg_up G20 a (.inr (10, [.ref q5, .ref q16, .null])) := ⟨_, rfl⟩
  have hG : zP E G38 H := by rw [eG38]; exact hG
  have hx39 : zx (fun q => q = a) G G38 := hx32.tr (by rw [eG38]; exact zx.up (rfl))
  have k40 : G38 a = some (.inr (10, [.ref q5, .ref q16, .null])) := by rw [eG38]; exact zg_up_self _ _ _
  have k41 : G38 q5 = some (.inr (7, [.ref tb, .int 0])) := by rw [eG38, zg_up_ne (Ne.symm ne5_a)]; exact k34
  have k42 : G38 tb = some (.inl (E.2.1 0, 256, .inl (fun _ => 0))) := by rw [eG38, zg_up_ne (Ne.symm ne_tb_a)]; exact k35
  have k43 : G38 q16 = some (.inr (9, [.ref zl, .null, .null, .null, .int 0])) := by rw [eG38, zg_up_ne (Ne.symm ne16_a)]; exact k36
  have k44 : G38 zl = some (.inr (0, [.ref (E.2.2.2 0), .int 0, .int 0])) := by rw [eG38, zg_up_ne (Ne.symm ne_zl_a)]; exact k37
  refine lv_aload_n hx hb d_ZA_init_26 rfl (lv_at hl 0 rfl) ?_
  refine zg_get (ci := 10) (C := "ZoneAnswers") (T := T_ZA) (N := 3) hx hb hts zi_ZA hown hK hG k40 rfl 1 (by decide) (hts _ w_704) (fun _ h9 => h9) rfl d_ZA_init_27 ?_
  refine zg_new (ci := 3) (fs := [.null, .int 0]) (C := "ZoneAnswers$Name") (T := T_Na) (N := 2) hx hb hts zi_Na t_Na t_Na_ok hown (hts _ w_107) (hts _ w_108) (hts _ w_7) hK hG hS hbase rfl (fun j hj => by rcases (show j = 0 ∨ j = 1 by omega) with rfl | rfl <;> rfl) (by decide) (by decide) d_ZA_init_30 (fun q30 H n30 hG hS => ?_)
  obtain ⟨G45, eG45⟩ : ∃ z : zg_G, z = zg_up G38 q30 (.inr (3, [.null, .int 0])) := ⟨_, rfl⟩
  have hG : zP E G45 H := by rw [eG45]; exact hG
  have nf30 : G q30 = none := zx.fr hx39 n30 (fun h => by (rw [h] at n30; first | (rw [n30] at k40; cases k40)))
  have hx46 : zx (fun q => q = a) G G45 := hx39.tr (by rw [eG45]; exact zx.nw n30)
  have ne30_a : a ≠ q30 := zg_fr n30 k40
  have k47 : G45 a = some (.inr (10, [.ref q5, .ref q16, .null])) := by rw [eG45, zg_up_ne (zg_fr n30 k40)]; exact k40
  have ne30_q5 : q5 ≠ q30 := zg_fr n30 k41
  have k48 : G45 q5 = some (.inr (7, [.ref tb, .int 0])) := by rw [eG45, zg_up_ne (zg_fr n30 k41)]; exact k41
  have ne30_tb : tb ≠ q30 := zg_fr n30 k42
  have k49 : G45 tb = some (.inl (E.2.1 0, 256, .inl (fun _ => 0))) := by rw [eG45, zg_up_ne (zg_fr n30 k42)]; exact k42
  have ne30_q16 : q16 ≠ q30 := zg_fr n30 k43
  have k50 : G45 q16 = some (.inr (9, [.ref zl, .null, .null, .null, .int 0])) := by rw [eG45, zg_up_ne (zg_fr n30 k43)]; exact k43
  have ne30_zl : zl ≠ q30 := zg_fr n30 k44
  have k51 : G45 zl = some (.inr (0, [.ref (E.2.2.2 0), .int 0, .int 0])) := by rw [eG45, zg_up_ne (zg_fr n30 k44)]; exact k44
  have k52 : G45 q30 = some (.inr (3, [.null, .int 0])) := by rw [eG45]; exact zg_up_self _ _ _
  refine lv_dup hx hb d_ZA_init_33 rfl ?_
  refine lv_iconst (v := 1) hx hb d_ZA_init_34 (by decide) ?_
  refine zg_newp (atype := .byte) (ty := .byte) (N' := 1) (a0 := (1, .inl (fun _ => 0))) hx hb (hts _ w_58) rfl hK hG hS hbase (fun _ => rfl) (by decide) (by decide) (by show _ * _ ≤ _; simp only [componentBytes]; omega) (by decide) (by decide) d_ZA_init_35 0 rfl (fun _ h => h) (fun q35 H n35 hG hS => ?_)
  obtain ⟨G53, eG53⟩ : ∃ z : zg_G, z = zg_up G45 q35 (.inl (E.2.1 0, 1, .inl (fun _ => 0))) := ⟨_, rfl⟩
  have hG : zP E G53 H := by rw [eG53]; exact hG
  have nf35 : G q35 = none := zx.fr hx46 n35 (fun h => by (rw [h] at n35; first | (rw [n35] at k47; cases k47)))
  have hx54 : zx (fun q => q = a) G G53 := hx46.tr (by rw [eG53]; exact zx.nw n35)
  have ne35_a : a ≠ q35 := zg_fr n35 k47
  have k55 : G53 a = some (.inr (10, [.ref q5, .ref q16, .null])) := by rw [eG53, zg_up_ne (zg_fr n35 k47)]; exact k47
  have ne35_q5 : q5 ≠ q35 := zg_fr n35 k48
  have k56 : G53 q5 = some (.inr (7, [.ref tb, .int 0])) := by rw [eG53, zg_up_ne (zg_fr n35 k48)]; exact k48
  have ne35_tb : tb ≠ q35 := zg_fr n35 k49
  have k57 : G53 tb = some (.inl (E.2.1 0, 256, .inl (fun _ => 0))) := by rw [eG53, zg_up_ne (zg_fr n35 k49)]; exact k49
  have ne35_q16 : q16 ≠ q35 := zg_fr n35 k50
  have k58 : G53 q16 = some (.inr (9, [.ref zl, .null, .null, .null, .int 0])) := by rw [eG53, zg_up_ne (zg_fr n35 k50)]; exact k50
  have ne35_zl : zl ≠ q35 := zg_fr n35 k51
  have k59 : G53 zl = some (.inr (0, [.ref (E.2.2.2 0), .int 0, .int 0])) := by rw [eG53, zg_up_ne (zg_fr n35 k51)]; exact k51
  have ne35_q30 : q30 ≠ q35 := zg_fr n35 k52
  have k60 : G53 q30 = some (.inr (3, [.null, .int 0])) := by rw [eG53, zg_up_ne (zg_fr n35 k52)]; exact k52
  have k61 : G53 q35 = some (.inl (E.2.1 0, 1, .inl (fun _ => 0))) := by rw [eG53]; exact zg_up_self _ _ _
  have hGo37 := hG
  refine zk_v (va_runI (As := [.ref q35]) (rest := [.ref q30, .ref q16]) ⟨hx, hb, hml, hown, hts⟩ (t_Na_init l E G53 q30 q35 [] (fun _ => 0) k61 (fun j hj => by rw [show j = 0 by (have : np_len [] = 1 := rfl); omega]; rfl) ⟨fun l hl => absurd hl List.not_mem_nil, by decide⟩ k60) (zcI 1 hts w_109 w_110 w_7 w_111 rfl (by decide +kernel) ⟨Nat.le_of_ble_eq_true rfl, Nat.le_of_ble_eq_true rfl⟩) (zc_pre hbase hK hN hQ hG hS) rfl rfl hl.1 rfl (lv_room (Nat.le_of_ble_eq_true rfl)) d_ZA_init_37 ⟨(by decide), (by decide)⟩) hS (fun G37 H locs hp37 hG hS => ?_)
  have hx62 : zx (fun q => q = a) G G37 := by rw [hp37]; exact hx54.upn nf30
  have k63 : G37 a = some (.inr (10, [.ref q5, .ref q16, .null])) := by rw [hp37, zg_up_ne (ne30_a)]; exact k55
  have k64 : G37 q5 = some (.inr (7, [.ref tb, .int 0])) := by rw [hp37, zg_up_ne (ne30_q5)]; exact k56
  have k65 : G37 tb = some (.inl (E.2.1 0, 256, .inl (fun _ => 0))) := by rw [hp37, zg_up_ne (ne30_tb)]; exact k57
  have k66 : G37 q16 = some (.inr (9, [.ref zl, .null, .null, .null, .int 0])) := by rw [hp37, zg_up_ne (ne30_q16)]; exact k58
  have k67 : G37 zl = some (.inr (0, [.ref (E.2.2.2 0), .int 0, .int 0])) := by rw [hp37, zg_up_ne (ne30_zl)]; exact k59
  have k68 : G37 q30 = some (.inr (3, [.ref q35, .int (nI 0)])) := by rw [hp37]; exact zg_up_self _ _ _
  have k69 : G37 q35 = some (.inl (E.2.1 0, 1, .inl (fun _ => 0))) := by rw [hp37, zg_up_ne (Ne.symm ne35_q30)]; exact k61
  refine lv_bipush (v := 22) hx hb d_ZA_init_40 (by decide) ?_
  refine zg_newp (atype := .byte) (ty := .byte) (N' := 22) (a0 := (22, .inl (fun _ => 0))) hx hb (hts _ w_58) rfl hK hG hS hbase (fun _ => rfl) (by decide) (by decide) (by show _ * _ ≤ _; simp only [componentBytes]; omega) (by decide) (by decide) d_ZA_init_42 0 rfl (fun _ h => h) (fun q42 H n42 hG hS => ?_)
  obtain ⟨G70, eG70⟩ : ∃ z : zg_G, z = zg_up G37 q42 (.inl (E.2.1 0, 22, .inl (fun _ => 0))) := ⟨_, rfl⟩
  have hG : zP E G70 H := by rw [eG70]; exact hG
  have nf42 : G q42 = none := zx.fr hx62 n42 (fun h => by (rw [h] at n42; first | (rw [n42] at k63; cases k63)))
  have hx71 : zx (fun q => q = a) G G70 := hx62.tr (by rw [eG70]; exact zx.nw n42)
  have ne42_a : a ≠ q42 := zg_fr n42 k63
  have k72 : G70 a = some (.inr (10, [.ref q5, .ref q16, .null])) := by rw [eG70, zg_up_ne (zg_fr n42 k63)]; exact k63
  have ne42_q5 : q5 ≠ q42 := zg_fr n42 k64
  have k73 : G70 q5 = some (.inr (7, [.ref tb, .int 0])) := by rw [eG70, zg_up_ne (zg_fr n42 k64)]; exact k64
  have ne42_tb : tb ≠ q42 := zg_fr n42 k65
  have k74 : G70 tb = some (.inl (E.2.1 0, 256, .inl (fun _ => 0))) := by rw [eG70, zg_up_ne (zg_fr n42 k65)]; exact k65
  have ne42_q16 : q16 ≠ q42 := zg_fr n42 k66
  have k75 : G70 q16 = some (.inr (9, [.ref zl, .null, .null, .null, .int 0])) := by rw [eG70, zg_up_ne (zg_fr n42 k66)]; exact k66
  have ne42_zl : zl ≠ q42 := zg_fr n42 k67
  have k76 : G70 zl = some (.inr (0, [.ref (E.2.2.2 0), .int 0, .int 0])) := by rw [eG70, zg_up_ne (zg_fr n42 k67)]; exact k67
  have ne42_q30 : q30 ≠ q42 := zg_fr n42 k68
  have k77 : G70 q30 = some (.inr (3, [.ref q35, .int (nI 0)])) := by rw [eG70, zg_up_ne (zg_fr n42 k68)]; exact k68
  have ne42_q35 : q35 ≠ q42 := zg_fr n42 k69
  have k78 : G70 q35 = some (.inl (E.2.1 0, 1, .inl (fun _ => 0))) := by rw [eG70, zg_up_ne (zg_fr n42 k69)]; exact k69
  have k79 : G70 q42 = some (.inl (E.2.1 0, 22, .inl (fun _ => 0))) := by rw [eG70]; exact zg_up_self _ _ _
  refine lv_iconst (v := 0) hx hb d_ZA_init_44 (by decide) ?_
  have hGo45 := hG
  refine zk_v (va_runV (As := [.ref q30, .ref q42, .int 0]) (rest := []) ⟨hx, hb, hml, hown, hts⟩ (t_Zo_begin_e l E G70 q16 zl .null .null .null 0 k75 0 k76 q42 22 (fun _ => 0) k79 zf_fit0 (by decide) (by decide) (by decide) q30 (.ref q35) (.int (nI 0)) k77 0) (zcV 3 hts w_125 w_126 w_127 w_3 w_128 (by decide +kernel) ⟨Nat.le_of_ble_eq_true rfl, Nat.le_of_ble_eq_true rfl⟩) (zc_preV hbase hK hN hQ hG hS k75 rfl) rfl rfl hl.1 rfl (lv_room (Nat.le_of_ble_eq_true rfl)) d_ZA_init_45 ⟨(by decide), (by decide)⟩) hS (fun G45 H locs hp45 hG hS => ?_)
  obtain ⟨o, ol, st, da, sd, dx, d0, d1, d3, k0x, c0x, f0x, k1x, c1x, f1x, k3x, c3x, f3x, no, nst, nsd, hx45, hya, hyl, hyd0, hyr0, hyo, hyol, hyd1, hyr1, hyst, hyda, hyd3, hyr3, hydx, hysd⟩ := hp45
  have k80 : G45 a = some (.inr (10, [.ref q5, .ref q16, .null])) := hx45 a _ (fun z => z.elim (ne16_a) (ne_zl_a)) k72
  have k81 : G45 q5 = some (.inr (7, [.ref tb, .int 0])) := hx45 q5 _ (fun z => z.elim (ne16_q5) (ne_zl_q5)) k73
  have k82 : G45 tb = some (.inl (E.2.1 0, 256, .inl (fun _ => 0))) := hx45 tb _ (fun z => z.elim (ne16_tb) (ne_zl_tb)) k74
  have k83 : G45 q30 = some (.inr (3, [.ref q35, .int (nI 0)])) := hx45 q30 _ (fun z => z.elim (Ne.symm ne30_q16) (Ne.symm ne30_zl)) k77
  have k84 : G45 q35 = some (.inl (E.2.1 0, 1, .inl (fun _ => 0))) := hx45 q35 _ (fun z => z.elim (Ne.symm ne35_q16) (Ne.symm ne35_zl)) k78
  have k85 : G45 q42 = some (.inl (E.2.1 0, 22, .inl (fun _ => 0))) := hx45 q42 _ (fun z => z.elim (Ne.symm ne42_q16) (Ne.symm ne42_zl)) k79
  have hx86 : zx (fun q => q = a) G G45 := fun q x hs hq => hx45 q x (fun z => z.elim (fun z => by rw [z, nf16] at hq; cases hq) (fun z => by rw [z, nf_zl] at hq; cases hq)) (hx71 q x hs hq)
  refine lv_aload_n hx hb d_ZA_init_48 rfl (lv_at hl 0 rfl) ?_
  refine zg_new (ci := 1) (fs := [.null, .null, .null, .null, .int 0, .int 0]) (C := "ZoneAnswers$Answer") (T := T_An) (N := 6) hx hb hts zi_An t_An t_An_ok hown (hts _ w_666) (hts _ w_667) (hts _ w_28) hK hG hS hbase rfl (fun j hj => by rcases (show j = 0 ∨ j = 1 ∨ j = 2 ∨ j = 3 ∨ j = 4 ∨ j = 5 by omega) with rfl | rfl | rfl | rfl | rfl | rfl <;> rfl) (by decide) (by decide) d_ZA_init_49 (fun q49 H n49 hG hS => ?_)
  obtain ⟨G87, eG87⟩ : ∃ z : zg_G, z = zg_up G45 q49 (.inr (1, [.null, .null, .null, .null, .int 0, .int 0])) := ⟨_, rfl⟩
  have hG : zP E G87 H := by rw [eG87]; exact hG
  have nf49 : G q49 = none := zx.fr hx86 n49 (fun h => by (rw [h] at n49; first | (rw [n49] at k80; cases k80)))
  have hx88 : zx (fun q => q = a) G G87 := hx86.tr (by rw [eG87]; exact zx.nw n49)
  have ne49_a : a ≠ q49 := zg_fr n49 k80
  have k89 : G87 a = some (.inr (10, [.ref q5, .ref q16, .null])) := by rw [eG87, zg_up_ne (zg_fr n49 k80)]; exact k80
  have ne49_q5 : q5 ≠ q49 := zg_fr n49 k81
  have k90 : G87 q5 = some (.inr (7, [.ref tb, .int 0])) := by rw [eG87, zg_up_ne (zg_fr n49 k81)]; exact k81
  have ne49_tb : tb ≠ q49 := zg_fr n49 k82
  have k91 : G87 tb = some (.inl (E.2.1 0, 256, .inl (fun _ => 0))) := by rw [eG87, zg_up_ne (zg_fr n49 k82)]; exact k82
  have ne49_q30 : q30 ≠ q49 := zg_fr n49 k83
  have k92 : G87 q30 = some (.inr (3, [.ref q35, .int (nI 0)])) := by rw [eG87, zg_up_ne (zg_fr n49 k83)]; exact k83
  have ne49_q35 : q35 ≠ q49 := zg_fr n49 k84
  have k93 : G87 q35 = some (.inl (E.2.1 0, 1, .inl (fun _ => 0))) := by rw [eG87, zg_up_ne (zg_fr n49 k84)]; exact k84
  have ne49_q42 : q42 ≠ q49 := zg_fr n49 k85
  have k94 : G87 q42 = some (.inl (E.2.1 0, 22, .inl (fun _ => 0))) := by rw [eG87, zg_up_ne (zg_fr n49 k85)]; exact k85
  have ne49_q16 : q16 ≠ q49 := zg_fr n49 hya
  have k95 : G87 q16 = some (.inr (9, [.ref zl, .ref q30, .ref st, .ref sd, .int (0 + 1)])) := by rw [eG87, zg_up_ne (zg_fr n49 hya)]; exact hya
  have ne49_zl : zl ≠ q49 := zg_fr n49 hyl
  have k96 : G87 zl = some (.inr (0, [.ref d0, .int (nI 1), .int k0x])) := by rw [eG87, zg_up_ne (zg_fr n49 hyl)]; exact hyl
  have ne49_d0 : d0 ≠ q49 := zg_fr n49 hyd0
  have k97 : G87 d0 = some (.inl (E.2.1 3, c0x, .inr (.inr (.inr (.inr f0x))))) := by rw [eG87, zg_up_ne (zg_fr n49 hyd0)]; exact hyd0
  have ne49_o : o ≠ q49 := zg_fr n49 hyo
  have k98 : G87 o = some (.inr (4, [.ref q30, .ref ol, .null])) := by rw [eG87, zg_up_ne (zg_fr n49 hyo)]; exact hyo
  have ne49_ol : ol ≠ q49 := zg_fr n49 hyol
  have k99 : G87 ol = some (.inr (0, [.ref d1, .int (nI 1), .int k1x])) := by rw [eG87, zg_up_ne (zg_fr n49 hyol)]; exact hyol
  have ne49_d1 : d1 ≠ q49 := zg_fr n49 hyd1
  have k100 : G87 d1 = some (.inl (E.2.1 3, c1x, .inr (.inr (.inr (.inr f1x))))) := by rw [eG87, zg_up_ne (zg_fr n49 hyd1)]; exact hyd1
  have ne49_st : st ≠ q49 := zg_fr n49 hyst
  have k101 : G87 st = some (.inr (5, [.int 6, .int 0, .ref da])) := by rw [eG87, zg_up_ne (zg_fr n49 hyst)]; exact hyst
  have ne49_da : da ≠ q49 := zg_fr n49 hyda
  have k102 : G87 da = some (.inr (0, [.ref d3, .int (nI 1), .int k3x])) := by rw [eG87, zg_up_ne (zg_fr n49 hyda)]; exact hyda
  have ne49_d3 : d3 ≠ q49 := zg_fr n49 hyd3
  have k103 : G87 d3 = some (.inl (E.2.1 3, c3x, .inr (.inr (.inr (.inr f3x))))) := by rw [eG87, zg_up_ne (zg_fr n49 hyd3)]; exact hyd3
  have ne49_dx : dx ≠ q49 := zg_fr n49 hydx
  have k104 : G87 dx = some (.inr (2, [.ref sd, .null])) := by rw [eG87, zg_up_ne (zg_fr n49 hydx)]; exact hydx
  have ne49_sd : sd ≠ q49 := zg_fr n49 hysd
  have k105 : G87 sd = some (.inl (E.2.1 0, 22, .inl (zw4 (fun _ => 0) (22 - 20) 1))) := by rw [eG87, zg_up_ne (zg_fr n49 hysd)]; exact hysd
  have k106 : G87 q49 = some (.inr (1, [.null, .null, .null, .null, .int 0, .int 0])) := by rw [eG87]; exact zg_up_self _ _ _
  refine lv_dup hx hb d_ZA_init_52 rfl ?_
  refine lv_aload_n hx hb d_ZA_init_53 rfl (lv_at hl 0 rfl) ?_
  refine zg_get (ci := 10) (C := "ZoneAnswers") (T := T_ZA) (N := 3) hx hb hts zi_ZA hown hK hG k89 rfl 1 (by decide) (hts _ w_704) (fun _ h9 => h9) rfl d_ZA_init_54 ?_
  have hGo57 := hG
  refine zk_v (va_runI (As := [.ref q16]) (rest := [.ref q49, .ref a]) ⟨hx, hb, hml, hown, hts⟩ (t_An_init_d l E G87 q49 q16 k106) (zcI 1 hts w_668 w_669 w_28 w_670 rfl (by decide +kernel) ⟨Nat.le_of_ble_eq_true rfl, Nat.le_of_ble_eq_true rfl⟩) (zc_pre hbase hK hN hQ hG hS) rfl rfl hl.1 rfl (lv_room (Nat.le_of_ble_eq_true rfl)) d_ZA_init_57 ⟨(by decide), (by decide)⟩) hS (fun G57 H locs hp57 hG hS => ?_)
  obtain ⟨s1, s2, s3, r1, r2, r3, hx57, hwa, hs1, hs2, hs3, hr1, hr2, hr3, hnr⟩ := hp57
  have k107 : G57 a = some (.inr (10, [.ref q5, .ref q16, .null])) := hx57 a _ (ne49_a) k89
  have k108 : G57 q5 = some (.inr (7, [.ref tb, .int 0])) := hx57 q5 _ (ne49_q5) k90
  have k109 : G57 tb = some (.inl (E.2.1 0, 256, .inl (fun _ => 0))) := hx57 tb _ (ne49_tb) k91
  have k110 : G57 q30 = some (.inr (3, [.ref q35, .int (nI 0)])) := hx57 q30 _ (ne49_q30) k92
  have k111 : G57 q35 = some (.inl (E.2.1 0, 1, .inl (fun _ => 0))) := hx57 q35 _ (ne49_q35) k93
  have k112 : G57 q42 = some (.inl (E.2.1 0, 22, .inl (fun _ => 0))) := hx57 q42 _ (ne49_q42) k94
  have k113 : G57 q16 = some (.inr (9, [.ref zl, .ref q30, .ref st, .ref sd, .int (0 + 1)])) := hx57 q16 _ (ne49_q16) k95
  have k114 : G57 zl = some (.inr (0, [.ref d0, .int (nI 1), .int k0x])) := hx57 zl _ (ne49_zl) k96
  have k115 : G57 d0 = some (.inl (E.2.1 3, c0x, .inr (.inr (.inr (.inr f0x))))) := hx57 d0 _ (ne49_d0) k97
  have k116 : G57 o = some (.inr (4, [.ref q30, .ref ol, .null])) := hx57 o _ (ne49_o) k98
  have k117 : G57 ol = some (.inr (0, [.ref d1, .int (nI 1), .int k1x])) := hx57 ol _ (ne49_ol) k99
  have k118 : G57 d1 = some (.inl (E.2.1 3, c1x, .inr (.inr (.inr (.inr f1x))))) := hx57 d1 _ (ne49_d1) k100
  have k119 : G57 st = some (.inr (5, [.int 6, .int 0, .ref da])) := hx57 st _ (ne49_st) k101
  have k120 : G57 da = some (.inr (0, [.ref d3, .int (nI 1), .int k3x])) := hx57 da _ (ne49_da) k102
  have k121 : G57 d3 = some (.inl (E.2.1 3, c3x, .inr (.inr (.inr (.inr f3x))))) := hx57 d3 _ (ne49_d3) k103
  have k122 : G57 dx = some (.inr (2, [.ref sd, .null])) := hx57 dx _ (ne49_dx) k104
  have k123 : G57 sd = some (.inl (E.2.1 0, 22, .inl (zw4 (fun _ => 0) (22 - 20) 1))) := hx57 sd _ (ne49_sd) k105
  have hx124 : zx (fun q => q = a) G G57 := fun q x hs hq => hx57 q x (fun z => by rw [z, nf49] at hq; cases hq) (hx88 q x hs hq)
  refine zg_putF (ci := 10) (v := .ref q49) (ty := .object "ZoneAnswers$Answer") (C := "ZoneAnswers") (T := T_ZA) (N := 3) hx hb hts zi_ZA t_ZA t_ZA_ok n_ZA hown hK hG hS k107 rfl 2 (by decide) (hts _ w_705) (fun _ h9 => h9) rfl hnm rfl (by decide +kernel) rfl rfl (Nat.le_of_ble_eq_true rfl) d_ZA_init_60 (fun H locs hG hS => ?_)
  obtain ⟨G125, eG125⟩ : ∃ z : zg_G, z = zg_up G57 a (.inr (10, [.ref q5, .ref q16, .ref q49])) := ⟨_, rfl⟩
  have hG : zP E G125 H := by rw [eG125]; exact hG
  have hx126 : zx (fun q => q = a) G G125 := hx124.tr (by rw [eG125]; exact zx.up (rfl))
  have k127 : G125 a = some (.inr (10, [.ref q5, .ref q16, .ref q49])) := by rw [eG125]; exact zg_up_self _ _ _
  have k128 : G125 q5 = some (.inr (7, [.ref tb, .int 0])) := by rw [eG125, zg_up_ne (Ne.symm ne5_a)]; exact k108
  have k129 : G125 tb = some (.inl (E.2.1 0, 256, .inl (fun _ => 0))) := by rw [eG125, zg_up_ne (Ne.symm ne_tb_a)]; exact k109
  have k130 : G125 q30 = some (.inr (3, [.ref q35, .int (nI 0)])) := by rw [eG125, zg_up_ne (Ne.symm ne30_a)]; exact k110
  have k131 : G125 q35 = some (.inl (E.2.1 0, 1, .inl (fun _ => 0))) := by rw [eG125, zg_up_ne (Ne.symm ne35_a)]; exact k111
  have k132 : G125 q42 = some (.inl (E.2.1 0, 22, .inl (fun _ => 0))) := by rw [eG125, zg_up_ne (Ne.symm ne42_a)]; exact k112
  have k133 : G125 q16 = some (.inr (9, [.ref zl, .ref q30, .ref st, .ref sd, .int (0 + 1)])) := by rw [eG125, zg_up_ne (Ne.symm ne16_a)]; exact k113
  have k134 : G125 zl = some (.inr (0, [.ref d0, .int (nI 1), .int k0x])) := by rw [eG125, zg_up_ne (Ne.symm ne_zl_a)]; exact k114
  have k135 : G125 d0 = some (.inl (E.2.1 3, c0x, .inr (.inr (.inr (.inr f0x))))) := by rw [eG125, zg_up_ne (zg_ne k115 k107 (by intro h; simp at h))]; exact k115
  have k136 : G125 o = some (.inr (4, [.ref q30, .ref ol, .null])) := by rw [eG125, zg_up_ne (zg_ne k116 k107 (by intro h; simp at h))]; exact k116
  have k137 : G125 ol = some (.inr (0, [.ref d1, .int (nI 1), .int k1x])) := by rw [eG125, zg_up_ne (zg_ne k117 k107 (by intro h; simp at h))]; exact k117
  have k138 : G125 d1 = some (.inl (E.2.1 3, c1x, .inr (.inr (.inr (.inr f1x))))) := by rw [eG125, zg_up_ne (zg_ne k118 k107 (by intro h; simp at h))]; exact k118
  have k139 : G125 st = some (.inr (5, [.int 6, .int 0, .ref da])) := by rw [eG125, zg_up_ne (zg_ne k119 k107 (by intro h; simp at h))]; exact k119
  have k140 : G125 da = some (.inr (0, [.ref d3, .int (nI 1), .int k3x])) := by rw [eG125, zg_up_ne (zg_ne k120 k107 (by intro h; simp at h))]; exact k120
  have k141 : G125 d3 = some (.inl (E.2.1 3, c3x, .inr (.inr (.inr (.inr f3x))))) := by rw [eG125, zg_up_ne (zg_ne k121 k107 (by intro h; simp at h))]; exact k121
  have k142 : G125 dx = some (.inr (2, [.ref sd, .null])) := by rw [eG125, zg_up_ne (zg_ne k122 k107 (by intro h; simp at h))]; exact k122
  have k143 : G125 sd = some (.inl (E.2.1 0, 22, .inl (zw4 (fun _ => 0) (22 - 20) 1))) := by rw [eG125, zg_up_ne (zg_ne k123 k107 (by intro h; simp at h))]; exact k123
  have k144 : G125 q49 = some (.inr (1, [.ref q16, .ref s1, .ref s2, .ref s3, .int 0, .int 0])) := by rw [eG125, zg_up_ne (Ne.symm ne49_a)]; exact hwa
  have k145 : G125 s1 = some (.inr (6, [.ref r1])) := by rw [eG125, zg_up_ne (zg_ne hs1 k107 (by intro h; simp at h))]; exact hs1
  have k146 : G125 s2 = some (.inr (6, [.ref r2])) := by rw [eG125, zg_up_ne (zg_ne hs2 k107 (by intro h; simp at h))]; exact hs2
  have k147 : G125 s3 = some (.inr (6, [.ref r3])) := by rw [eG125, zg_up_ne (zg_ne hs3 k107 (by intro h; simp at h))]; exact hs3
  have k148 : G125 r1 = some (.inr (0, [.ref (E.2.2.2 0), .int 0, .int 0])) := by rw [eG125, zg_up_ne (zg_ne hr1 k107 (by intro h; simp at h))]; exact hr1
  have k149 : G125 r2 = some (.inr (0, [.ref (E.2.2.2 0), .int 0, .int 0])) := by rw [eG125, zg_up_ne (zg_ne hr2 k107 (by intro h; simp at h))]; exact hr2
  have k150 : G125 r3 = some (.inr (0, [.ref (E.2.2.2 0), .int 0, .int 0])) := by rw [eG125, zg_up_ne (zg_ne hr3 k107 (by intro h; simp at h))]; exact hr3
  exact hret _ _ _ _ _ _ _ (⟨q5, q16, q49, tb, zl, q30, st, sd, o, ol, da, dx, d0, d1, d3, q35, s1, s2, s3, r1, r2, r3, hx126, ⟨k127, ⟨by rw [show nI ([] : List Int32).length = 0 from nI_0]; exact k128, 256, _, k129, by decide, by decide, by decide, fun j hj => absurd hj (Nat.not_lt_zero j), zf_fit0⟩, k133, ⟨⟨k0x, k134⟩, Or.inr ⟨c0x, f0x, k135, hyr0.1, hyr0.2.1, hyr0.2.2.1, hyr0.2.2.2⟩⟩, k136, ⟨⟨k1x, k137⟩, Or.inr ⟨c1x, f1x, k138, hyr1.1, hyr1.2.1, hyr1.2.2.1, hyr1.2.2.2⟩⟩, k139, ⟨⟨k3x, k140⟩, Or.inr ⟨c3x, f3x, k141, hyr3.1, hyr3.2.1, hyr3.2.2.1, hyr3.2.2.2⟩⟩, k142, k143, k130, k131, k144, k145, k146, k147, k148, k149, k150⟩, hnr⟩) hG hS (by decide) (by decide) d_ZA_init_63
