theorem zgo_nil : zgo [] := ⟨fun i j _ hj => absurd hj (Nat.not_lt_zero _), fun i hi => absurd hi (Nat.not_lt_zero _)⟩
theorem zmc_o {os : List zOt} {k : Nat} (h : k < os.length) : oA (oe (zmc os) k) = oA (oe os k) ∧ oM (oe (zmc os) k) = oM (oe os k) ∧ oX (oe (zmc os) k) = oX (oe os k) := by
  have e := zmi_o (i := os.length) h
  exact ⟨e.1, e.2.2.1, e.2.2.2.2.2⟩
theorem zmc_s {os : List zOt} {k si : Nat} (h : k < os.length) : oS (oe (zmc os) k) si = oS (oe os k) si := by
  unfold oS; rw [(zmc_o h).2.2]
/-- a set by its name and type: what zgt says of it -/
theorem zgt_s {os : List zOt} {k si : Nat} (h : zgo os) (hk : k < os.length) (hs : si < (oX (oe os k)).length) : zgt os (oM (oe os k)) (sT (oS (oe os k) si)) = (sX (oS (oe os k) si)).map (fun d => (sU (oS (oe os k) si), d.2)) := by
  rw [zgt_at h.1 hk rfl, zgX_at (h.2 k hk).1 hs rfl]
theorem zgt_s1 {os : List zOt} {k si : Nat} {x : np_N} {t u : Int32} {d : aD} (h : zgo os) (hk : k < os.length) (hs : si < (oX (oe os k)).length) (hx : oM (oe os k) = x) (ht : sT (oS (oe os k) si) = t) (e : zgt os x t = [(u, d)]) : sU (oS (oe os k) si) = u ∧ (sX (oS (oe os k) si)).length = 1 := by
  subst hx ht
  rw [zgt_s h hk hs] at e
  have h1 := congrArg List.length e
  rw [List.length_map] at h1
  refine ⟨?_, h1⟩
  cases hz : sX (oS (oe os k) si) with
  | nil => rw [hz] at h1; cases h1
  | cons y ys =>
    rw [hz, List.map_cons] at e
    exact congrArg Prod.fst (List.cons.inj e).1
theorem zk.up1 {r : zRo} {G : zg_G} {a : Nat} {e : va_E} {k : Nat × Nat} (h : r a = k) : zk r (fun z => z = k) G (zg_up G a e) := fun q x hq hn => by rw [zg_up_ne (fun z => hn (by rw [z]; exact h))]; exact hq
theorem zBy.cg {E : zc_E} {G : zg_G} {b n : Nat} {f : Nat → Int32} {bs : List Int32} (h : G b = some (.inl (E.2.1 0, n, .inl f))) (hn : n = bs.length) (hf : ∀ j, j < bs.length → f j = bs.getD j 0) (hft : sb_Fit f) : zBy E G b bs := ⟨f, by rw [← hn]; exact h, hf, hft⟩
theorem zSer_B {E : zc_E} {G : zg_G} {q : Nat} {f : Nat → Int32} {bs : List Int32} {x : Int32} (h : G q = some (.inl (E.2.1 0, bs.length, .inl (zw4 f (bs.length - 20) x)))) (hf : ∀ j, j < bs.length → f j = bs.getD j 0) (hft : sb_Fit f) : zBy E G q (zs20 bs x) := by
  refine zBy.cg h (zs20_len bs x).symm (fun j hj => ?_) (zw4_fit hft)
  rw [zs20_len] at hj
  rw [zs20_at hj]
  exact zw4_cg (hf j hj)

abbrev rm_Zo_begin (n0 : Nat) : Room := { frames := 11, cells := 16, slots := n0 + 200, locals := 400 }
set_option maxHeartbeats 4000000 in
set_option maxRecDepth 100000 in
/-- Zone.begin(origin, data, time) -/
theorem t_Zo_begin (l : Launch) (E : zc_E) (G : zg_G) (a la tn st sd : Nat) (rc : Int32) (ha : G a = some (.inr (9, [.ref la, .ref tn, .ref st, .ref sd, .int rc]))) (ro : zRo) (dd : Nat) (os : List zOt) (hZR : zZR E G ro la dd os) (hra : ro a = (1, 0)) (b0 : Nat) (bs : List Int32) (hB : zBy E G b0 bs) (hrb : ro b0 = (0, 0)) (h20 : 20 ≤ bs.length) (hn9 : bs.length ≤ 600) (x1 : Nat) (ls1 : np_N) (hNm : zNR E G ro x1 ls1) (ti : Int32) : zMv l E y_Zo_begin c_Zo_begin 4 (rm_Zo_begin bs.length) [.ref a, .ref x1, .ref b0, .int ti] G (fun (G2 : zg_G) => ∃ ro2 dd2 os2 st2 sd2, zZR E G2 ro2 la dd2 os2 ∧ zfr ro zKz G ro2 G2 ∧ ro2 a = (1, 0) ∧ G2 a = some (.inr (9, [.ref la, .ref x1, .ref st2, .ref sd2, .int (0 + 1)])) ∧ zgo os2 ∧ zctd os2 ∧ znr os2 = 1 ∧ (∀ y t, zgt os2 y t = if y = ls1 ∧ t = 6 then [(ti, (zs20 bs 1, none))] else []) ∧ zsa os2 ls1 6 st2 ∧ zBy E G2 sd2 (zs20 bs 1) ∧ ro2 sd2 = (0, 0)) := by
  refine zMv.of (by decide) (Nat.le_of_ble_eq_true rfl) ?_
  intro p e s m args below meth c Q hZ hG hret ls hl
  obtain ⟨hx, hb, hr, hts, hown, hlocks, hml, hnm, hbase, hK, hN, hQ⟩ := hZ
  have hl : lv_has ls 4 [(0, .ref a), (1, .ref x1), (2, .ref b0), (3, .int ti)] := hl
  have hS : zg_S (zc_b E) s.heap s.heap [] := va_S.rf
  obtain ⟨⟨⟨kq9, hla9⟩, -⟩, -⟩ := id hZR.1
  have hE00 : G (E.2.2.2 0) = none := hQ.out hG
  refine lv_aload_n hx hb d_Zo_begin_0 rfl (lv_at hl 0 rfl) ?_
  refine zg_get (ci := 9) (C := "ZoneAnswers$Zone") (T := T_Zo) (N := 5) hx hb hts zi_Zo hown hK hG ha rfl 0 (by decide) (hts _ w_91) (fun _ h9 => h9) rfl d_Zo_begin_1 ?_
  have hGo4 := hG
  refine zk_v (va_runV (As := []) (rest := []) ⟨hx, hb, hml, hown, hts⟩ (t_AL_clear_u l hZR.1.1) (zcV 0 hts w_129 w_130 w_131 w_6 w_132 (by decide +kernel) ⟨Nat.le_of_ble_eq_true rfl, Nat.le_of_ble_eq_true rfl⟩) (zc_preV hbase hK hN hQ hG hS hla9 rfl) rfl rfl hl.1 rfl (lv_room (Nat.le_of_ble_eq_true rfl)) d_Zo_begin_4 ⟨(by dsimp only; omega), (by dsimp only; omega)⟩) hS (fun G4 H locs hp4 hG hS => ?_)
  have hE1 : G4 (E.2.2.2 0) = none := hQ.out hG
  obtain ⟨hL1, hx1⟩ := hp4
  have hk1 := hZR.1.zk hx1
  have hZ1 : zLR E G4 ro la dd [] (2, 0) (3, 0) := hZR.1.del hE1 hL1
  have hfr1 : zfr ro zKz G ro G4 := zfr.of hk1 zro.rf (fun k z => by rcases z with rfl | rfl <;> exact zKz_n (by decide) (by decide))
  have haz1 : G4 a = some (.inr (9, [.ref la, .ref tn, .ref st, .ref sd, .int rc])) := hZR.1.1.keep hE00 hx1 ha (by decide)
  have hNm1 : zNR E G4 ro x1 ls1 := hNm.go hk1 zro.rf (by simp)
  have hB1 : zBy E G4 b0 bs := zBy.go hB hrb hk1 (by simp)
  obtain ⟨bx1, fx1, hcx1, -⟩ := id hNm1
  obtain ⟨fb1, hcb1, -⟩ := id hB1
  refine lv_aload_n hx hb d_Zo_begin_7 rfl (lv_at hl 0 rfl) ?_
  refine lv_iconst (v := 0) hx hb d_Zo_begin_8 (by decide) ?_
  refine zg_put (ci := 9) (v := .int 0) (ty := .int) (C := "ZoneAnswers$Zone") (T := T_Zo) (N := 5) hx hb hts zi_Zo t_Zo t_Zo_ok n_Zo hown hK hG hS haz1 rfl 4 (by decide) (hts _ w_95) (fun _ h9 => h9) rfl (by decide +kernel) rfl rfl (Nat.le_of_ble_eq_true rfl) d_Zo_begin_9 (fun H locs hG hS => ?_)
  obtain ⟨G1, eG1⟩ : ∃ z : zg_G, z = zg_up G4 a (.inr (9, [.ref la, .ref tn, .ref st, .ref sd, .int 0])) := ⟨_, rfl⟩
  have hG : zP E G1 H := by rw [eG1]; exact hG
  have k2 : G1 a = some (.inr (9, [.ref la, .ref tn, .ref st, .ref sd, .int 0])) := by rw [eG1]; exact zg_up_self _ _ _
  have k3 : G1 x1 = some (.inr (3, [.ref bx1, .int (nI ls1.length)])) := by rw [eG1, zg_up_ne (zg_ne hcx1 haz1 (by intro h; simp at h))]; exact hcx1
  have k4 : G1 b0 = some (.inl (E.2.1 0, bs.length, .inl fb1)) := by rw [eG1, zg_up_ne (zg_ne hcb1 haz1 (by intro h; simp at h))]; exact hcb1
  refine lv_aload_n hx hb d_Zo_begin_12 rfl (lv_at hl 0 rfl) ?_
  refine lv_aload_n hx hb d_Zo_begin_13 rfl (lv_at hl 1 rfl) ?_
  refine zg_put (ci := 9) (v := .ref x1) (ty := .object "ZoneAnswers$Name") (C := "ZoneAnswers$Zone") (T := T_Zo) (N := 5) hx hb hts zi_Zo t_Zo t_Zo_ok n_Zo hown hK hG hS k2 rfl 1 (by decide) (hts _ w_92) (fun _ h9 => h9) rfl (by decide +kernel) rfl rfl (Nat.le_of_ble_eq_true rfl) d_Zo_begin_14 (fun H locs hG hS => ?_)
  obtain ⟨G5, eG5⟩ : ∃ z : zg_G, z = zg_up G1 a (.inr (9, [.ref la, .ref x1, .ref st, .ref sd, .int 0])) := ⟨_, rfl⟩
  have hG : zP E G5 H := by rw [eG5]; exact hG
  have k6 : G5 a = some (.inr (9, [.ref la, .ref x1, .ref st, .ref sd, .int 0])) := by rw [eG5]; exact zg_up_self _ _ _
  have k7 : G5 x1 = some (.inr (3, [.ref bx1, .int (nI ls1.length)])) := by rw [eG5, zg_up_ne (zg_ne k3 k2 (by intro h; simp at h))]; exact k3
  have k8 : G5 b0 = some (.inl (E.2.1 0, bs.length, .inl fb1)) := by rw [eG5, zg_up_ne (zg_ne k4 k2 (by intro h; simp at h))]; exact k4
  refine lv_aload_n hx hb d_Zo_begin_17 rfl (lv_at hl 0 rfl) ?_
  refine lv_aload_n hx hb d_Zo_begin_18 rfl (lv_at hl 2 rfl) ?_
  refine zg_put (ci := 9) (v := .ref b0) (ty := .array .byte) (C := "ZoneAnswers$Zone") (T := T_Zo) (N := 5) hx hb hts zi_Zo t_Zo t_Zo_ok n_Zo hown hK hG hS k6 rfl 3 (by decide) (hts _ w_94) (fun _ h9 => h9) rfl (by decide +kernel) rfl rfl (Nat.le_of_ble_eq_true rfl) d_Zo_begin_19 (fun H locs hG hS => ?_)
  obtain ⟨G9, eG9⟩ : ∃ z : zg_G, z = zg_up G5 a (.inr (9, [.ref la, .ref x1, .ref st, .ref b0, .int 0])) := ⟨_, rfl⟩
  have hG : zP E G9 H := by rw [eG9]; exact hG
  have k10 : G9 a = some (.inr (9, [.ref la, .ref x1, .ref st, .ref b0, .int 0])) := by rw [eG9]; exact zg_up_self _ _ _
  have k11 : G9 x1 = some (.inr (3, [.ref bx1, .int (nI ls1.length)])) := by rw [eG9, zg_up_ne (zg_ne k7 k6 (by intro h; simp at h))]; exact k7
  have k12 : G9 b0 = some (.inl (E.2.1 0, bs.length, .inl fb1)) := by rw [eG9, zg_up_ne (zg_ne k8 k6 (by intro h; simp at h))]; exact k8
  have hxa2 : zx (fun q => q = a) G4 G9 := by rw [eG9, eG5, eG1]; exact ((zx.up (S := fun q => q = a) rfl).tr (zx.up (S := fun q => q = a) rfl)).tr (zx.up (S := fun q => q = a) rfl)
  have hk2 : zk ro (fun z => z = (1, 0)) G4 G9 := zk.of hxa2 (by rintro q e rfl _; exact hra)
  have hE2 : G9 (E.2.2.2 0) = none := hQ.out hG
  have hZ2 : zLR E G9 ro la dd [] (2, 0) (3, 0) := hZ1.go hk2 zro.rf (fun e he => by rw [hE2] at he; cases he) (by simp) (by simp)
  have hNm2 : zNR E G9 ro x1 ls1 := hNm1.go hk2 zro.rf (by simp)
  have hB2 : zBy E G9 b0 bs := zBy.go hB1 hrb hk2 (by simp)
  have hfr2 : zfr ro zKz G ro G9 := hfr1.tr (zfr.of hk2 zro.rf (fun k z => by rw [z]; exact zKz_n (by decide) (by decide)))
  refine lv_aload_n hx hb d_Zo_begin_22 rfl (lv_at hl 0 rfl) ?_
  refine lv_aload_n hx hb d_Zo_begin_23 rfl (lv_at hl 0 rfl) ?_
  refine lv_aload_n hx hb d_Zo_begin_24 rfl (lv_at hl 1 rfl) ?_
  refine lv_bipush (v := 6) hx hb d_Zo_begin_25 (by decide) ?_
  refine zi_as (y := 6) (rfl) ?_
  refine zg_new (ci := 2) (fs := [.null, .null]) (C := "ZoneAnswers$Datum") (T := T_Da) (N := 2) hx hb hts zi_Da t_Da t_Da_ok hown (hts _ w_133) (hts _ w_134) (hts _ w_8) hK hG hS hbase rfl (fun j hj => by rcases (show j = 0 ∨ j = 1 by omega) with rfl | rfl <;> rfl) (by dsimp only; omega) (by dsimp only; omega) d_Zo_begin_27 (fun q27 H n27 hG hS => ?_)
  obtain ⟨G13, eG13⟩ : ∃ z : zg_G, z = zg_up G9 q27 (.inr (2, [.null, .null])) := ⟨_, rfl⟩
  have hG : zP E G13 H := by rw [eG13]; exact hG
  have ne27_a : a ≠ q27 := zg_fr n27 k10
  have k14 : G13 a = some (.inr (9, [.ref la, .ref x1, .ref st, .ref b0, .int 0])) := by rw [eG13, zg_up_ne (zg_fr n27 k10)]; exact k10
  have ne27_x1 : x1 ≠ q27 := zg_fr n27 k11
  have k15 : G13 x1 = some (.inr (3, [.ref bx1, .int (nI ls1.length)])) := by rw [eG13, zg_up_ne (zg_fr n27 k11)]; exact k11
  have ne27_b0 : b0 ≠ q27 := zg_fr n27 k12
  have k16 : G13 b0 = some (.inl (E.2.1 0, bs.length, .inl fb1)) := by rw [eG13, zg_up_ne (zg_fr n27 k12)]; exact k12
  have k17 : G13 q27 = some (.inr (2, [.null, .null])) := by rw [eG13]; exact zg_up_self _ _ _
  refine lv_dup hx hb d_Zo_begin_30 rfl ?_
  refine lv_aload_n hx hb d_Zo_begin_31 rfl (lv_at hl 2 rfl) ?_
  refine lv_null hx hb d_Zo_begin_32 ?_
  have hGo33 := hG
  refine zk_v (va_runI (As := [.ref b0, .null]) (rest := [.ref q27, .int 6, .ref x1, .ref a, .ref a]) ⟨hx, hb, hml, hown, hts⟩ (t_Da_init_n l E G13 q27 b0 k17) (zcI 2 hts w_135 w_136 w_8 w_137 rfl (by decide +kernel) ⟨Nat.le_of_ble_eq_true rfl, Nat.le_of_ble_eq_true rfl⟩) (zc_pre hbase hK hN hQ hG hS) rfl rfl hl.1 rfl (lv_room (Nat.le_of_ble_eq_true rfl)) d_Zo_begin_33 ⟨(by dsimp only; omega), (by dsimp only; omega)⟩) hS (fun G33 H locs hp33 hG hS => ?_)
  have k18 : G33 a = some (.inr (9, [.ref la, .ref x1, .ref st, .ref b0, .int 0])) := by rw [hp33, zg_up_ne (ne27_a)]; exact k14
  have k19 : G33 x1 = some (.inr (3, [.ref bx1, .int (nI ls1.length)])) := by rw [hp33, zg_up_ne (ne27_x1)]; exact k15
  have k20 : G33 b0 = some (.inl (E.2.1 0, bs.length, .inl fb1)) := by rw [hp33, zg_up_ne (ne27_b0)]; exact k16
  have k21 : G33 q27 = some (.inr (2, [.ref b0, .null])) := by rw [hp33]; exact zg_up_self _ _ _
  have hx3 : zx z0 G9 G33 := by rw [hp33, eG13]; exact zx.upn (zx.nw n27) n27
  have hE3 : G33 (E.2.2.2 0) = none := hQ.out hG
  have hk3 : zk ro (fun _ => False) G9 G33 := zk.z hx3
  obtain ⟨ro3, er3⟩ : ∃ z : zRo, z = zrn ro q27 (0, 0) := ⟨_, rfl⟩
  have hr3 : zro G9 ro ro3 := by rw [er3]; exact zro.nw n27
  have hZ3 : zZR E G33 ro3 la dd [] := ⟨hZ2.go hk3 hr3 (fun e he => by rw [hE3] at he; cases he) id id, fun o ho => absurd ho List.not_mem_nil⟩
  have hNm3 : zNR E G33 ro3 x1 ls1 := hNm2.go hk3 hr3 id
  have hB3 : zBy E G33 b0 bs := zBy.go hB2 hrb hk3 id
  have hrb3 : ro3 b0 = (0, 0) := by obtain ⟨f9, h9, -⟩ := id hB2; rw [hr3 b0 _ h9]; exact hrb
  have hra3 : ro3 a = (1, 0) := by rw [hr3 a _ k10]; exact hra
  have hDd3 : zDR E G33 ro3 (q27, bs, none) := ⟨b0, none, k21, hB3, by rw [er3]; exact zrn_self _ _ _, hrb3, Or.inl ⟨rfl, rfl⟩⟩
  have hfr3 : zfr ro zKz G ro3 G33 := hfr2.tr (zfr.of hk3 hr3 (fun k z => z.elim))
  have hGo36 := hG
  refine zk_q (va_runV (As := [.ref x1, .int 6, .ref q27]) (rest := [.ref a]) ⟨hx, hb, hml, hown, hts⟩ (t_Zo_insert l E G33 a la x1 st b0 0 k18 ro3 dd [] hZ3 hra3 zgo_nil (by decide) 10 (by decide) (fun i hi => absurd hi (Nat.not_lt_zero _)) (fun i hi => absurd hi (Nat.not_lt_zero _)) x1 ls1 hNm3 6 (q27, bs, none) hDd3) (zcV 3 hts w_151 w_152 w_153 w_3 w_154 (by decide +kernel) ⟨Nat.le_of_ble_eq_true rfl, Nat.le_of_ble_eq_true rfl⟩) (zc_preV hbase hK hN hQ hG hS k18 rfl) rfl rfl hl.1 rfl (lv_room (Nat.le_of_ble_eq_true rfl)) d_Zo_begin_36 ⟨(by dsimp only; omega), (by dsimp only; omega)⟩) hS (fun r36 G36 H locs hp36 hG hS => ?_)
  obtain ⟨ro4, dd4, os4, kk9, si9, hZ4, hfr4, hra4, haz4, hgo4, hln4, hnr4, hkk4, hM4, hsi4, hT4, er4, hgt4, hc4, hsa4⟩ := hp36
  obtain ⟨os5, e5⟩ : ∃ z, z = zmc os4 := ⟨_, rfl⟩
  rw [← e5] at hZ4
  have hkk5 : kk9 < os5.length := by rw [e5, zmc_len]; exact hkk4
  have hM5 : oM (oe os5 kk9) = ls1 := by rw [e5, (zmc_o hkk4).2.1]; exact hM4
  have hS5 : oS (oe os5 kk9) si9 = oS (oe os4 kk9) si9 := by rw [e5]; exact zmc_s hkk4
  have hsi5 : si9 < (oX (oe os5 kk9)).length := by rw [e5, (zmc_o hkk4).2.2]; exact hsi4
  have hT5 : sT (oS (oe os5 kk9) si9) = 6 := by rw [hS5]; exact hT4
  have hgo5 : zgo os5 := by rw [e5]; exact zmc_go hgo4
  have hgt5 : ∀ y t, zgt os5 y t = if y = ls1 ∧ t = 6 then [(sU (oS (oe os5 kk9) si9), (bs, none))] else [] := fun y t => by rw [e5, zmc_gt, hgt4, ← e5, hS5]; rfl
  have hct5 : zctd os5 := by rw [e5]; exact zctd_mc (hc4 (Or.inl rfl))
  have hnr5 : znr os5 = 1 := by rw [e5, zmc_nr, hnr4]; rfl
  have hsa5 : zsa os5 ls1 6 (sA (oS (oe os5 kk9) si9)) := by rw [← hM5, ← hT5]; exact zsa_of hkk5 hsi5
  have hE4 : G36 (E.2.2.2 0) = none := hQ.out hG
  refine zr_some (a := sA (oS (oe os5 kk9) si9)) (er4.trans (by rw [hS5])) ?_
  refine zg_put (ci := 9) (v := .ref (sA (oS (oe os5 kk9) si9))) (ty := .object "ZoneAnswers$Rrset") (C := "ZoneAnswers$Zone") (T := T_Zo) (N := 5) hx hb hts zi_Zo t_Zo t_Zo_ok n_Zo hown hK hG hS haz4 rfl 2 (by decide) (hts _ w_93) (fun _ h9 => h9) rfl (by decide +kernel) rfl rfl (Nat.le_of_ble_eq_true rfl) d_Zo_begin_39 (fun H locs hG hS => ?_)
  obtain ⟨G22, eG22⟩ : ∃ z : zg_G, z = zg_up G36 a (.inr (9, [.ref la, .ref x1, .ref (sA (oS (oe os5 kk9) si9)), .ref b0, .int (0 + 1)])) := ⟨_, rfl⟩
  have hG : zP E G22 H := by rw [eG22]; exact hG
  have k23 : G22 a = some (.inr (9, [.ref la, .ref x1, .ref (sA (oS (oe os5 kk9) si9)), .ref b0, .int (0 + 1)])) := by rw [eG22]; exact zg_up_self _ _ _
  have hZ6 : zZR E G22 ro4 la dd4 os5 := by rw [eG22]; exact hZ4.upz haz4 hra4 hE4
  have hfr6 : zfr ro4 zKz G36 ro4 G22 := by rw [eG22]; exact zfr.up (by rw [hra4]; exact zKz_n (by decide) (by decide))
  have hE6 : G22 (E.2.2.2 0) = none := hQ.out hG
  have hSR6 := (hZ6.2 _ (oe_mem hkk5)).2.2.2.2 _ (oS_mem hsi5)
  refine lv_aload_n hx hb d_Zo_begin_42 rfl (lv_at hl 0 rfl) ?_
  refine zg_get (ci := 9) (C := "ZoneAnswers$Zone") (T := T_Zo) (N := 5) hx hb hts zi_Zo hown hK hG k23 rfl 2 (by decide) (hts _ w_93) (fun _ h9 => h9) rfl d_Zo_begin_43 ?_
  refine lv_iload_n hx hb d_Zo_begin_46 rfl (lv_at hl 3 rfl) ?_
  refine zg_put (ci := 5) (v := .int ti) (ty := .int) (C := "ZoneAnswers$Rrset") (T := T_Rr) (N := 3) hx hb hts zi_Rr t_Rr t_Rr_ok n_Rr hown hK hG hS hSR6.1 rfl 1 (by decide) (hts _ w_622) (fun _ h9 => h9) rfl (by decide +kernel) rfl rfl (Nat.le_of_ble_eq_true rfl) d_Zo_begin_47 (fun H locs hG hS => ?_)
  obtain ⟨G24, eG24⟩ : ∃ z : zg_G, z = zg_up G22 (sA (oS (oe os5 kk9) si9)) (.inr (5, [.int (sT (oS (oe os5 kk9) si9)), .int ti, .ref (sL (oS (oe os5 kk9) si9))])) := ⟨_, rfl⟩
  have hG : zP E G24 H := by rw [eG24]; exact hG
  have k25 : G24 a = some (.inr (9, [.ref la, .ref x1, .ref (sA (oS (oe os5 kk9) si9)), .ref b0, .int (0 + 1)])) := by rw [eG24, zg_up_ne (zg_ne k23 hSR6.1 (by intro h; simp at h))]; exact k23
  have k26 : G24 (sA (oS (oe os5 kk9) si9)) = some (.inr (5, [.int (sT (oS (oe os5 kk9) si9)), .int ti, .ref (sL (oS (oe os5 kk9) si9))])) := by rw [eG24]; exact zg_up_self _ _ _
  obtain ⟨os7, hZ7, hfr7, hgo7, hct7, hnr7, hln7, hgt7, hsa7⟩ := zTim (u := ti) hZ6 hgo5 hkk5 hsi5 hE6
  rw [← eG24] at hZ7 hfr7
  have hE7 : G24 (E.2.2.2 0) = none := hQ.out hG
  have hgt7b : ∀ y t, zgt os7 y t = if y = ls1 ∧ t = 6 then [(ti, (bs, none))] else [] := fun y t => by
    rw [hgt7, hM5, hT5, hgt5]
    by_cases z : y = ls1 ∧ t = 6
    · rw [if_pos z, if_pos z, if_pos z]; rfl
    · rw [if_neg z, if_neg z, if_neg z]
  obtain ⟨i7, s7, hi7, hMi7, hs7, hTi7, hA7⟩ := zsa_ix (hsa7 _ _ _ hsa5)
  obtain ⟨hU7, hl7⟩ := zgt_s1 hgo7 hi7 hs7 hMi7 hTi7 (u := ti) (d := (bs, none)) (by rw [hgt7b, if_pos ⟨rfl, rfl⟩])
  have hSR7 := (hZ7.2 _ (oe_mem hi7)).2.2.2.2 _ (oS_mem hs7)
  have hcs7 := hSR7.1
  rw [hA7] at hcs7
  obtain ⟨y7, ys7, hy7⟩ : ∃ y ys, (sX (oS (oe os7 i7) s7)).map (·.1) = y :: ys := by
    cases hz : sX (oS (oe os7 i7) s7) with
    | nil => rw [hz] at hl7; cases hl7
    | cons y ys => exact ⟨y.1, ys.map (·.1), rfl⟩
  have hLL7 := hSR7.2.2.1.1
  rw [hy7] at hLL7
  have hfrX : zfr ro zKz G ro4 G24 := ((hfr3.tr hfr4).tr hfr6).tr hfr7
  have hraX : ro4 a = (1, 0) := hra4
  obtain ⟨hB7a, hrb7⟩ : zBy E G24 b0 bs ∧ ro4 b0 = (0, 0) := by
    obtain ⟨f9, h9, h9b⟩ := id hB
    have q9 := hfrX b0 _ h9 (by rw [hrb]; intro z; rcases z with z | z | z; exact absurd z.1 (by decide); cases z; cases z)
    exact ⟨⟨f9, q9.1, h9b⟩, q9.2.trans hrb⟩
  obtain ⟨f7, hcb7, hf7, hft7⟩ := id hB7a
  refine lv_aload_n hx hb d_Zo_begin_50 rfl (lv_at hl 0 rfl) ?_
  refine lv_iconst (v := 1) hx hb d_Zo_begin_51 (by decide) ?_
  have hGo52 := hG
  refine zk_v (va_runV (As := [.int 1]) (rest := []) ⟨hx, hb, hml, hown, hts⟩ (t_Zo_changeSerial l E G24 a la (.ref x1) (sA (oS (oe os5 kk9) si9)) (0 + 1) b0 bs.length f7 hcb7 hft7 (by omega) k25 h20 _ _ _ _ y7 ys7 hcs7 hLL7 1 hn9) (zcV 1 hts w_657 w_658 w_659 w_3 w_660 (by decide +kernel) ⟨Nat.le_of_ble_eq_true rfl, Nat.le_of_ble_eq_true rfl⟩) (zc_preV hbase hK hN hQ hG hS k25 rfl) rfl rfl hl.1 rfl (lv_room (Nat.le_of_ble_eq_true rfl)) d_Zo_begin_52 ⟨(by dsimp only; omega), (by dsimp only; omega)⟩) hS (fun G52 H locs hp52 hG hS => ?_)
  obtain ⟨sd8, dx8, d8, nsd8, ndx8, hd8, hx8, hya8, hysd8, hyL8, hydx8⟩ := hp52
  have hE8 : G52 (E.2.2.2 0) = none := hQ.out hG
  obtain ⟨ro8, os8, hZ8, hfr8, hra8, hgo8, hct8, hnr8, hln8, hgt8, hsa8, hrs8⟩ := zSer k25 hZ7 hraX hgo7 hi7 hs7 hTi7 hU7 hl7 hE7 hE8 nsd8 ndx8 hd8 hx8 hya8 (zSer_B hysd8 hf7 hft7) hyL8 hydx8
  have hgt9 : ∀ y t, zgt os8 y t = if y = ls1 ∧ t = 6 then [(ti, (zs20 bs 1, none))] else [] := fun y t => by
    rw [hgt8, hgt7b, hMi7]
    by_cases z : y = ls1 ∧ t = 6
    · rw [if_pos z, if_pos z]
    · rw [if_neg z, if_neg z, if_neg z]
  exact hret _ _ _ _ _ _ _ (⟨ro8, dd4, os8, sA (oS (oe os5 kk9) si9), sd8, hZ8, hfrX.tr hfr8, hra8, hya8, hgo8, hct8 (hct7 hct5), by omega, hgt9, hsa8 _ _ _ (hsa7 _ _ _ hsa5), zSer_B hysd8 hf7 hft7, hrs8⟩) hG hS (by dsimp only; omega) (by dsimp only; omega) d_Zo_begin_55
