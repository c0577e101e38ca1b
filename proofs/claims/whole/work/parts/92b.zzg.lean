theorem zL.keep0 {E : zc_E} {G G2 : zg_G} {x y b ci : Nat} {xs : List Nat} {fs : List Value} (h : zL E G x y xs) (hE : G (E.2.2.2 0) = none) (hx : zx (fun q => q = x ∨ q = y) G G2) (hb : G b = some (.inr (ci, fs))) (hc : b ≠ x) : G2 b = some (.inr (ci, fs)) := by
  obtain ⟨⟨k, h1⟩, h2⟩ := h
  refine hx b _ (fun z => ?_) hb
  rcases z with z | z
  · exact hc z
  · rcases h2 with ⟨h2, -⟩ | ⟨cap, f, h2, -⟩
    · rw [z, h2, hE] at hb; cases hb
    · rw [z, h2] at hb; cases hb
theorem zlt_of {x t : Int32} (h1 : ¬ x < t) (h2 : ¬ x = t) : t < x := by
  rw [Int32.lt_iff_toInt_lt] at h1 ⊢
  have : x.toInt ≠ t.toInt := fun z => h2 (Int32.toInt_inj.mp z)
  omega
section ZTG2
variable {l : Launch} {E : zc_E} {G : zg_G} {r : zRo} {a la dd tn st sd : Nat} {rc : Int32} {os : List zOt} {a1 : Nat} {ls1 : np_N}
theorem t_Zo_place_g (l : Launch) (ha : G a = some (.inr (9, [.ref la, .ref tn, .ref st, .ref sd, .int rc]))) (hZ : zZR E G r la dd os) (hso : zso os) (hN : zNR E G r a1 ls1) : zMi l E y_Zo_place c_Zo_place 5 (some .int) rm_Zo_place [.ref a, .ref a1] G (fun x G2 => (∃ k, x = nI k ∧ k ≤ os.length ∧ (∀ i, i < k → nk_d (zky (oM (oe os i))) (zky ls1) < 0) ∧ ∀ i, k ≤ i → i < os.length → ¬ nk_d (zky (oM (oe os i))) (zky ls1) < 0) ∧ G2 = G) := by
  rcases Nat.eq_zero_or_pos os.length with h0 | h0
  · obtain ⟨⟨⟨k, h1⟩, -⟩, -⟩ := hZ.1
    rw [List.length_map, h0, nI_0] at h1
    exact (t_Zo_place_z l E G a la (.ref tn) (.ref st) (.ref sd) rc ha (.ref dd) k h1 a1).imp (fun x G' q => ⟨⟨0, q.1, by omega, fun i hi => absurd hi (Nat.not_lt_zero i), fun i _ hi => absurd hi (by omega)⟩, q.2⟩)
  · obtain ⟨b1, f1, q1, q2, q3, q4, q5, -⟩ := hN
    exact t_Zo_place_t l ha hZ h0 hso q1 q2 q3 q4 q5
theorem t_Zo_isAt_g (l : Launch) (ha : G a = some (.inr (9, [.ref la, .ref tn, .ref st, .ref sd, .int rc]))) (hZ : zZR E G r la dd os) (hso : zso os) (hN : zNR E G r a1 ls1) (i : Nat) (hi : i ≤ os.length) : zMi l E y_Zo_isAt c_Zo_isAt 3 (some .boolean) rm_Zo_isAt [.ref a, .int (nI i), .ref a1] G (fun x G2 => zb x (i < os.length ∧ oM (oe os i) = ls1) ∧ G2 = G) := by
  rcases Nat.eq_zero_or_pos os.length with h0 | h0
  · obtain ⟨⟨⟨k, h1⟩, -⟩, -⟩ := hZ.1
    rw [List.length_map, h0, nI_0] at h1
    rw [show i = 0 by omega]
    exact (t_Zo_isAt_z l E G a la (.ref tn) (.ref st) (.ref sd) rc ha (.ref dd) k h1 a1).imp (fun x G' q => ⟨by rw [q.1]; exact zb.f (fun z => absurd z.1 (by omega)), q.2⟩)
  · obtain ⟨b1, f1, q1, q2, q3, q4, q5, -⟩ := hN
    exact t_Zo_isAt_t l ha hZ h0 hso q1 q2 q3 q4 i hi
end ZTG2

abbrev rm_Zo_insert (B : Nat) : Room := { frames := 9, cells := 10, slots := 3 * B + 100, locals := 300 }
set_option maxHeartbeats 4000000 in
set_option maxRecDepth 100000 in
/-- Zone.insert(name, type, datum) -/
theorem t_Zo_insert (l : Launch) (E : zc_E) (G : zg_G) (a la tn st sd : Nat) (rc : Int32) (ha : G a = some (.inr (9, [.ref la, .ref tn, .ref st, .ref sd, .int rc]))) (ro : zRo) (dd : Nat) (os : List zOt) (hZR : zZR E G ro la dd os) (hra : ro a = (1, 0)) (hgo : zgo os) (hol : os.length < 2000) (B : Nat) (hB : 2 * os.length + 10 ≤ B) (hsl : ∀ i, i < os.length → (oX (oe os i)).length < 2000 ∧ 2 * (oX (oe os i)).length + 10 ≤ B) (hdl : ∀ i, i < os.length → ∀ j, j < (oX (oe os i)).length → (sX (oS (oe os i) j)).length < 2000 ∧ 2 * (sX (oS (oe os i) j)).length + 10 ≤ B) (a1 : Nat) (ls1 : np_N) (hNm : zNR E G ro a1 ls1) (t : Int32) (d9 : zDt) (hDd : zDR E G ro d9) : zMq l E y_Zo_insert c_Zo_insert 6 (some (.object "ZoneAnswers$Rrset")) (rm_Zo_insert B) [.ref a, .ref a1, .int t, .ref d9.1] G (fun (r : Option Nat) (G2 : zg_G) => ∃ ro2 dd2 os2 k si, zZR E G2 ro2 la dd2 (zmc os2) ∧ zfr ro zKz G ro2 G2 ∧ ro2 a = (1, 0) ∧ G2 a = some (.inr (9, [.ref la, .ref tn, .ref st, .ref sd, .int (rc + 1)])) ∧ zgo os2 ∧ os2.length ≤ os.length + 1 ∧ znr os2 = znr os + 1 ∧ k < os2.length ∧ oM (oe os2 k) = ls1 ∧ si < (oX (oe os2 k)).length ∧ sT (oS (oe os2 k) si) = t ∧ r = some (sA (oS (oe os2 k) si)) ∧ (∀ x t', zgt os2 x t' = if x = ls1 ∧ t' = t then zgt os x t' ++ [(sU (oS (oe os2 k) si), d9.2)] else zgt os x t') ∧ ((os = [] ∨ oC (oe os 0) = none) → oC (oe os2 0) = none) ∧ ∀ x t' q, zsa os x t' q → zsa os2 x t' q) := by
  refine zMq.of (by decide) (Nat.le_of_ble_eq_true rfl) ?_
  intro p e s m args below meth c Q hZ hG hret ls hl
  obtain ⟨hx, hb, hr, hts, hown, hlocks, hml, hnm, hbase, hK, hN, hQ⟩ := hZ
  have hl : lv_has ls 6 [(0, .ref a), (1, .ref a1), (2, .int t), (3, .ref d9.1)] := hl
  have hS : zg_S (zc_b E) s.heap s.heap [] := va_S.rf
  obtain ⟨⟨⟨kq9, hla9⟩, -⟩, -⟩ := id hZR.1
  obtain ⟨b1, f1, hN1, -⟩ := id hNm
  have hE00 : G (E.2.2.2 0) = none := hQ.out hG
  refine lv_aload_n hx hb d_Zo_insert_0 rfl (lv_at hl 0 rfl) ?_
  refine lv_aload_n hx hb d_Zo_insert_1 rfl (lv_at hl 1 rfl) ?_
  have hGo2 := hG
  refine zk_i (va_runV (As := [.ref a1]) (rest := []) ⟨hx, hb, hml, hown, hts⟩ (t_Zo_place_g l ha hZR hgo.1 hNm) (zcV 1 hts w_155 w_157 wp_0 w_3 w_158 (by decide +kernel) ⟨Nat.le_of_ble_eq_true rfl, Nat.le_of_ble_eq_true rfl⟩) (zc_preV hbase hK hN hQ hG hS ha rfl) rfl rfl hl.1 rfl (lv_room (Nat.le_of_ble_eq_true rfl)) d_Zo_insert_2 ⟨(by dsimp only; omega), (by dsimp only; omega)⟩) hS (fun r2 G2 H locs hp2 hG hS => ?_)
  obtain ⟨⟨kp8, e8, hk1, hk2, hk3⟩, e9⟩ := hp2
  have hG : zP E G H := e9 ▸ hG
  refine zi_as (y := nI kp8) e8 ?_
  refine lv_istore (lv' := [(4, .int (nI kp8)), (0, .ref a), (1, .ref a1), (2, .int t), (3, .ref d9.1)]) hx hb d_Zo_insert_5 hl (by decide) rfl (fun ls hl => ?_)
  refine lv_aload_n hx hb d_Zo_insert_7 rfl (lv_at hl 1 rfl) ?_
  refine lv_iload hx hb d_Zo_insert_8 (lv_at hl 0 rfl) ?_
  refine lv_aload_n hx hb d_Zo_insert_10 rfl (lv_at hl 2 rfl) ?_
  refine zk_i (va_runV (As := [.int (nI kp8), .ref a1]) (rest := []) ⟨hx, hb, hml, hown, hts⟩ (t_Zo_isAt_g l ha hZR hgo.1 hNm kp8 hk1) (zcV 2 hts w_189 w_191 wp_2 w_3 w_192 (by decide +kernel) ⟨Nat.le_of_ble_eq_true rfl, Nat.le_of_ble_eq_true rfl⟩) (zc_preV hbase hK hN hQ hG hS ha rfl) rfl rfl hl.1 rfl (lv_room (Nat.le_of_ble_eq_true rfl)) d_Zo_insert_11 ⟨(by dsimp only; omega), (by dsimp only; omega)⟩) hS (fun r11 G11 H locs hp11 hG hS => ?_)
  have hG : zP E G H := hp11.2 ▸ hG
  refine lv_if_ne (tgt := 34) hx hb d_Zo_insert_14 (by decide) (fun c14 => ?_) (fun c14 => ?_)
  · have hat := hp11.1.nz c14
    have hat1 := hat.1
    refine lv_aload_n hx hb d_Zo_insert_34 rfl (lv_at hl 1 rfl) ?_
    refine zg_get (ci := 9) (C := "ZoneAnswers$Zone") (T := T_Zo) (N := 5) hx hb hts zi_Zo hown hK hG ha rfl 0 (by decide) (hts _ w_91) (fun _ h9 => h9) rfl d_Zo_insert_35 ?_
    refine lv_iload hx hb d_Zo_insert_38 (lv_at hl 0 rfl) ?_
    have hGo40 := hG
    refine zk_q (va_runV (As := [.int (nI kp8)]) (rest := []) ⟨hx, hb, hml, hown, hts⟩ (t_AL_get_u l hZR.1.1 kp8 (by rw [List.length_map]; omega)) (zcV 1 hts w_163 w_164 w_165 w_6 w_166 (by decide +kernel) ⟨Nat.le_of_ble_eq_true rfl, Nat.le_of_ble_eq_true rfl⟩) (zc_preV hbase hK hN hQ hG hS hla9 rfl) rfl rfl hl.1 rfl (lv_room (Nat.le_of_ble_eq_true rfl)) d_Zo_insert_40 ⟨(by dsimp only; omega), (by dsimp only; omega)⟩) hS (fun r40 G40 H locs hp40 hG hS => ?_)
    have hG : zP E G H := hp40.2 ▸ hG
    refine zr_some (a := oA (oe os kp8)) (hp40.1.trans (oe_m (by omega))) ?_
    have hoc := (hZR.2 _ (oe_mem (show kp8 < os.length by omega))).1
    refine zg_castY hx hb hown (hts _ w_177) hK hG hoc rfl (zN.at hN (w := .castable "ZoneAnswers$Owner" "ZoneAnswers$Owner") (by decide +kernel)) d_Zo_insert_43 ?_
    refine lv_iload_n hx hb d_Zo_insert_46 rfl (lv_at hl 3 rfl) ?_
    have hGo47 := hG
    refine zk_q (va_runV (As := [.int t]) (rest := []) ⟨hx, hb, hml, hown, hts⟩ (t_Ow_findOrMake_t l (hZR.2 _ (oe_mem hat.1)) (hgo.2 kp8 hat.1).2.1 (hsl kp8 hat.1).1 B (hsl kp8 hat.1).2 t) (zcV 1 hts w_602 w_603 w_604 w_12 w_605 (by decide +kernel) ⟨Nat.le_of_ble_eq_true rfl, Nat.le_of_ble_eq_true rfl⟩) (zc_preV hbase hK hN hQ hG hS hoc rfl) rfl rfl hl.1 rfl (lv_room (Nat.le_of_ble_eq_true rfl)) d_Zo_insert_47 ⟨(by dsimp only; omega), (by dsimp only; omega)⟩) hS (fun r47 G47 H locs hp47 hG hS => ?_)
    rcases hp47 with ⟨si, hs1, hs2, hs3, ⟨hs4, hs5, er47, eg47⟩ | ⟨hs4, sq, sb, d2, er47, nsq, nsb, hL2, hd2, hx2, hc2, hb2⟩⟩
    · have hG : zP E G H := eg47 ▸ hG
      obtain ⟨os2, eos2⟩ : ∃ z, z = os := ⟨_, rfl⟩
      obtain ⟨ro2, ero2⟩ : ∃ z, z = ro := ⟨_, rfl⟩
      have hZ2 : zZR E G ro2 la dd os2 := by rw [eos2, ero2]; exact hZR
      have haz2 := ha
      have hra2 : ro2 a = (1, 0) := by rw [ero2]; exact hra
      have hDd2 : zDR E G ro2 d9 := by rw [ero2]; exact hDd
      have hlen2 : os2.length = os.length := by rw [eos2]
      have hW : zgw os2 kp8 si := by rw [eos2]; exact hgo.w _ _
      have hgt2 : ∀ x t', zgt os2 x t' = zgt os x t' := fun x t' => by rw [eos2]
      have hsa2 : ∀ x t' q, zsa os x t' q → zsa os2 x t' q := fun x t' q h9 => by rw [eos2]; exact h9
      have hc2x : (os = [] ∨ oC (oe os 0) = none) → oC (oe os2 0) = none := fun h9 => by rw [eos2]; rcases h9 with z | z; (have q2 := hat.1; rw [z] at q2; exact absurd q2 (Nat.not_lt_zero _)); exact z
      have hnr2 : znr os2 = znr os := by rw [eos2]
      have hM2 : oM (oe os2 kp8) = ls1 := by rw [eos2]; exact hat.2
      have hT2 : sT (oS (oe os2 kp8) si) = t := by rw [eos2]; exact hs5
      have hsi2 : si < (oX (oe os2 kp8)).length := by rw [eos2]; exact hs4
      have hfrA : zfr ro zKz G ro2 G := by rw [ero2]; exact zfr.rf
      have hDl2 : (sX (oS (oe os2 kp8) si)).length < 2000 ∧ 2 * (sX (oS (oe os2 kp8) si)).length + 10 ≤ B := by rw [eos2]; exact hdl kp8 hat.1 si hs4
      refine zr_some (a := sA (oS (oe os2 kp8) si)) (er47.trans (by rw [eos2])) ?_
      have hk82 : kp8 < os2.length := by omega
      have hss2 := (hW.2 kp8 hk82).1
      have hS2 := (hZ2.2 _ (oe_mem hk82)).2.2.2.2 _ (oS_mem hsi2)
      obtain ⟨⟨⟨k92, hl92⟩, -⟩, -⟩ := id hS2.2.2.1
      have hE2 : G (E.2.2.2 0) = none := hQ.out hG
      refine lv_astore (lv' := [(5, .ref (sA (oS (oe os2 kp8) si))), (4, .int (nI kp8)), (0, .ref a), (1, .ref a1), (2, .int t), (3, .ref d9.1)]) hx hb d_Zo_insert_50 hl (by decide) rfl (fun ls hl => ?_)
      refine lv_aload hx hb d_Zo_insert_52 (lv_at hl 0 rfl) ?_
      refine zg_get (ci := 5) (C := "ZoneAnswers$Rrset") (T := T_Rr) (N := 3) hx hb hts zi_Rr hown hK hG hS2.1 rfl 2 (by decide) (hts _ w_628) (fun _ h9 => h9) rfl d_Zo_insert_54 ?_
      refine lv_aload_n hx hb d_Zo_insert_57 rfl (lv_at hl 5 rfl) ?_
      have hGo58 := hG
      refine zk_i (va_runV (As := [.ref d9.1]) (rest := []) ⟨hx, hb, hml, hown, hts⟩ (t_AL_add_2 l E G (sL (oS (oe os2 kp8) si)) (sD (oS (oe os2 kp8) si)) ((sX (oS (oe os2 kp8) si)).map (·.1)) hS2.2.2.1.1 d9.1 (by obtain ⟨_, _, hz9, -⟩ := id hDd2; exact ⟨2, _, hz9, Or.inl rfl⟩) (by rw [List.length_map]; exact hDl2.1) B (by rw [List.length_map]; exact hDl2.2) hS2.els) (zcV 1 hts w_637 w_638 w_639 w_6 w_640 (by decide +kernel) ⟨Nat.le_of_ble_eq_true rfl, Nat.le_of_ble_eq_true rfl⟩) (zc_preV hbase hK hN hQ hG hS hl92 rfl) rfl rfl hl.1 rfl (lv_room (Nat.le_of_ble_eq_true rfl)) d_Zo_insert_58 ⟨(by dsimp only; omega), (by dsimp only; omega)⟩) hS (fun r58 G58 H locs hp58 hG hS => ?_)
      obtain ⟨d3, hL3, hd3, hx3⟩ := hp58.2
      have hE3 : G58 (E.2.2.2 0) = none := hQ.out hG
      obtain ⟨ro3, hro3, hfr3, hZ3⟩ := hZ2.addD hW.1 hk82 hss2 hsi2 hE2 hE3 hx3 hd3 hL3 hDd2
      have haz3 : G58 a = some (.inr (9, [.ref la, .ref tn, .ref st, .ref sd, .int rc])) := hS2.2.2.1.1.keep hE2 hx3 haz2 (by decide)
      have hra3 : ro3 a = (1, 0) := by rw [hro3 _ _ haz2]; exact hra2
      obtain ⟨hgo3, hgt3, hnr3⟩ := zgw_B (d2 := d3) (d9 := oD (oe os2 kp8)) (d := d9) hW hk82 hsi2
      obtain ⟨os3, eos3⟩ : ∃ z, z = os2.set kp8 (oSetX (oe os2 kp8) (oD (oe os2 kp8)) ((oX (oe os2 kp8)).set si (sSetX (oS (oe os2 kp8) si) d3 (sX (oS (oe os2 kp8) si) ++ [d9])))) := ⟨_, rfl⟩
      rw [← eos3] at hZ3 hgo3 hnr3
      have hlen3 : os3.length = os2.length := by rw [eos3, List.length_set]
      have hoe3 : oe os3 kp8 = oSetX (oe os2 kp8) (oD (oe os2 kp8)) ((oX (oe os2 kp8)).set si (sSetX (oS (oe os2 kp8) si) d3 (sX (oS (oe os2 kp8) si) ++ [d9]))) := by rw [eos3, oe_set hk82, if_pos rfl]
      have hSS3 : oS (oe os3 kp8) si = sSetX (oS (oe os2 kp8) si) d3 (sX (oS (oe os2 kp8) si) ++ [d9]) := by rw [hoe3, oS_set hsi2, if_pos rfl]
      have hgt9 : ∀ x t', zgt os3 x t' = if x = ls1 ∧ t' = t then zgt os x t' ++ [(sU (oS (oe os3 kp8) si), d9.2)] else zgt os x t' := fun x t' => by rw [eos3, hgt3 x t', hM2, hT2, hgt2, ← eos3, hSS3]; rfl
      have hsi3 : si < (oX (oe os3 kp8)).length := by rw [hoe3]; show si < (List.set _ _ _).length; rw [List.length_set]; exact hsi2
      have hsa9 : ∀ x t' q, zsa os x t' q → zsa os3 x t' q := fun x t' q h9 => by rw [eos3]; exact zsa_set (hsa2 x t' q h9) hk82 (fun s hs _ e => by rw [← e]; exact zsa_D (fun h => by rw [← oS_at h]; exact ⟨rfl, rfl⟩) hs)
      have hc9 : (os = [] ∨ oC (oe os 0) = none) → oC (oe os3 0) = none := fun h9 => by rw [eos3, oe_set hk82]; split; (rename_i e9; show oC (oe os2 kp8) = none; rw [← e9]; exact hc2x h9); exact hc2x h9
      refine lv_pop hx hb d_Zo_insert_61 rfl ?_
      refine lv_aload_n hx hb d_Zo_insert_62 rfl (lv_at hl 2 rfl) ?_
      refine lv_dup hx hb d_Zo_insert_63 rfl ?_
      refine zg_get (ci := 9) (C := "ZoneAnswers$Zone") (T := T_Zo) (N := 5) hx hb hts zi_Zo hown hK hG haz3 rfl 4 (by decide) (hts _ w_95) (fun _ h9 => h9) rfl d_Zo_insert_64 ?_
      refine lv_iconst (v := 1) hx hb d_Zo_insert_67 (by decide) ?_
      refine lv_iadd hx hb d_Zo_insert_68 ?_
      refine zg_put (ci := 9) (v := .int (rc + 1)) (ty := .int) (C := "ZoneAnswers$Zone") (T := T_Zo) (N := 5) hx hb hts zi_Zo t_Zo t_Zo_ok n_Zo hown hK hG hS haz3 rfl 4 (by decide) (hts _ w_95) (fun _ h9 => h9) rfl (by decide +kernel) rfl rfl (Nat.le_of_ble_eq_true rfl) d_Zo_insert_69 (fun H locs hG hS => ?_)
      obtain ⟨G1, eG1⟩ : ∃ z : zg_G, z = zg_up G58 a (.inr (9, [.ref la, .ref tn, .ref st, .ref sd, .int (rc + 1)])) := ⟨_, rfl⟩
      have hG : zP E G1 H := by rw [eG1]; exact hG
      have k2 : G1 a = some (.inr (9, [.ref la, .ref tn, .ref st, .ref sd, .int (rc + 1)])) := by rw [eG1]; exact zg_up_self _ _ _
      refine lv_aload_n hx hb d_Zo_insert_72 rfl (lv_at hl 2 rfl) ?_
      have hfr4 : zfr ro3 zKz G58 ro3 G1 := by rw [eG1]; exact zfr.up (by rw [hra3]; exact zKz_n (by decide) (by decide))
      have hZ4 : zZR E G1 ro3 la dd os3 := by rw [eG1]; exact hZ3.upz haz3 hra3 hE3
      have hGo73 := hG
      refine zk_v (va_runV (As := []) (rest := []) ⟨hx, hb, hml, hown, hts⟩ (t_Zo_markCuts l E G1 a la tn st sd (rc + 1) k2 ro3 dd os3 hZ4 (by omega) (by omega) hgo3.1 (fun o ho => by obtain ⟨j, hj, e⟩ := oe_ix ho; rw [← e]; exact (hgo3.2 j hj).2.1)) (zcV 0 hts w_645 w_647 wp_9 w_3 w_648 (by decide +kernel) ⟨Nat.le_of_ble_eq_true rfl, Nat.le_of_ble_eq_true rfl⟩) (zc_preV hbase hK hN hQ hG hS k2 rfl) rfl rfl hl.1 rfl (lv_room (Nat.le_of_ble_eq_true rfl)) d_Zo_insert_73 ⟨(by dsimp only; omega), (by dsimp only; omega)⟩) hS (fun G73 H locs hp73 hG hS => ?_)
      obtain ⟨hZ5, hx5⟩ := hp73
      have haz5 : G73 a = some (.inr (9, [.ref la, .ref tn, .ref st, .ref sd, .int (rc + 1)])) := hx5 a _ (fun ⟨j, hj, e⟩ => zg_ne k2 (hZ4.2 _ (oe_mem hj)).1 (by intro h; simp at h) e) k2
      have hfr9 : zfr ro zKz G ro3 G73 := ((hfrA.tr hfr3).tr hfr4).tr (hZ4.frC hx5)
      refine lv_aload hx hb d_Zo_insert_76 (lv_at hl 0 rfl) ?_
      exact hret (some (sA (oS (oe os2 kp8) si))) _ _ _ _ _ _ _ _ hr (Or.inl ⟨_, rfl⟩) (⟨ro3, dd, os3, kp8, si, hZ5, hfr9, hra3, haz5, hgo3, by omega, by omega, by omega, by rw [hoe3]; exact hM2, hsi3, by rw [hSS3]; exact hT2, by rw [hSS3]; rfl, hgt9, hc9, hsa9⟩) hG hS (by dsimp only; omega) (by dsimp only; omega) d_Zo_insert_78
    · have hE2x : G47 (E.2.2.2 0) = none := hQ.out hG
      obtain ⟨ro2, hro2, hfr2, hZ2⟩ := hZR.insS (si := si) hgo.1 (show kp8 < os.length by omega) hE00 hE2x hx2 nsq nsb hd2 hL2 hc2 hb2
      have hown9 := hZR.2 _ (oe_mem (show kp8 < os.length by omega))
      have haz2 : G47 a = some (.inr (9, [.ref la, .ref tn, .ref st, .ref sd, .int rc])) := hown9.2.2.2.1.1.keep hE00 hx2 ha (by decide)
      have hra2 : ro2 a = (1, 0) := by rw [hro2 _ _ ha]; exact hra
      have hDd2 : zDR E G47 ro2 d9 := hDd.go (hown9.2.2.2.1.zk hx2) hro2 (by simp)
      obtain ⟨os2, eos2⟩ : ∃ z, z = os.set kp8 (oSetX (oe os kp8) d2 (zin (oX (oe os kp8)) si (sq, t, 0, sb, E.2.2.2 0, []))) := ⟨_, rfl⟩
      rw [← eos2] at hZ2
      have hlen2 : os2.length = os.length := by rw [eos2, List.length_set]
      have hoe2 : oe os2 kp8 = oSetX (oe os kp8) d2 (zin (oX (oe os kp8)) si (sq, t, 0, sb, E.2.2.2 0, [])) := by rw [eos2, oe_set (by omega), if_pos rfl]
      have hz9 := zgw_C (d2 := d2) (qs := sq) (bs := sb) (e9 := E.2.2.2 0) (t := t) hgo hat.1 hs1 hs2 (fun q => zlt_of (hs3 q) (hs4 q))
      rw [← eos2] at hz9
      have hM2 : oM (oe os2 kp8) = ls1 := by rw [hoe2]; exact hat.2
      have hSS : oS (oe os2 kp8) si = (sq, t, 0, sb, E.2.2.2 0, []) := by rw [hoe2, oS_in hs1, if_neg (Nat.lt_irrefl _), if_pos rfl]
      have hsi2 : si < (oX (oe os2 kp8)).length := by rw [hoe2]; show si < (zin _ _ _).length; rw [zin_len hs1]; omega
      have hfrA : zfr ro zKz G ro2 G47 := hfr2
      have hsa2 : ∀ x t' q, zsa os x t' q → zsa os2 x t' q := fun x t' q h9 => by rw [eos2]; refine zsa_set h9 hat.1 (fun s hs _ e => ⟨s, zsa_zin hs, e, rfl⟩)
      have hc2x : (os = [] ∨ oC (oe os 0) = none) → oC (oe os2 0) = none := fun h9 => by
        have q1 : oC (oe os 0) = none := by
          rcases h9 with z | z
          · have q2 := hat.1; rw [z] at q2; exact absurd q2 (Nat.not_lt_zero _)
          · exact z
        rw [eos2, oe_set hat.1]; split; (rename_i e9; show oC (oe os kp8) = none; rw [← e9]; exact q1); exact q1
      obtain ⟨hW, hgt2, hnr2⟩ := hz9
      have hT2 : sT (oS (oe os2 kp8) si) = t := by rw [hSS]; rfl
      have hDl2 : (sX (oS (oe os2 kp8) si)).length < 2000 ∧ 2 * (sX (oS (oe os2 kp8) si)).length + 10 ≤ B := by rw [hSS]; exact ⟨by show (0 : Nat) < 2000; decide, by show 2 * 0 + 10 ≤ B; omega⟩
      refine zr_some (a := sA (oS (oe os2 kp8) si)) (er47.trans (by rw [hSS]; rfl)) ?_
      have hk82 : kp8 < os2.length := by omega
      have hss2 := (hW.2 kp8 hk82).1
      have hS2 := (hZ2.2 _ (oe_mem hk82)).2.2.2.2 _ (oS_mem hsi2)
      obtain ⟨⟨⟨k92, hl92⟩, -⟩, -⟩ := id hS2.2.2.1
      have hE2 : G47 (E.2.2.2 0) = none := hQ.out hG
      refine lv_astore (lv' := [(5, .ref (sA (oS (oe os2 kp8) si))), (4, .int (nI kp8)), (0, .ref a), (1, .ref a1), (2, .int t), (3, .ref d9.1)]) hx hb d_Zo_insert_50 hl (by decide) rfl (fun ls hl => ?_)
      refine lv_aload hx hb d_Zo_insert_52 (lv_at hl 0 rfl) ?_
      refine zg_get (ci := 5) (C := "ZoneAnswers$Rrset") (T := T_Rr) (N := 3) hx hb hts zi_Rr hown hK hG hS2.1 rfl 2 (by decide) (hts _ w_628) (fun _ h9 => h9) rfl d_Zo_insert_54 ?_
      refine lv_aload_n hx hb d_Zo_insert_57 rfl (lv_at hl 5 rfl) ?_
      have hGo58 := hG
      refine zk_i (va_runV (As := [.ref d9.1]) (rest := []) ⟨hx, hb, hml, hown, hts⟩ (t_AL_add_2 l E G47 (sL (oS (oe os2 kp8) si)) (sD (oS (oe os2 kp8) si)) ((sX (oS (oe os2 kp8) si)).map (·.1)) hS2.2.2.1.1 d9.1 (by obtain ⟨_, _, hz9, -⟩ := id hDd2; exact ⟨2, _, hz9, Or.inl rfl⟩) (by rw [List.length_map]; exact hDl2.1) B (by rw [List.length_map]; exact hDl2.2) hS2.els) (zcV 1 hts w_637 w_638 w_639 w_6 w_640 (by decide +kernel) ⟨Nat.le_of_ble_eq_true rfl, Nat.le_of_ble_eq_true rfl⟩) (zc_preV hbase hK hN hQ hG hS hl92 rfl) rfl rfl hl.1 rfl (lv_room (Nat.le_of_ble_eq_true rfl)) d_Zo_insert_58 ⟨(by dsimp only; omega), (by dsimp only; omega)⟩) hS (fun r58 G58 H locs hp58 hG hS => ?_)
      obtain ⟨d3, hL3, hd3, hx3⟩ := hp58.2
      have hE3 : G58 (E.2.2.2 0) = none := hQ.out hG
      obtain ⟨ro3, hro3, hfr3, hZ3⟩ := hZ2.addD hW.1 hk82 hss2 hsi2 hE2 hE3 hx3 hd3 hL3 hDd2
      have haz3 : G58 a = some (.inr (9, [.ref la, .ref tn, .ref st, .ref sd, .int rc])) := hS2.2.2.1.1.keep hE2 hx3 haz2 (by decide)
      have hra3 : ro3 a = (1, 0) := by rw [hro3 _ _ haz2]; exact hra2
      obtain ⟨hgo3, hgt3, hnr3⟩ := zgw_B (d2 := d3) (d9 := oD (oe os2 kp8)) (d := d9) hW hk82 hsi2
      obtain ⟨os3, eos3⟩ : ∃ z, z = os2.set kp8 (oSetX (oe os2 kp8) (oD (oe os2 kp8)) ((oX (oe os2 kp8)).set si (sSetX (oS (oe os2 kp8) si) d3 (sX (oS (oe os2 kp8) si) ++ [d9])))) := ⟨_, rfl⟩
      rw [← eos3] at hZ3 hgo3 hnr3
      have hlen3 : os3.length = os2.length := by rw [eos3, List.length_set]
      have hoe3 : oe os3 kp8 = oSetX (oe os2 kp8) (oD (oe os2 kp8)) ((oX (oe os2 kp8)).set si (sSetX (oS (oe os2 kp8) si) d3 (sX (oS (oe os2 kp8) si) ++ [d9]))) := by rw [eos3, oe_set hk82, if_pos rfl]
      have hSS3 : oS (oe os3 kp8) si = sSetX (oS (oe os2 kp8) si) d3 (sX (oS (oe os2 kp8) si) ++ [d9]) := by rw [hoe3, oS_set hsi2, if_pos rfl]
      have hgt9 : ∀ x t', zgt os3 x t' = if x = ls1 ∧ t' = t then zgt os x t' ++ [(sU (oS (oe os3 kp8) si), d9.2)] else zgt os x t' := fun x t' => by rw [eos3, hgt3 x t', hM2, hT2, hgt2, ← eos3, hSS3]; rfl
      have hsi3 : si < (oX (oe os3 kp8)).length := by rw [hoe3]; show si < (List.set _ _ _).length; rw [List.length_set]; exact hsi2
      have hsa9 : ∀ x t' q, zsa os x t' q → zsa os3 x t' q := fun x t' q h9 => by rw [eos3]; exact zsa_set (hsa2 x t' q h9) hk82 (fun s hs _ e => by rw [← e]; exact zsa_D (fun h => by rw [← oS_at h]; exact ⟨rfl, rfl⟩) hs)
      have hc9 : (os = [] ∨ oC (oe os 0) = none) → oC (oe os3 0) = none := fun h9 => by rw [eos3, oe_set hk82]; split; (rename_i e9; show oC (oe os2 kp8) = none; rw [← e9]; exact hc2x h9); exact hc2x h9
      refine lv_pop hx hb d_Zo_insert_61 rfl ?_
      refine lv_aload_n hx hb d_Zo_insert_62 rfl (lv_at hl 2 rfl) ?_
      refine lv_dup hx hb d_Zo_insert_63 rfl ?_
      refine zg_get (ci := 9) (C := "ZoneAnswers$Zone") (T := T_Zo) (N := 5) hx hb hts zi_Zo hown hK hG haz3 rfl 4 (by decide) (hts _ w_95) (fun _ h9 => h9) rfl d_Zo_insert_64 ?_
      refine lv_iconst (v := 1) hx hb d_Zo_insert_67 (by decide) ?_
      refine lv_iadd hx hb d_Zo_insert_68 ?_
      refine zg_put (ci := 9) (v := .int (rc + 1)) (ty := .int) (C := "ZoneAnswers$Zone") (T := T_Zo) (N := 5) hx hb hts zi_Zo t_Zo t_Zo_ok n_Zo hown hK hG hS haz3 rfl 4 (by decide) (hts _ w_95) (fun _ h9 => h9) rfl (by decide +kernel) rfl rfl (Nat.le_of_ble_eq_true rfl) d_Zo_insert_69 (fun H locs hG hS => ?_)
      obtain ⟨G3, eG3⟩ : ∃ z : zg_G, z = zg_up G58 a (.inr (9, [.ref la, .ref tn, .ref st, .ref sd, .int (rc + 1)])) := ⟨_, rfl⟩
      have hG : zP E G3 H := by rw [eG3]; exact hG
      have k4 : G3 a = some (.inr (9, [.ref la, .ref tn, .ref st, .ref sd, .int (rc + 1)])) := by rw [eG3]; exact zg_up_self _ _ _
      refine lv_aload_n hx hb d_Zo_insert_72 rfl (lv_at hl 2 rfl) ?_
      have hfr4 : zfr ro3 zKz G58 ro3 G3 := by rw [eG3]; exact zfr.up (by rw [hra3]; exact zKz_n (by decide) (by decide))
      have hZ4 : zZR E G3 ro3 la dd os3 := by rw [eG3]; exact hZ3.upz haz3 hra3 hE3
      have hGo73 := hG
      refine zk_v (va_runV (As := []) (rest := []) ⟨hx, hb, hml, hown, hts⟩ (t_Zo_markCuts l E G3 a la tn st sd (rc + 1) k4 ro3 dd os3 hZ4 (by omega) (by omega) hgo3.1 (fun o ho => by obtain ⟨j, hj, e⟩ := oe_ix ho; rw [← e]; exact (hgo3.2 j hj).2.1)) (zcV 0 hts w_645 w_647 wp_9 w_3 w_648 (by decide +kernel) ⟨Nat.le_of_ble_eq_true rfl, Nat.le_of_ble_eq_true rfl⟩) (zc_preV hbase hK hN hQ hG hS k4 rfl) rfl rfl hl.1 rfl (lv_room (Nat.le_of_ble_eq_true rfl)) d_Zo_insert_73 ⟨(by dsimp only; omega), (by dsimp only; omega)⟩) hS (fun G73 H locs hp73 hG hS => ?_)
      obtain ⟨hZ5, hx5⟩ := hp73
      have haz5 : G73 a = some (.inr (9, [.ref la, .ref tn, .ref st, .ref sd, .int (rc + 1)])) := hx5 a _ (fun ⟨j, hj, e⟩ => zg_ne k4 (hZ4.2 _ (oe_mem hj)).1 (by intro h; simp at h) e) k4
      have hfr9 : zfr ro zKz G ro3 G73 := ((hfrA.tr hfr3).tr hfr4).tr (hZ4.frC hx5)
      refine lv_aload hx hb d_Zo_insert_76 (lv_at hl 0 rfl) ?_
      exact hret (some (sA (oS (oe os2 kp8) si))) _ _ _ _ _ _ _ _ hr (Or.inl ⟨_, rfl⟩) (⟨ro3, dd, os3, kp8, si, hZ5, hfr9, hra3, haz5, hgo3, by omega, by omega, by omega, by rw [hoe3]; exact hM2, hsi3, by rw [hSS3]; exact hT2, by rw [hSS3]; rfl, hgt9, hc9, hsa9⟩) hG hS (by dsimp only; omega) (by dsimp only; omega) d_Zo_insert_78
  · have hna := hp11.1.z c14
    refine lv_aload_n hx hb d_Zo_insert_17 rfl (lv_at hl 1 rfl) ?_
    refine zg_get (ci := 9) (C := "ZoneAnswers$Zone") (T := T_Zo) (N := 5) hx hb hts zi_Zo hown hK hG ha rfl 0 (by decide) (hts _ w_91) (fun _ h9 => h9) rfl d_Zo_insert_18 ?_
    refine lv_iload hx hb d_Zo_insert_21 (lv_at hl 0 rfl) ?_
    refine zg_new (ci := 4) (fs := [.null, .null, .null]) (C := "ZoneAnswers$Owner") (T := T_Ow) (N := 3) hx hb hts zi_Ow t_Ow t_Ow_ok hown (hts _ w_177) (hts _ w_197) (hts _ w_12) hK hG hS hbase rfl (fun j hj => by rcases (show j = 0 ∨ j = 1 ∨ j = 2 by omega) with rfl | rfl | rfl <;> rfl) (by dsimp only; omega) (by dsimp only; omega) d_Zo_insert_23 (fun q23 H n23 hG hS => ?_)
    obtain ⟨G5, eG5⟩ : ∃ z : zg_G, z = zg_up G q23 (.inr (4, [.null, .null, .null])) := ⟨_, rfl⟩
    have hG : zP E G5 H := by rw [eG5]; exact hG
    have ne23_a : a ≠ q23 := zg_fr n23 ha
    have k6 : G5 a = some (.inr (9, [.ref la, .ref tn, .ref st, .ref sd, .int rc])) := by rw [eG5, zg_up_ne (zg_fr n23 ha)]; exact ha
    have ne23_la : la ≠ q23 := zg_fr n23 hla9
    have k7 : G5 la = some (.inr (0, [.ref dd, .int (nI ((os.map oA).length)), .int kq9])) := by rw [eG5, zg_up_ne (zg_fr n23 hla9)]; exact hla9
    have ne23_a1 : a1 ≠ q23 := zg_fr n23 hN1
    have k8 : G5 a1 = some (.inr (3, [.ref b1, .int (nI ls1.length)])) := by rw [eG5, zg_up_ne (zg_fr n23 hN1)]; exact hN1
    have k9 : G5 q23 = some (.inr (4, [.null, .null, .null])) := by rw [eG5]; exact zg_up_self _ _ _
    refine lv_dup hx hb d_Zo_insert_26 rfl ?_
    refine lv_aload_n hx hb d_Zo_insert_27 rfl (lv_at hl 2 rfl) ?_
    have hGo28 := hG
    refine zk_v (va_runI (As := [.ref a1]) (rest := [.ref q23, .int (nI kp8), .ref la]) ⟨hx, hb, hml, hown, hts⟩ (t_Ow_init l E G5 q23 a1 k9) (zcI 1 hts w_198 w_199 w_12 w_200 rfl (by decide +kernel) ⟨Nat.le_of_ble_eq_true rfl, Nat.le_of_ble_eq_true rfl⟩) (zc_pre hbase hK hN hQ hG hS) rfl rfl hl.1 rfl (lv_room (Nat.le_of_ble_eq_true rfl)) d_Zo_insert_28 ⟨(by dsimp only; omega), (by dsimp only; omega)⟩) hS (fun G28 H locs hp28 hG hS => ?_)
    obtain ⟨ol, nol, eol⟩ := hp28
    obtain ⟨Gu10, eGu10⟩ : ∃ z : zg_G, z = zg_up G5 ol (.inr (0, [.ref (E.2.2.2 0), .int 0, .int 0])) := ⟨_, rfl⟩
    rw [← eGu10] at eol
    have ne_ol_a : a ≠ ol := zg_fr nol k6
    have k11 : Gu10 a = some (.inr (9, [.ref la, .ref tn, .ref st, .ref sd, .int rc])) := by rw [eGu10, zg_up_ne ne_ol_a]; exact k6
    have ne_ol_la : la ≠ ol := zg_fr nol k7
    have k12 : Gu10 la = some (.inr (0, [.ref dd, .int (nI ((os.map oA).length)), .int kq9])) := by rw [eGu10, zg_up_ne ne_ol_la]; exact k7
    have ne_ol_a1 : a1 ≠ ol := zg_fr nol k8
    have k13 : Gu10 a1 = some (.inr (3, [.ref b1, .int (nI ls1.length)])) := by rw [eGu10, zg_up_ne ne_ol_a1]; exact k8
    have ne_ol_q23 : q23 ≠ ol := zg_fr nol k9
    have k14 : Gu10 q23 = some (.inr (4, [.null, .null, .null])) := by rw [eGu10, zg_up_ne ne_ol_q23]; exact k9
    have k15 : Gu10 ol = some (.inr (0, [.ref (E.2.2.2 0), .int 0, .int 0])) := by rw [eGu10]; exact zg_up_self _ _ _
    have k16 : G28 a = some (.inr (9, [.ref la, .ref tn, .ref st, .ref sd, .int rc])) := by rw [eol, zg_up_ne (ne23_a)]; exact k11
    have k17 : G28 la = some (.inr (0, [.ref dd, .int (nI ((os.map oA).length)), .int kq9])) := by rw [eol, zg_up_ne (ne23_la)]; exact k12
    have k18 : G28 a1 = some (.inr (3, [.ref b1, .int (nI ls1.length)])) := by rw [eol, zg_up_ne (ne23_a1)]; exact k13
    have k19 : G28 q23 = some (.inr (4, [.ref a1, .ref ol, .null])) := by rw [eol]; exact zg_up_self _ _ _
    have k20 : G28 ol = some (.inr (0, [.ref (E.2.2.2 0), .int 0, .int 0])) := by rw [eol, zg_up_ne (Ne.symm ne_ol_q23)]; exact k15
    have nfol : G ol = none := zup_none (eG5 ▸ nol)
    have hx28 : zx z0 G G28 := by rw [eol]; exact zx.upn (show zx z0 G Gu10 from by rw [eGu10, eG5]; exact (zx.nw n23).tr (zx.nw (eG5 ▸ nol))) n23
    have hE28 : G28 (E.2.2.2 0) = none := hQ.out hG
    have hZ28 := hZR.z hx28 hE28
    have hGo31 := hG
    refine zk_v (va_runV (As := [.int (nI kp8), .ref q23]) (rest := []) ⟨hx, hb, hml, hown, hts⟩ (t_AL_add l E G28 la dd (os.map oA) hZ28.1.1 q23 ⟨4, _, k19, Or.inr (Or.inl rfl)⟩ (by rw [List.length_map]; omega) B (by rw [List.length_map]; exact hB) hZ28.els kp8 (by rw [List.length_map]; exact hk1)) (zcV 2 hts w_220 w_221 w_222 w_6 w_223 (by decide +kernel) ⟨Nat.le_of_ble_eq_true rfl, Nat.le_of_ble_eq_true rfl⟩) (zc_preV hbase hK hN hQ hG hS k17 rfl) rfl rfl hl.1 rfl (lv_room (Nat.le_of_ble_eq_true rfl)) d_Zo_insert_31 ⟨(by dsimp only; omega), (by dsimp only; omega)⟩) hS (fun G31 H locs hp31 hG hS => ?_)
    obtain ⟨d1, hL1, hd1, hx1⟩ := hp31
    have hE1 : G31 (E.2.2.2 0) = none := hQ.out hG
    have hxa : zx (fun q => q = la ∨ q = dd) G G31 := (hx28.w (fun _ z => z.elim)).tr hx1
    have hcq : G31 q23 = some (.inr (4, [.ref a1, .ref ol, .null])) := hZ28.1.1.keep hE28 hx1 k19 (by decide)
    have hcl : G31 ol = some (.inr (0, [.ref (E.2.2.2 0), .int 0, .int 0])) := hZ28.1.1.keep0 hE28 hx1 k20 (Ne.symm (zg_fr nfol hla9))
    obtain ⟨ro1, hro1, hfr1, hZ1⟩ := hZR.insO hE00 hE1 hxa n23 nfol (hd1.imp id (fun z => hx28.no z)) hL1 hNm hcq hcl
    have haz1 : G31 a = some (.inr (9, [.ref la, .ref tn, .ref st, .ref sd, .int rc])) := hZ28.1.1.keep hE28 hx1 k16 (by decide)
    have hra1 : ro1 a = (1, 0) := by rw [hro1 _ _ ha]; exact hra
    have hDd1 : zDR E G31 ro1 d9 := hDd.go (hZR.1.zk hxa) hro1 (by simp)
    obtain ⟨os1, eos1⟩ : ∃ z, z = zin os kp8 (q23, a1, ls1, none, ol, E.2.2.2 0, []) := ⟨_, rfl⟩
    rw [← eos1] at hZ1
    have hoe1 : oe os1 kp8 = (q23, a1, ls1, none, ol, E.2.2.2 0, []) := by rw [eos1, oe_in hk1, if_neg (Nat.lt_irrefl _), if_pos rfl]
    have hlen1 : os1.length = os.length + 1 := by rw [eos1]; exact zin_len hk1
    have hk81 : kp8 < os1.length := by omega
    have hbh : ∀ i, kp8 ≤ i → i < os.length → nk_d (zky ls1) (zky (oM (oe os i))) < 0 := by
      have hk9 : kp8 < os.length → nk_d (zky ls1) (zky (oM (oe os kp8))) < 0 := fun hq => nk_ne (hZR.2 _ (oe_mem hq)).2.2.1.fn.1 hNm.fn.1 (fun z => hna ⟨hq, z⟩) (hk3 kp8 (Nat.le_refl _) hq)
      intro i h1 h2
      rcases Nat.lt_or_ge kp8 i with z | z
      · exact nk_d_tr (hk9 (by omega)) (hgo.1 kp8 i z h2)
      · rw [show i = kp8 by omega]; exact hk9 (by omega)
    have hso1 : zso os1 := by rw [eos1]; exact zso_in hgo.1 hk1 hk2 hbh
    obtain ⟨⟨⟨k91, hla91⟩, -⟩, -⟩ := id hZ1.1
    refine lv_aload_n hx hb d_Zo_insert_34 rfl (lv_at hl 1 rfl) ?_
    refine zg_get (ci := 9) (C := "ZoneAnswers$Zone") (T := T_Zo) (N := 5) hx hb hts zi_Zo hown hK hG haz1 rfl 0 (by decide) (hts _ w_91) (fun _ h9 => h9) rfl d_Zo_insert_35 ?_
    refine lv_iload hx hb d_Zo_insert_38 (lv_at hl 0 rfl) ?_
    have hGo40 := hG
    refine zk_q (va_runV (As := [.int (nI kp8)]) (rest := []) ⟨hx, hb, hml, hown, hts⟩ (t_AL_get_u l hZ1.1.1 kp8 (by rw [List.length_map]; omega)) (zcV 1 hts w_163 w_164 w_165 w_6 w_166 (by decide +kernel) ⟨Nat.le_of_ble_eq_true rfl, Nat.le_of_ble_eq_true rfl⟩) (zc_preV hbase hK hN hQ hG hS hla91 rfl) rfl rfl hl.1 rfl (lv_room (Nat.le_of_ble_eq_true rfl)) d_Zo_insert_40 ⟨(by dsimp only; omega), (by dsimp only; omega)⟩) hS (fun r40 G40 H locs hp40 hG hS => ?_)
    have hG : zP E G31 H := hp40.2 ▸ hG
    refine zr_some (a := oA (oe os1 kp8)) (hp40.1.trans (oe_m (by omega))) ?_
    have hoc := (hZ1.2 _ (oe_mem (show kp8 < os1.length by omega))).1
    refine zg_castY hx hb hown (hts _ w_177) hK hG hoc rfl (zN.at hN (w := .castable "ZoneAnswers$Owner" "ZoneAnswers$Owner") (by decide +kernel)) d_Zo_insert_43 ?_
    refine lv_iload_n hx hb d_Zo_insert_46 rfl (lv_at hl 3 rfl) ?_
    have hGo47 := hG
    refine zk_q (va_runV (As := [.int t]) (rest := []) ⟨hx, hb, hml, hown, hts⟩ (t_Ow_findOrMake_n l (hZ1.2 _ (oe_mem hk81)) (by rw [hoe1]; rfl) (by rw [hoe1]; exact hcl) (by rw [hoe1]; rfl) t) (zcV 1 hts w_602 w_603 w_604 w_12 w_605 (by decide +kernel) ⟨Nat.le_of_ble_eq_true rfl, Nat.le_of_ble_eq_true rfl⟩) (zc_preV hbase hK hN hQ hG hS hoc rfl) rfl rfl hl.1 rfl (lv_room (Nat.le_of_ble_eq_true rfl)) d_Zo_insert_47 ⟨(by dsimp only; omega), (by dsimp only; omega)⟩) hS (fun r47 G47 H locs hp47 hG hS => ?_)
    obtain ⟨sq, sb, d2, er47, nsq, nsb, hL2, hd2, hx2, hc2, hb2⟩ := hp47
    have hE2x : G47 (E.2.2.2 0) = none := hQ.out hG
    obtain ⟨ro2, hro2, hfr2, hZ2⟩ := hZ1.insS (si := 0) hso1 (show kp8 < os1.length by omega) hE1 hE2x hx2 nsq nsb hd2 hL2 hc2 hb2
    have hown9 := hZ1.2 _ (oe_mem (show kp8 < os1.length by omega))
    have haz2 : G47 a = some (.inr (9, [.ref la, .ref tn, .ref st, .ref sd, .int rc])) := hown9.2.2.2.1.1.keep hE1 hx2 haz1 (by decide)
    have hra2 : ro2 a = (1, 0) := by rw [hro2 _ _ haz1]; exact hra1
    have hDd2 : zDR E G47 ro2 d9 := hDd1.go (hown9.2.2.2.1.zk hx2) hro2 (by simp)
    obtain ⟨os2, eos2⟩ : ∃ z, z = os1.set kp8 (oSetX (oe os1 kp8) d2 (zin (oX (oe os1 kp8)) 0 (sq, t, 0, sb, E.2.2.2 0, []))) := ⟨_, rfl⟩
    rw [← eos2] at hZ2
    have hlen2 : os2.length = os1.length := by rw [eos2, List.length_set]
    have hoe2 : oe os2 kp8 = oSetX (oe os1 kp8) d2 (zin (oX (oe os1 kp8)) 0 (sq, t, 0, sb, E.2.2.2 0, [])) := by rw [eos2, oe_set (by omega), if_pos rfl]
    obtain ⟨si, esi⟩ : ∃ z : Nat, z = 0 := ⟨_, rfl⟩
    have hz9 := zgw_A (q := q23) (a1 := a1) (ol := ol) (d2 := d2) (qs := sq) (bs := sb) (e9 := E.2.2.2 0) (t := t) hgo hk1 hk2 hbh
    have eos2b := eos2
    rw [hoe1, eos1] at eos2b
    have hos2c : os2 = (zin os kp8 (q23, a1, ls1, none, ol, E.2.2.2 0, [])).set kp8 (oSetX (q23, a1, ls1, none, ol, E.2.2.2 0, []) d2 (zin [] 0 (sq, t, 0, sb, E.2.2.2 0, []))) := eos2b
    rw [← hos2c, ← esi] at hz9
    have hM2 : oM (oe os2 kp8) = ls1 := by rw [hoe2, hoe1]; rfl
    have hSS : oS (oe os2 kp8) si = (sq, t, 0, sb, E.2.2.2 0, []) := by rw [hoe2, hoe1, esi]; rfl
    have hsi2 : si < (oX (oe os2 kp8)).length := by rw [hoe2, hoe1, esi]; exact Nat.succ_pos 0
    have hfrA : zfr ro zKz G ro2 G47 := hfr1.tr hfr2
    have hsa2 : ∀ x t' q, zsa os x t' q → zsa os2 x t' q := fun x t' q h9 => by rw [eos2]; refine zsa_set (by rw [eos1]; exact zsa_in h9) (show kp8 < os1.length by omega) (fun s hs _ e => ⟨s, zsa_zin hs, e, rfl⟩)
    have hc2x : (os = [] ∨ oC (oe os 0) = none) → oC (oe os2 0) = none := fun h9 => by
      have q1 : oC (oe os1 0) = none := by
        rw [eos1, oe_in hk1]
        split
        · rcases h9 with z | z
          · have q2 : os.length = 0 := by rw [z]; rfl
            omega
          · exact z
        · split
          · rfl
          · omega
      rw [eos2, oe_set (show kp8 < os1.length by omega)]; split; (rename_i e9; show oC (oe os1 kp8) = none; rw [← e9]; exact q1); exact q1
    obtain ⟨hW, hgt2, hnr2⟩ := hz9
    have hT2 : sT (oS (oe os2 kp8) si) = t := by rw [hSS]; rfl
    have hDl2 : (sX (oS (oe os2 kp8) si)).length < 2000 ∧ 2 * (sX (oS (oe os2 kp8) si)).length + 10 ≤ B := by rw [hSS]; exact ⟨by show (0 : Nat) < 2000; decide, by show 2 * 0 + 10 ≤ B; omega⟩
    refine zr_some (a := sA (oS (oe os2 kp8) si)) (er47.trans (by rw [hSS]; rfl)) ?_
    have hk82 : kp8 < os2.length := by omega
    have hss2 := (hW.2 kp8 hk82).1
    have hS2 := (hZ2.2 _ (oe_mem hk82)).2.2.2.2 _ (oS_mem hsi2)
    obtain ⟨⟨⟨k92, hl92⟩, -⟩, -⟩ := id hS2.2.2.1
    have hE2 : G47 (E.2.2.2 0) = none := hQ.out hG
    refine lv_astore (lv' := [(5, .ref (sA (oS (oe os2 kp8) si))), (4, .int (nI kp8)), (0, .ref a), (1, .ref a1), (2, .int t), (3, .ref d9.1)]) hx hb d_Zo_insert_50 hl (by decide) rfl (fun ls hl => ?_)
    refine lv_aload hx hb d_Zo_insert_52 (lv_at hl 0 rfl) ?_
    refine zg_get (ci := 5) (C := "ZoneAnswers$Rrset") (T := T_Rr) (N := 3) hx hb hts zi_Rr hown hK hG hS2.1 rfl 2 (by decide) (hts _ w_628) (fun _ h9 => h9) rfl d_Zo_insert_54 ?_
    refine lv_aload_n hx hb d_Zo_insert_57 rfl (lv_at hl 5 rfl) ?_
    have hGo58 := hG
    refine zk_i (va_runV (As := [.ref d9.1]) (rest := []) ⟨hx, hb, hml, hown, hts⟩ (t_AL_add_2 l E G47 (sL (oS (oe os2 kp8) si)) (sD (oS (oe os2 kp8) si)) ((sX (oS (oe os2 kp8) si)).map (·.1)) hS2.2.2.1.1 d9.1 (by obtain ⟨_, _, hz9, -⟩ := id hDd2; exact ⟨2, _, hz9, Or.inl rfl⟩) (by rw [List.length_map]; exact hDl2.1) B (by rw [List.length_map]; exact hDl2.2) hS2.els) (zcV 1 hts w_637 w_638 w_639 w_6 w_640 (by decide +kernel) ⟨Nat.le_of_ble_eq_true rfl, Nat.le_of_ble_eq_true rfl⟩) (zc_preV hbase hK hN hQ hG hS hl92 rfl) rfl rfl hl.1 rfl (lv_room (Nat.le_of_ble_eq_true rfl)) d_Zo_insert_58 ⟨(by dsimp only; omega), (by dsimp only; omega)⟩) hS (fun r58 G58 H locs hp58 hG hS => ?_)
    obtain ⟨d3, hL3, hd3, hx3⟩ := hp58.2
    have hE3 : G58 (E.2.2.2 0) = none := hQ.out hG
    obtain ⟨ro3, hro3, hfr3, hZ3⟩ := hZ2.addD hW.1 hk82 hss2 hsi2 hE2 hE3 hx3 hd3 hL3 hDd2
    have haz3 : G58 a = some (.inr (9, [.ref la, .ref tn, .ref st, .ref sd, .int rc])) := hS2.2.2.1.1.keep hE2 hx3 haz2 (by decide)
    have hra3 : ro3 a = (1, 0) := by rw [hro3 _ _ haz2]; exact hra2
    obtain ⟨hgo3, hgt3, hnr3⟩ := zgw_B (d2 := d3) (d9 := oD (oe os2 kp8)) (d := d9) hW hk82 hsi2
    obtain ⟨os3, eos3⟩ : ∃ z, z = os2.set kp8 (oSetX (oe os2 kp8) (oD (oe os2 kp8)) ((oX (oe os2 kp8)).set si (sSetX (oS (oe os2 kp8) si) d3 (sX (oS (oe os2 kp8) si) ++ [d9])))) := ⟨_, rfl⟩
    rw [← eos3] at hZ3 hgo3 hnr3
    have hlen3 : os3.length = os2.length := by rw [eos3, List.length_set]
    have hoe3 : oe os3 kp8 = oSetX (oe os2 kp8) (oD (oe os2 kp8)) ((oX (oe os2 kp8)).set si (sSetX (oS (oe os2 kp8) si) d3 (sX (oS (oe os2 kp8) si) ++ [d9]))) := by rw [eos3, oe_set hk82, if_pos rfl]
    have hSS3 : oS (oe os3 kp8) si = sSetX (oS (oe os2 kp8) si) d3 (sX (oS (oe os2 kp8) si) ++ [d9]) := by rw [hoe3, oS_set hsi2, if_pos rfl]
    have hgt9 : ∀ x t', zgt os3 x t' = if x = ls1 ∧ t' = t then zgt os x t' ++ [(sU (oS (oe os3 kp8) si), d9.2)] else zgt os x t' := fun x t' => by rw [eos3, hgt3 x t', hM2, hT2, hgt2, ← eos3, hSS3]; rfl
    have hsi3 : si < (oX (oe os3 kp8)).length := by rw [hoe3]; show si < (List.set _ _ _).length; rw [List.length_set]; exact hsi2
    have hsa9 : ∀ x t' q, zsa os x t' q → zsa os3 x t' q := fun x t' q h9 => by rw [eos3]; exact zsa_set (hsa2 x t' q h9) hk82 (fun s hs _ e => by rw [← e]; exact zsa_D (fun h => by rw [← oS_at h]; exact ⟨rfl, rfl⟩) hs)
    have hc9 : (os = [] ∨ oC (oe os 0) = none) → oC (oe os3 0) = none := fun h9 => by rw [eos3, oe_set hk82]; split; (rename_i e9; show oC (oe os2 kp8) = none; rw [← e9]; exact hc2x h9); exact hc2x h9
    refine lv_pop hx hb d_Zo_insert_61 rfl ?_
    refine lv_aload_n hx hb d_Zo_insert_62 rfl (lv_at hl 2 rfl) ?_
    refine lv_dup hx hb d_Zo_insert_63 rfl ?_
    refine zg_get (ci := 9) (C := "ZoneAnswers$Zone") (T := T_Zo) (N := 5) hx hb hts zi_Zo hown hK hG haz3 rfl 4 (by decide) (hts _ w_95) (fun _ h9 => h9) rfl d_Zo_insert_64 ?_
    refine lv_iconst (v := 1) hx hb d_Zo_insert_67 (by decide) ?_
    refine lv_iadd hx hb d_Zo_insert_68 ?_
    refine zg_put (ci := 9) (v := .int (rc + 1)) (ty := .int) (C := "ZoneAnswers$Zone") (T := T_Zo) (N := 5) hx hb hts zi_Zo t_Zo t_Zo_ok n_Zo hown hK hG hS haz3 rfl 4 (by decide) (hts _ w_95) (fun _ h9 => h9) rfl (by decide +kernel) rfl rfl (Nat.le_of_ble_eq_true rfl) d_Zo_insert_69 (fun H locs hG hS => ?_)
    obtain ⟨G21, eG21⟩ : ∃ z : zg_G, z = zg_up G58 a (.inr (9, [.ref la, .ref tn, .ref st, .ref sd, .int (rc + 1)])) := ⟨_, rfl⟩
    have hG : zP E G21 H := by rw [eG21]; exact hG
    have k22 : G21 a = some (.inr (9, [.ref la, .ref tn, .ref st, .ref sd, .int (rc + 1)])) := by rw [eG21]; exact zg_up_self _ _ _
    refine lv_aload_n hx hb d_Zo_insert_72 rfl (lv_at hl 2 rfl) ?_
    have hfr4 : zfr ro3 zKz G58 ro3 G21 := by rw [eG21]; exact zfr.up (by rw [hra3]; exact zKz_n (by decide) (by decide))
    have hZ4 : zZR E G21 ro3 la d1 os3 := by rw [eG21]; exact hZ3.upz haz3 hra3 hE3
    have hGo73 := hG
    refine zk_v (va_runV (As := []) (rest := []) ⟨hx, hb, hml, hown, hts⟩ (t_Zo_markCuts l E G21 a la tn st sd (rc + 1) k22 ro3 d1 os3 hZ4 (by omega) (by omega) hgo3.1 (fun o ho => by obtain ⟨j, hj, e⟩ := oe_ix ho; rw [← e]; exact (hgo3.2 j hj).2.1)) (zcV 0 hts w_645 w_647 wp_9 w_3 w_648 (by decide +kernel) ⟨Nat.le_of_ble_eq_true rfl, Nat.le_of_ble_eq_true rfl⟩) (zc_preV hbase hK hN hQ hG hS k22 rfl) rfl rfl hl.1 rfl (lv_room (Nat.le_of_ble_eq_true rfl)) d_Zo_insert_73 ⟨(by dsimp only; omega), (by dsimp only; omega)⟩) hS (fun G73 H locs hp73 hG hS => ?_)
    obtain ⟨hZ5, hx5⟩ := hp73
    have haz5 : G73 a = some (.inr (9, [.ref la, .ref tn, .ref st, .ref sd, .int (rc + 1)])) := hx5 a _ (fun ⟨j, hj, e⟩ => zg_ne k22 (hZ4.2 _ (oe_mem hj)).1 (by intro h; simp at h) e) k22
    have hfr9 : zfr ro zKz G ro3 G73 := ((hfrA.tr hfr3).tr hfr4).tr (hZ4.frC hx5)
    refine lv_aload hx hb d_Zo_insert_76 (lv_at hl 0 rfl) ?_
    exact hret (some (sA (oS (oe os2 kp8) si))) _ _ _ _ _ _ _ _ hr (Or.inl ⟨_, rfl⟩) (⟨ro3, d1, os3, kp8, si, hZ5, hfr9, hra3, haz5, hgo3, by omega, by omega, by omega, by rw [hoe3]; exact hM2, hsi3, by rw [hSS3]; exact hT2, by rw [hSS3]; rfl, hgt9, hc9, hsa9⟩) hG hS (by dsimp only; omega) (by dsimp only; omega) d_Zo_insert_78
