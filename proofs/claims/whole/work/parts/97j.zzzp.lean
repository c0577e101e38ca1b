
abbrev rm_Mo_pool_x (c9 s9 : Nat) : Room := { frames := 0, cells := c9, slots := s9, locals := 0 }
set_option maxHeartbeats 4000000 in
set_option maxRecDepth 100000 in
/-- pool(v), of the reference, to the cell -/
theorem t_Mo_pool_x (l : Launch) (E : zc_E) (G : zg_G) (pl : List Int32) (a m1 m3 m4 m6 m7 m8 m9 m10 m11 m12 m15 m18 : Nat) (th tn m5 m13 m14 m17 : Int32) (m19 m20 : Value) (ha : G a = some (.inr (11, [.int th, .ref m1, .int tn, .ref m3, .ref m4, .int m5, .ref m6, .ref m7, .ref m8, .ref m9, .ref m10, .ref m11, .ref m12, .int m13, .int m14, .ref m15, .int (nI pl.length), .int m17, .ref m18, m19, m20]))) (pcx : Nat) (fp : Nat → Int32) (hm15 : G m15 = some (.inl (E.2.1 0, pcx, .inl fp))) (hpl : pl.length ≤ pcx) (hp0 : 0 < pcx) (hp1 : pcx ≤ 2 ^ 20) (hfp : ∀ j, j < pl.length → fp j = pl.getD j 0) (hftp : sb_Fit fp) (v : Int32) (cy sy : Nat) (h9 : pcx = pl.length → 1 ≤ cy ∧ 2 * pcx ≤ sy) : zMv l E y_Mo_pool c_Mo_pool 4 (rm_Mo_pool_x cy sy) [.ref a, .int v] G (fun (G2 : zg_G) => ∃ (q cx : Nat) (f2 : Nat → Int32), (q = m15 ∨ G q = none) ∧ zx (fun q => q = a ∨ q = m15) G G2 ∧ G2 a = some (.inr (11, [.int th, .ref m1, .int tn, .ref m3, .ref m4, .int m5, .ref m6, .ref m7, .ref m8, .ref m9, .ref m10, .ref m11, .ref m12, .int m13, .int m14, .ref q, .int (nI (pl.length + 1)), .int m17, .ref m18, m19, m20])) ∧ G2 q = some (.inl (E.2.1 0, cx, .inl f2)) ∧ cx = (if pcx = pl.length then 2 * pl.length else pcx) ∧ (∀ j, j < pl.length + 1 → f2 j = (pl ++ [v.toInt8.toInt32]).getD j 0) ∧ sb_Fit f2) := by
  refine zMv.of (by decide) (Nat.le_of_ble_eq_true rfl) ?_
  intro p e s m args below meth c Q hZ hG hret ls hl
  obtain ⟨hx, hb, hr, hts, hown, hlocks, hml, hnm, hbase, hK, hN, hQ⟩ := hZ
  have hl : lv_has ls 4 [(0, .ref a), (1, .int v)] := hl
  have hS : zg_S (zc_b E) s.heap s.heap [] := va_S.rf
  have hx0 : zx (fun q => q = a ∨ q = m15) G G := zx.rf
  refine lv_aload_n hx hb d_Mo_pool_0 rfl (lv_at hl 0 rfl) ?_
  refine zg_get (ci := 11) (C := "ZoneAnswersModel") (T := T_Mo) (N := 21) hx hb hts zi_Mo hown hK hG ha rfl 16 (by decide) (hts _ w_1297) (fun _ h9 => h9) rfl d_Mo_pool_1 ?_
  refine lv_aload_n hx hb d_Mo_pool_4 rfl (lv_at hl 0 rfl) ?_
  refine zg_get (ci := 11) (C := "ZoneAnswersModel") (T := T_Mo) (N := 21) hx hb hts zi_Mo hown hK hG ha rfl 15 (by decide) (hts _ w_1296) (fun _ h9 => h9) rfl d_Mo_pool_5 ?_
  refine zg_alen hx hb hK hG 0 hm15 rfl (v := nI pcx) rfl d_Mo_pool_8 ?_
  refine lv_icmp_ne (tgt := 51) hx hb d_Mo_pool_9 (by decide) (fun c9 => ?_) (fun c9 => ?_)
  · have b9 : ¬ pl.length = pcx := fun q => c9 ((nI_eq (a := pl.length) (b := pcx) (by omega) (by omega)).mpr q)
    refine lv_aload_n hx hb d_Mo_pool_51 rfl (lv_at hl 0 rfl) ?_
    refine zg_get (ci := 11) (C := "ZoneAnswersModel") (T := T_Mo) (N := 21) hx hb hts zi_Mo hown hK hG ha rfl 15 (by decide) (hts _ w_1296) (fun _ h9 => h9) rfl d_Mo_pool_52 ?_
    refine lv_aload_n hx hb d_Mo_pool_55 rfl (lv_at hl 0 rfl) ?_
    refine zg_get (ci := 11) (C := "ZoneAnswersModel") (T := T_Mo) (N := 21) hx hb hts zi_Mo hown hK hG ha rfl 16 (by decide) (hts _ w_1297) (fun _ h9 => h9) rfl d_Mo_pool_56 ?_
    refine lv_iload_n hx hb d_Mo_pool_59 rfl (lv_at hl 1 rfl) ?_
    refine lv_i2b hx hb d_Mo_pool_60 rfl ?_
    refine zg_bast hx hb hK hG hS 0 hm15 rfl (vp_in_nI (by omega) (by omega)) d_Mo_pool_61 (fun H locs hG hS => ?_)
    rw [zi_n pl.length (by omega)] at hG
    obtain ⟨G1, eG1⟩ : ∃ z : zg_G, z = zg_up G m15 (.inl (E.2.1 0, pcx, .inl (upd fp pl.length (vp_nar .byte v.toInt8.toInt32)))) := ⟨_, rfl⟩
    have hG : zP E G1 H := by rw [eG1]; exact hG
    have hx2 : zx (fun q => q = a ∨ q = m15) G G1 := hx0.tr (by rw [eG1]; exact zx.up (Or.inr rfl))
    have k3 : G1 a = some (.inr (11, [.int th, .ref m1, .int tn, .ref m3, .ref m4, .int m5, .ref m6, .ref m7, .ref m8, .ref m9, .ref m10, .ref m11, .ref m12, .int m13, .int m14, .ref m15, .int (nI pl.length), .int m17, .ref m18, m19, m20])) := by rw [eG1, zg_up_ne (zg_ne ha hm15 (by intro h; simp at h))]; exact ha
    have k4 : G1 m15 = some (.inl (E.2.1 0, pcx, .inl (upd fp pl.length (vp_nar .byte v.toInt8.toInt32)))) := by rw [eG1]; exact zg_up_self _ _ _
    refine lv_aload_n hx hb d_Mo_pool_62 rfl (lv_at hl 0 rfl) ?_
    refine lv_dup hx hb d_Mo_pool_63 rfl ?_
    refine zg_get (ci := 11) (C := "ZoneAnswersModel") (T := T_Mo) (N := 21) hx hb hts zi_Mo hown hK hG k3 rfl 16 (by decide) (hts _ w_1297) (fun _ h9 => h9) rfl d_Mo_pool_64 ?_
    refine lv_iconst (v := 1) hx hb d_Mo_pool_67 (by decide) ?_
    refine lv_iadd hx hb d_Mo_pool_68 ?_
    refine zi_as (y := nI (pl.length + 1)) (nI_add pl.length 1) ?_
    refine zg_put (ci := 11) (v := .int (nI (pl.length + 1))) (ty := .int) (C := "ZoneAnswersModel") (T := T_Mo) (N := 21) hx hb hts zi_Mo t_Mo t_Mo_ok n_Mo hown hK hG hS k3 rfl 16 (by decide) (hts _ w_1297) (fun _ h9 => h9) rfl (by decide +kernel) rfl rfl (Nat.le_of_ble_eq_true rfl) d_Mo_pool_69 (fun H locs hG hS => ?_)
    obtain ⟨G5, eG5⟩ : ∃ z : zg_G, z = zg_up G1 a (.inr (11, [.int th, .ref m1, .int tn, .ref m3, .ref m4, .int m5, .ref m6, .ref m7, .ref m8, .ref m9, .ref m10, .ref m11, .ref m12, .int m13, .int m14, .ref m15, .int (nI (pl.length + 1)), .int m17, .ref m18, m19, m20])) := ⟨_, rfl⟩
    have hG : zP E G5 H := by rw [eG5]; exact hG
    have hx6 : zx (fun q => q = a ∨ q = m15) G G5 := hx2.tr (by rw [eG5]; exact zx.up (Or.inl rfl))
    have k7 : G5 a = some (.inr (11, [.int th, .ref m1, .int tn, .ref m3, .ref m4, .int m5, .ref m6, .ref m7, .ref m8, .ref m9, .ref m10, .ref m11, .ref m12, .int m13, .int m14, .ref m15, .int (nI (pl.length + 1)), .int m17, .ref m18, m19, m20])) := by rw [eG5]; exact zg_up_self _ _ _
    have k8 : G5 m15 = some (.inl (E.2.1 0, pcx, .inl (upd fp pl.length (vp_nar .byte v.toInt8.toInt32)))) := by rw [eG5, zg_up_ne (zg_ne k4 k3 (by intro h; simp at h))]; exact k4
    exact hret _ _ _ _ _ _ _ (⟨m15, pcx, _, Or.inl rfl, hx6, k7, k8, by rw [if_neg (by omega)], zpl_up hfp, zf_fitu hftp⟩) hG hS (by first | omega | (have hh := h9 (by omega); dsimp only; omega)) (by first | omega | (have hh := h9 (by omega); dsimp only; omega)) d_Mo_pool_72
  · have b9 : pl.length = pcx := (nI_eq (a := pl.length) (b := pcx) (by omega) (by omega)).mp c9
    refine lv_iconst (v := 2) hx hb d_Mo_pool_12 (by decide) ?_
    refine lv_aload_n hx hb d_Mo_pool_13 rfl (lv_at hl 0 rfl) ?_
    refine zg_get (ci := 11) (C := "ZoneAnswersModel") (T := T_Mo) (N := 21) hx hb hts zi_Mo hown hK hG ha rfl 16 (by decide) (hts _ w_1297) (fun _ h9 => h9) rfl d_Mo_pool_14 ?_
    refine lv_imul hx hb d_Mo_pool_17 ?_
    refine zi_as (y := nI (2 * pl.length)) (pk_mul 2 pl.length) ?_
    refine zg_newp (atype := .byte) (ty := .byte) (N' := 2 * pl.length) (a0 := (2 * pl.length, .inl (fun _ => 0))) hx hb (hts _ w_58) rfl hK hG hS hbase (fun _ => rfl) (nI_pos (by omega)) (zi_n _ (by omega)) (by show _ * _ ≤ _; simp only [componentBytes]; omega) (by first | (have hh := h9 (by omega); dsimp only; omega) | (dsimp only; omega)) (by first | (have hh := h9 (by omega); dsimp only; omega) | (dsimp only; omega)) d_Mo_pool_18 0 rfl (fun _ h => h) (fun q18 H n18 hG hS => ?_)
    obtain ⟨G9, eG9⟩ : ∃ z : zg_G, z = zg_up G q18 (.inl (E.2.1 0, 2 * pl.length, .inl (fun _ => 0))) := ⟨_, rfl⟩
    have hG : zP E G9 H := by rw [eG9]; exact hG
    have hx10 : zx (fun q => q = a ∨ q = m15) G G9 := hx0.tr (by rw [eG9]; exact zx.nw n18)
    have ne18_a : a ≠ q18 := zg_fr n18 ha
    have k11 : G9 a = some (.inr (11, [.int th, .ref m1, .int tn, .ref m3, .ref m4, .int m5, .ref m6, .ref m7, .ref m8, .ref m9, .ref m10, .ref m11, .ref m12, .int m13, .int m14, .ref m15, .int (nI pl.length), .int m17, .ref m18, m19, m20])) := by rw [eG9, zg_up_ne (zg_fr n18 ha)]; exact ha
    have ne18_m15 : m15 ≠ q18 := zg_fr n18 hm15
    have k12 : G9 m15 = some (.inl (E.2.1 0, pcx, .inl fp)) := by rw [eG9, zg_up_ne (zg_fr n18 hm15)]; exact hm15
    have k13 : G9 q18 = some (.inl (E.2.1 0, 2 * pl.length, .inl (fun _ => 0))) := by rw [eG9]; exact zg_up_self _ _ _
    refine lv_astore_n (lv' := [(2, .ref q18), (0, .ref a), (1, .int v)]) hx hb d_Mo_pool_20 rfl hl (by decide) rfl (fun ls hl => ?_)
    refine lv_iconst (v := 0) hx hb d_Mo_pool_21 (by decide) ?_
    refine lv_istore_n (lv' := [(3, .int 0), (2, .ref q18), (0, .ref a), (1, .int v)]) hx hb d_Mo_pool_22 rfl hl (by decide) rfl (fun ls hl => ?_)
    have loop23 : ∀ (N : Nat) (Gx : zg_G) (i : Nat) (f2 : Nat → Int32) (H : Heap) (locs : List Loc), (pl.length - i) < N → (i ≤ pl.length) → (∀ j, j < i → f2 j = fp j) → (sb_Fit f2) → (Gx a = some (.inr (11, [.int th, .ref m1, .int tn, .ref m3, .ref m4, .int m5, .ref m6, .ref m7, .ref m8, .ref m9, .ref m10, .ref m11, .ref m12, .int m13, .int m14, .ref m15, .int (nI pl.length), .int m17, .ref m18, m19, m20]))) → (Gx m15 = some (.inl (E.2.1 0, pcx, .inl fp))) → (Gx q18 = some (.inl (E.2.1 0, 2 * pl.length, .inl f2))) → (zx (fun q => q = a ∨ q = m15) G Gx) → zP E Gx H → zg_S (zc_b E) s.heap H locs → ∀ (ls : Array Slot), lv_has ls 4 [(0, .ref a), (1, .int v), (2, .ref q18), (3, .int (nI i))] → W p l e (rm_Mo_pool_x cy sy) s m args below meth c H locs (0 + 1) (0 + (2 * pl.length)) Q (F0 m 23 ls []) := by
      intro N
      induction N with
      | zero =>
        intro Gx i f2 H locs hlt
        exact absurd hlt (Nat.not_lt_zero _)
      | succ N ih =>
        intro Gx i f2 H locs hlt hi hq2 hft2 kk_a kk_m15 kk_q18 hxl hG hS ls hl
        refine lv_iload_n hx hb d_Mo_pool_23 rfl (lv_at hl 3 rfl) ?_
        refine lv_aload_n hx hb d_Mo_pool_24 rfl (lv_at hl 0 rfl) ?_
        refine zg_get (ci := 11) (C := "ZoneAnswersModel") (T := T_Mo) (N := 21) hx hb hts zi_Mo hown hK hG kk_a rfl 16 (by decide) (hts _ w_1297) (fun _ h9 => h9) rfl d_Mo_pool_25 ?_
        refine lv_icmp_ge (tgt := 46) hx hb d_Mo_pool_28 (by decide) (fun c28 => ?_) (fun c28 => ?_)
        · have b28 : pl.length ≤ i := (nI_leI (a := pl.length) (b := i) (by omega) (by omega)).mp c28
          refine lv_aload_n hx hb d_Mo_pool_46 rfl (lv_at hl 0 rfl) ?_
          refine lv_aload_n hx hb d_Mo_pool_47 rfl (lv_at hl 2 rfl) ?_
          refine zg_put (ci := 11) (v := .ref q18) (ty := .array .byte) (C := "ZoneAnswersModel") (T := T_Mo) (N := 21) hx hb hts zi_Mo t_Mo t_Mo_ok n_Mo hown hK hG hS kk_a rfl 15 (by decide) (hts _ w_1296) (fun _ h9 => h9) rfl (by decide +kernel) rfl rfl (Nat.le_of_ble_eq_true rfl) d_Mo_pool_48 (fun H locs hG hS => ?_)
          obtain ⟨G14, eG14⟩ : ∃ z : zg_G, z = zg_up Gx a (.inr (11, [.int th, .ref m1, .int tn, .ref m3, .ref m4, .int m5, .ref m6, .ref m7, .ref m8, .ref m9, .ref m10, .ref m11, .ref m12, .int m13, .int m14, .ref q18, .int (nI pl.length), .int m17, .ref m18, m19, m20])) := ⟨_, rfl⟩
          have hG : zP E G14 H := by rw [eG14]; exact hG
          have hx15 : zx (fun q => q = a ∨ q = m15) G G14 := hxl.tr (by rw [eG14]; exact zx.up (Or.inl rfl))
          have k16 : G14 a = some (.inr (11, [.int th, .ref m1, .int tn, .ref m3, .ref m4, .int m5, .ref m6, .ref m7, .ref m8, .ref m9, .ref m10, .ref m11, .ref m12, .int m13, .int m14, .ref q18, .int (nI pl.length), .int m17, .ref m18, m19, m20])) := by rw [eG14]; exact zg_up_self _ _ _
          have k17 : G14 m15 = some (.inl (E.2.1 0, pcx, .inl fp)) := by rw [eG14, zg_up_ne (zg_ne kk_m15 kk_a (by intro h; simp at h))]; exact kk_m15
          have k18 : G14 q18 = some (.inl (E.2.1 0, 2 * pl.length, .inl f2)) := by rw [eG14, zg_up_ne (Ne.symm ne18_a)]; exact kk_q18
          refine lv_aload_n hx hb d_Mo_pool_51 rfl (lv_at hl 0 rfl) ?_
          refine zg_get (ci := 11) (C := "ZoneAnswersModel") (T := T_Mo) (N := 21) hx hb hts zi_Mo hown hK hG k16 rfl 15 (by decide) (hts _ w_1296) (fun _ h9 => h9) rfl d_Mo_pool_52 ?_
          refine lv_aload_n hx hb d_Mo_pool_55 rfl (lv_at hl 0 rfl) ?_
          refine zg_get (ci := 11) (C := "ZoneAnswersModel") (T := T_Mo) (N := 21) hx hb hts zi_Mo hown hK hG k16 rfl 16 (by decide) (hts _ w_1297) (fun _ h9 => h9) rfl d_Mo_pool_56 ?_
          refine lv_iload_n hx hb d_Mo_pool_59 rfl (lv_at hl 1 rfl) ?_
          refine lv_i2b hx hb d_Mo_pool_60 rfl ?_
          refine zg_bast hx hb hK hG hS 0 k18 rfl (vp_in_nI (by omega) (by omega)) d_Mo_pool_61 (fun H locs hG hS => ?_)
          rw [zi_n pl.length (by omega)] at hG
          obtain ⟨G19, eG19⟩ : ∃ z : zg_G, z = zg_up G14 q18 (.inl (E.2.1 0, 2 * pl.length, .inl (upd f2 pl.length (vp_nar .byte v.toInt8.toInt32)))) := ⟨_, rfl⟩
          have hG : zP E G19 H := by rw [eG19]; exact hG
          have hx20 : zx (fun q => q = a ∨ q = m15) G G19 := by rw [eG19]; exact hx15.upn n18
          have k21 : G19 a = some (.inr (11, [.int th, .ref m1, .int tn, .ref m3, .ref m4, .int m5, .ref m6, .ref m7, .ref m8, .ref m9, .ref m10, .ref m11, .ref m12, .int m13, .int m14, .ref q18, .int (nI pl.length), .int m17, .ref m18, m19, m20])) := by rw [eG19, zg_up_ne (ne18_a)]; exact k16
          have k22 : G19 m15 = some (.inl (E.2.1 0, pcx, .inl fp)) := by rw [eG19, zg_up_ne (ne18_m15)]; exact k17
          have k23 : G19 q18 = some (.inl (E.2.1 0, 2 * pl.length, .inl (upd f2 pl.length (vp_nar .byte v.toInt8.toInt32)))) := by rw [eG19]; exact zg_up_self _ _ _
          refine lv_aload_n hx hb d_Mo_pool_62 rfl (lv_at hl 0 rfl) ?_
          refine lv_dup hx hb d_Mo_pool_63 rfl ?_
          refine zg_get (ci := 11) (C := "ZoneAnswersModel") (T := T_Mo) (N := 21) hx hb hts zi_Mo hown hK hG k21 rfl 16 (by decide) (hts _ w_1297) (fun _ h9 => h9) rfl d_Mo_pool_64 ?_
          refine lv_iconst (v := 1) hx hb d_Mo_pool_67 (by decide) ?_
          refine lv_iadd hx hb d_Mo_pool_68 ?_
          refine zi_as (y := nI (pl.length + 1)) (nI_add pl.length 1) ?_
          refine zg_put (ci := 11) (v := .int (nI (pl.length + 1))) (ty := .int) (C := "ZoneAnswersModel") (T := T_Mo) (N := 21) hx hb hts zi_Mo t_Mo t_Mo_ok n_Mo hown hK hG hS k21 rfl 16 (by decide) (hts _ w_1297) (fun _ h9 => h9) rfl (by decide +kernel) rfl rfl (Nat.le_of_ble_eq_true rfl) d_Mo_pool_69 (fun H locs hG hS => ?_)
          obtain ⟨G24, eG24⟩ : ∃ z : zg_G, z = zg_up G19 a (.inr (11, [.int th, .ref m1, .int tn, .ref m3, .ref m4, .int m5, .ref m6, .ref m7, .ref m8, .ref m9, .ref m10, .ref m11, .ref m12, .int m13, .int m14, .ref q18, .int (nI (pl.length + 1)), .int m17, .ref m18, m19, m20])) := ⟨_, rfl⟩
          have hG : zP E G24 H := by rw [eG24]; exact hG
          have hx25 : zx (fun q => q = a ∨ q = m15) G G24 := hx20.tr (by rw [eG24]; exact zx.up (Or.inl rfl))
          have k26 : G24 a = some (.inr (11, [.int th, .ref m1, .int tn, .ref m3, .ref m4, .int m5, .ref m6, .ref m7, .ref m8, .ref m9, .ref m10, .ref m11, .ref m12, .int m13, .int m14, .ref q18, .int (nI (pl.length + 1)), .int m17, .ref m18, m19, m20])) := by rw [eG24]; exact zg_up_self _ _ _
          have k27 : G24 m15 = some (.inl (E.2.1 0, pcx, .inl fp)) := by rw [eG24, zg_up_ne (zg_ne k22 k21 (by intro h; simp at h))]; exact k22
          have k28 : G24 q18 = some (.inl (E.2.1 0, 2 * pl.length, .inl (upd f2 pl.length (vp_nar .byte v.toInt8.toInt32)))) := by rw [eG24, zg_up_ne (Ne.symm ne18_a)]; exact k23
          exact hret _ _ _ _ _ _ _ (⟨q18, 2 * pl.length, _, Or.inr n18, hx25, k26, k28, by rw [if_pos (by omega)], zpl_up (fun j hj => by rw [hq2 j (by omega)]; exact hfp j hj), zf_fitu hft2⟩) hG hS (by first | omega | (have hh := h9 (by omega); dsimp only; omega)) (by first | omega | (have hh := h9 (by omega); dsimp only; omega)) d_Mo_pool_72
        · have b28 : ¬ pl.length ≤ i := fun q => c28 ((nI_leI (a := pl.length) (b := i) (by omega) (by omega)).mpr q)
          refine lv_aload_n hx hb d_Mo_pool_31 rfl (lv_at hl 2 rfl) ?_
          refine lv_iload_n hx hb d_Mo_pool_32 rfl (lv_at hl 3 rfl) ?_
          refine lv_aload_n hx hb d_Mo_pool_33 rfl (lv_at hl 0 rfl) ?_
          refine zg_get (ci := 11) (C := "ZoneAnswersModel") (T := T_Mo) (N := 21) hx hb hts zi_Mo hown hK hG kk_a rfl 15 (by decide) (hts _ w_1296) (fun _ h9 => h9) rfl d_Mo_pool_34 ?_
          refine lv_iload_n hx hb d_Mo_pool_37 rfl (lv_at hl 3 rfl) ?_
          refine zg_bald hx hb hK hG 0 kk_m15 rfl (vp_in_nI (by omega) (by omega)) d_Mo_pool_38 ?_
          refine zi_as (y := fp i) (by rw [zi_n _ (by omega)]) ?_
          refine zg_bast hx hb hK hG hS 0 kk_q18 rfl (vp_in_nI (by omega) (by omega)) d_Mo_pool_39 (fun H locs hG hS => ?_)
          rw [zi_n i (by omega)] at hG
          obtain ⟨G29, eG29⟩ : ∃ z : zg_G, z = zg_up Gx q18 (.inl (E.2.1 0, 2 * pl.length, .inl (upd f2 i (vp_nar .byte (fp i))))) := ⟨_, rfl⟩
          have hG : zP E G29 H := by rw [eG29]; exact hG
          have hx30 : zx (fun q => q = a ∨ q = m15) G G29 := by rw [eG29]; exact hxl.upn n18
          have k31 : G29 a = some (.inr (11, [.int th, .ref m1, .int tn, .ref m3, .ref m4, .int m5, .ref m6, .ref m7, .ref m8, .ref m9, .ref m10, .ref m11, .ref m12, .int m13, .int m14, .ref m15, .int (nI pl.length), .int m17, .ref m18, m19, m20])) := by rw [eG29, zg_up_ne (ne18_a)]; exact kk_a
          have k32 : G29 m15 = some (.inl (E.2.1 0, pcx, .inl fp)) := by rw [eG29, zg_up_ne (ne18_m15)]; exact kk_m15
          have k33 : G29 q18 = some (.inl (E.2.1 0, 2 * pl.length, .inl (upd f2 i (vp_nar .byte (fp i))))) := by rw [eG29]; exact zg_up_self _ _ _
          refine lv_iinc (v := nI (i + 1)) (lv' := [(3, .int (nI (i + 1))), (0, .ref a), (1, .int v), (2, .ref q18)]) hx hb d_Mo_pool_40 hl (k := 3) rfl (nI_add i 1) (by decide) rfl (fun ls hl => ?_)
          refine lv_goto (tgt := 23) hx hb d_Mo_pool_43 (by decide) ?_
          exact ih G29 (i + 1) (upd f2 i (vp_nar .byte (fp i))) _ _ (by omega) (by omega) (zcp_b hq2 hftp) (zf_fitu hft2) (k31) (k32) (k33) (hx30) hG hS ls (lv_sub hl [1, 2, 3, 0] rfl)
    exact loop23 _ G9 0 (fun _ => 0) _ _ (Nat.lt_succ_self _) (Nat.zero_le _) (fun j h => absurd h (Nat.not_lt_zero j)) (zf_fit0) (k11) (k12) (k13) (hx10) hG hS ls (lv_sub hl [2, 3, 1, 0] rfl)
theorem getD_ext {x y : List Int32} (hl : x.length = y.length) (h : ∀ j, j < x.length → x.getD j 0 = y.getD j 0) : x = y := by
  refine List.ext_getElem hl (fun j h1 h2 => ?_)
  have := h j h1
  rw [List.getD_eq_getElem?_getD, List.getD_eq_getElem?_getD, List.getElem?_eq_getElem h1, List.getElem?_eq_getElem h2] at this
  exact this
theorem t_Mo_pool_s (l : Launch) {E : zc_E} {G : zg_G} {ro : zRo} {a c1 c2 : Nat} {lo : np_N} {rs : List zRt} {W : zW} {px : List Int32} {qp : Prop} {nq : Nat × Int32 × np_N × zWs} {th co se : Int32} {tp : List Int32} {v19 v20 : Value} (hs : rSt E G ro a c1 c2 lo rs W px qp nq th tp co se v19 v20) (v : Int32) (hbd : rcp c2 (rPw W + px.length + 1) ≤ 2 ^ 20) : zMv l E y_Mo_pool c_Mo_pool 4 (rm_Mo_pool_x (2 * (rcp c2 (rPw W + px.length + 1) - rcp c2 (rPw W + px.length))) (2 * (rcp c2 (rPw W + px.length + 1) - rcp c2 (rPw W + px.length)))) [.ref a, .int v] G (fun G2 => ∃ r2, rSt E G2 r2 a c1 c2 lo rs W (px ++ [v.toInt8.toInt32]) qp nq th tp co se v19 v20 ∧ zfr ro zKr G r2 G2) := by
  obtain ⟨h, rfl, rfl, rfl, hc⟩ := hs
  obtain ⟨b1, b2, b3, b4, b5, b6, b7, ws, an, pl, ff, fp, p1, p2, p3, p4, p5, p6, p7, p8, ⟨x1, x2, x3, x4, x5, x6⟩, p10⟩ := id hc
  have hl : (pl ++ px).length = rPw W + px.length := by rw [List.length_append, p4]
  have b1' := b1
  rw [← hl] at b1' x1
  have hge := rcp_ge (c := h 41) (by omega) (rPw W + px.length)
  have hb := t_Mo_pool_x l E G (pl ++ px) (h 0) (h 1) (h 3) (h 4) (h 6) (h 7) (h 8) (h 9) (h 10) (h 11) (h 12) (h 15) (h 18) th (nI tp.length) (nI rs.length) (nI (wln W)) co se v19 v20 b1' (rcp (h 41) (pl ++ px).length) fp x1 (by rw [hl]; exact hge.1) (by rw [hl]; omega) (by rw [hl]; exact x3) (fun j hj => x4 j (by rw [← hl]; exact hj)) x5 v (2 * (rcp (h 41) (rPw W + px.length + 1) - rcp (h 41) (rPw W + px.length))) (2 * (rcp (h 41) (rPw W + px.length + 1) - rcp (h 41) (rPw W + px.length))) (fun z => by rw [hl] at z ⊢; rw [rcp_one z, z]; omega)
  refine hb.imp (fun G2 hp => ?_)
  obtain ⟨m15, cx, f2, hm, hx, h0, h15, ecx, hf2, hft⟩ := hp
  have el : rPw W + (px ++ [v.toInt8.toInt32]).length = rPw W + px.length + 1 := by rw [List.length_append]; rfl
  have ecx2 : cx = rcp (h 41) (rPw W + (px ++ [v.toInt8.toInt32]).length) := by rw [ecx, hl, el, rcp_s]
  rw [hl] at h0 x1
  refine rSt.pl (m15 := m15) (fp2 := f2) hc hx hm (by rw [el]; exact h0) (by rw [← ecx2]; exact h15) (by rw [el]; exact hbd) (fun fp' pl' hl' hg hco j hj => ?_) hft
  rw [hg] at x1
  have e : fp' = fp := by simpa using congrArg (fun o : Option va_E => match o with | some (.inl (_, _, .inl g)) => g | _ => fun _ => 0) x1
  subst e
  have e2 : pl' ++ px = pl ++ px := getD_ext (by rw [List.length_append, List.length_append, hl', p4]) (fun j hj => by rw [List.length_append, hl'] at hj; rw [← hco j hj, x4 j hj])
  rw [← List.append_assoc, e2]
  exact hf2 j (by rw [hl]; omega)
/-- one byte behind the answers changes -/
theorem rCx.poke {E : zc_E} {G : zg_G} {ro : zRo} {h : Nat → Nat} {lo : np_N} {rs : List zRt} {W : zW} {px : List Int32} {qp : Prop} {nq : Nat × Int32 × np_N × zWs} {th co se : Int32} {tp : List Int32} {v19 v20 : Value} (hc : rCx E G ro h lo rs W px qp nq th tp co se v19 v20) {fp : Nat → Int32} {cap : Nat} (h15 : G (h 15) = some (.inl (E.2.1 0, cap, .inl fp))) (j : Nat) (hj : j < px.length) (v : Int32) (hv : fits .byte (.int v) = true) : ∃ r2, rSt E (zg_up G (h 15) (.inl (E.2.1 0, cap, .inl (upd fp (rPw W + j) v)))) r2 (h 0) (h 40) (h 41) lo rs W (px.set j v) qp nq th tp co se v19 v20 ∧ zfr ro zKr G r2 (zg_up G (h 15) (.inl (E.2.1 0, cap, .inl (upd fp (rPw W + j) v)))) := by
  obtain ⟨b1, b2, b3, b4, b5, b6, b7, ws, an, pl, ff, fp9, p1, p2, p3, p4, p5, p6, p7, p8, ⟨x1, x2, x3, x4, x5, x6⟩, p10⟩ := id hc
  have el : (px.set j v).length = px.length := List.length_set
  have e9 : cap = rcp (h 41) (rPw W + px.length) ∧ fp = fp9 := by
    rw [x1] at h15
    have q := Option.some.inj h15
    have q2 := Sum.inl.inj q
    have q3 := (Prod.mk.inj q2).2
    exact ⟨((Prod.mk.inj q3).1).symm, (Sum.inl.inj (Prod.mk.inj q3).2).symm⟩
  obtain ⟨e9, e10⟩ := e9
  subst e9 e10
  have n0 : h 0 ≠ h 15 := fun w => by rw [w, x6] at b2; cases b2
  refine rSt.pl (m15 := h 15) hc (fun z e hz he => by rw [zg_up_ne (fun w => hz (Or.inr w))]; exact he) (Or.inl rfl) (by rw [el, zg_up_ne n0]; exact b1) (by rw [el]; exact zg_up_self _ _ _) (by rw [el]; exact x3) (fun fp' pl' hl' hg hco i hi => ?_) (fun i => ?_)
  · rw [el] at hi
    rw [hg] at x1
    have e : fp' = fp := by simpa using congrArg (fun o : Option va_E => match o with | some (.inl (_, _, .inl g)) => g | _ => fun _ => 0) x1
    subst e
    have e1 : pl' ++ px.set j v = (pl' ++ px).set (rPw W + j) v := by rw [List.set_append_right _ _ (by omega), hl', Nat.add_sub_cancel_left]
    rw [e1, getD_set (by rw [List.length_append]; omega)]
    unfold upd
    split
    · rfl
    · exact hco i hi
  · show fits .byte (.int (upd fp (rPw W + j) v i)) = true
    by_cases z : i = rPw W + j
    · rw [z, upd_s]; exact hv
    · rw [upd_o z]; exact x5 i
