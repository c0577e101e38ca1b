theorem zAN.keep {E : zc_E} {G G2 : zg_G} {S : Nat → Prop} {m6 m7 m8 m9 m10 m11 m12 cap : Nat} {an : List zAt} (h : zAN E G m6 m7 m8 m9 m10 m11 m12 cap an) (hx : zx S G G2) (hS : ∀ q, S q → ∃ fs, G q = some (.inr (11, fs))) : zAN E G2 m6 m7 m8 m9 m10 m11 m12 cap an := by
  have go : ∀ (q : Nat) (y : ClassId × vp_A), G q = some (.inl y) → G2 q = some (.inl y) := by
    intro q y hq
    refine hx q _ (fun z => ?_) hq
    obtain ⟨fs, e⟩ := hS q z
    rw [hq] at e; cases e
  obtain ⟨h1, h2, f6, f7, f8, f9, f10, f11, f12, a6, a7, a8, a9, a10, a11, a12, he, r1, r2⟩ := h
  refine ⟨h1, h2, f6, f7, f8, f9, f10, f11, f12, go _ _ a6, go _ _ a7, go _ _ a8, go _ _ a9, go _ _ a10, go _ _ a11, go _ _ a12, fun i hi => ?_, fun j v hv => ?_, fun j v hv => ?_⟩
  · obtain ⟨e6, e7, e8, e9, e10, e11, e12, fn, b1, b2⟩ := he i hi
    exact ⟨e6, e7, e8, e9, e10, e11, e12, fn, go _ _ b1, b2⟩
  · obtain ⟨nx, fx, q⟩ := r1 j v hv
    exact ⟨nx, fx, go _ _ q⟩
  · obtain ⟨nx, fx, q⟩ := r2 j v hv
    exact ⟨nx, fx, go _ _ q⟩

abbrev rm_Mo_records : Room := { frames := 1, cells := 0, slots := 0, locals := 30 }
set_option maxHeartbeats 4000000 in
set_option maxRecDepth 100000 in
/-- records(y), of the reference -/
theorem t_Mo_records (l : Launch) (E : zc_E) (G : zg_G) (an : List zAt) (cap : Nat) (a m1 m3 m4 m6 m7 m8 m9 m10 m11 m12 m15 m18 : Nat) (th tn m5 m14 m16 m17 : Int32) (m19 m20 : Value) (ha : G a = some (.inr (11, [.int th, .ref m1, .int tn, .ref m3, .ref m4, .int m5, .ref m6, .ref m7, .ref m8, .ref m9, .ref m10, .ref m11, .ref m12, .int (nI an.length), .int m14, .ref m15, .int m16, .int m17, .ref m18, m19, m20]))) (hAN : zAN E G m6 m7 m8 m9 m10 m11 m12 cap an) (y : Int32) : zMi l E y_Mo_records c_Mo_records 4 (some .int) rm_Mo_records [.ref a, .int y] G (fun (r : Int32) (G2 : zg_G) => zx (fun q => q = a) G G2 ∧ (((¬ y = 1 ∧ ¬ y = 2 ∧ ¬ y = 3) ∧ r = 0 ∧ G2 a = some (.inr (11, [.int 1, .ref m1, .int tn, .ref m3, .ref m4, .int m5, .ref m6, .ref m7, .ref m8, .ref m9, .ref m10, .ref m11, .ref m12, .int (nI an.length), .int m14, .ref m15, .int m16, .int m17, .ref m18, m19, m20]))) ∨ ((y = 1 ∨ y = 2 ∨ y = 3) ∧ r = nI (zas an y an.length) ∧ G2 a = some (.inr (11, [.int 0, .ref m1, .int tn, .ref m3, .ref m4, .int m5, .ref m6, .ref m7, .ref m8, .ref m9, .ref m10, .ref m11, .ref m12, .int (nI an.length), .int m14, .ref m15, .int m16, .int m17, .ref m18, m19, m20]))))) := by
  refine zMi.of (by decide) (Nat.le_of_ble_eq_true rfl) ?_
  intro p e s m args below meth c Q hZ hG hret ls hl
  obtain ⟨hx, hb, hr, hts, hown, hlocks, hml, hnm, hbase, hK, hN, hQ⟩ := hZ
  have hl : lv_has ls 4 [(0, .ref a), (1, .int y)] := hl
  have hS : zg_S (zc_b E) s.heap s.heap [] := va_S.rf
  obtain ⟨hA1, hA2, f6, f7, f8, f9, f10, f11, f12, hA6, hA7, hA8, hA9, hA10, hA11, hA12, hAe, hAr1, hAr2⟩ := id hAN
  have hx0 : zx (fun q => q = a) G G := zx.rf
  refine lv_aload_n hx hb d_Mo_records_0 rfl (lv_at hl 0 rfl) ?_
  refine lv_iconst (v := 0) hx hb d_Mo_records_1 (by decide) ?_
  refine zg_put (ci := 11) (v := .int 0) (ty := .int) (C := "ZoneAnswersModel") (T := T_Mo) (N := 21) hx hb hts zi_Mo t_Mo t_Mo_ok n_Mo hown hK hG hS ha rfl 0 (by decide) (hts _ w_1281) (fun _ h9 => h9) rfl (by decide +kernel) rfl rfl (Nat.le_of_ble_eq_true rfl) d_Mo_records_2 (fun H locs hG hS => ?_)
  obtain ⟨G1, eG1⟩ : ∃ z : zg_G, z = zg_up G a (.inr (11, [.int 0, .ref m1, .int tn, .ref m3, .ref m4, .int m5, .ref m6, .ref m7, .ref m8, .ref m9, .ref m10, .ref m11, .ref m12, .int (nI an.length), .int m14, .ref m15, .int m16, .int m17, .ref m18, m19, m20])) := ⟨_, rfl⟩
  have hG : zP E G1 H := by rw [eG1]; exact hG
  have hx2 : zx (fun q => q = a) G G1 := hx0.tr (by rw [eG1]; exact zx.up (rfl))
  have k3 : G1 a = some (.inr (11, [.int 0, .ref m1, .int tn, .ref m3, .ref m4, .int m5, .ref m6, .ref m7, .ref m8, .ref m9, .ref m10, .ref m11, .ref m12, .int (nI an.length), .int m14, .ref m15, .int m16, .int m17, .ref m18, m19, m20])) := by rw [eG1]; exact zg_up_self _ _ _
  have k4 : G1 m6 = some (.inl (E.2.1 1, cap, .inl f6)) := by rw [eG1, zg_up_ne (zg_ne hA6 ha (by intro h; simp at h))]; exact hA6
  refine lv_iload_n hx hb d_Mo_records_5 rfl (lv_at hl 1 rfl) ?_
  refine lv_iconst (v := 1) hx hb d_Mo_records_6 (by decide) ?_
  refine lv_icmp_lt (tgt := 15) hx hb d_Mo_records_7 (by decide) (fun c7 => ?_) (fun c7 => ?_)
  · refine lv_aload_n hx hb d_Mo_records_15 rfl (lv_at hl 0 rfl) ?_
    refine lv_iconst (v := 1) hx hb d_Mo_records_16 (by decide) ?_
    have hGo17 := hG
    refine zk_i (va_runV (As := [.int 1]) (rest := []) ⟨hx, hb, hml, hown, hts⟩ (t_Mo_fail l E G1 a m1 m3 m4 m6 m7 m8 m9 m10 m11 m12 m15 m18 0 tn m5 (nI an.length) m14 m16 m17 m19 m20 k3 1) (zcV 1 hts w_1354 w_1356 wp_26 w_30 w_1357 (by decide +kernel) ⟨Nat.le_of_ble_eq_true rfl, Nat.le_of_ble_eq_true rfl⟩) (zc_preV hbase hK hN hQ hG hS k3 rfl) rfl rfl hl.1 rfl (lv_room (Nat.le_of_ble_eq_true rfl)) d_Mo_records_17 ⟨(by decide), (by decide)⟩) hS (fun r17 G17 H locs hp17 hG hS => ?_)
    refine zi_as (y := 0) hp17.1 ?_
    have hx5 : zx (fun q => q = a) G G17 := hx2.tr (by rw [hp17.2]; exact zx.up (rfl))
    have k6 : G17 a = some (.inr (11, [.int 1, .ref m1, .int tn, .ref m3, .ref m4, .int m5, .ref m6, .ref m7, .ref m8, .ref m9, .ref m10, .ref m11, .ref m12, .int (nI an.length), .int m14, .ref m15, .int m16, .int m17, .ref m18, m19, m20])) := by rw [hp17.2]; exact zg_up_self _ _ _
    have k7 : G17 m6 = some (.inl (E.2.1 1, cap, .inl f6)) := by rw [hp17.2, zg_up_ne (zg_ne k4 k3 (by intro h; simp at h))]; exact k4
    exact hret _ _ _ _ _ _ _ _ _ hr (rfl) (⟨hx5, Or.inl ⟨zsec4 (by first | exact Or.inl c7 | exact Or.inr c12), rfl, k6⟩⟩) hG hS (Nat.le_refl _) (Nat.le_refl _) d_Mo_records_20
  · refine lv_iload_n hx hb d_Mo_records_10 rfl (lv_at hl 1 rfl) ?_
    refine lv_iconst (v := 3) hx hb d_Mo_records_11 (by decide) ?_
    refine lv_icmp_le (tgt := 21) hx hb d_Mo_records_12 (by decide) (fun c12 => ?_) (fun c12 => ?_)
    · refine lv_iconst (v := 0) hx hb d_Mo_records_21 (by decide) ?_
      refine zi_as (y := nI 0) (nI_0.symm) ?_
      refine lv_istore_n (lv' := [(2, .int (nI 0)), (0, .ref a), (1, .int y)]) hx hb d_Mo_records_22 rfl hl (by decide) rfl (fun ls hl => ?_)
      refine lv_iconst (v := 0) hx hb d_Mo_records_23 (by decide) ?_
      refine zi_as (y := nI 0) (nI_0.symm) ?_
      refine lv_istore_n (lv' := [(3, .int (nI 0)), (2, .int (nI 0)), (0, .ref a), (1, .int y)]) hx hb d_Mo_records_24 rfl hl (by decide) rfl (fun ls hl => ?_)
      have loop25 : ∀ (N : Nat) (Gx : zg_G) (i : Nat) (kt : Nat) (H : Heap) (locs : List Loc), (an.length - i) < N → (i ≤ an.length) → (kt = zas an y i) → (Gx a = some (.inr (11, [.int 0, .ref m1, .int tn, .ref m3, .ref m4, .int m5, .ref m6, .ref m7, .ref m8, .ref m9, .ref m10, .ref m11, .ref m12, .int (nI an.length), .int m14, .ref m15, .int m16, .int m17, .ref m18, m19, m20]))) → (Gx m6 = some (.inl (E.2.1 1, cap, .inl f6))) → (zx (fun q => q = a) G Gx) → zP E Gx H → zg_S (zc_b E) s.heap H locs → ∀ (ls : Array Slot), lv_has ls 4 [(0, .ref a), (1, .int y), (2, .int (nI kt)), (3, .int (nI i))] → W p l e rm_Mo_records s m args below meth c H locs 0 0 Q (F0 m 25 ls []) := by
        intro N
        induction N with
        | zero =>
          intro Gx i kt H locs hlt
          exact absurd hlt (Nat.not_lt_zero _)
        | succ N ih =>
          intro Gx i kt H locs hlt hi hkt kk_a kk_m6 hxl hG hS ls hl
          refine lv_iload_n hx hb d_Mo_records_25 rfl (lv_at hl 3 rfl) ?_
          refine lv_aload_n hx hb d_Mo_records_26 rfl (lv_at hl 0 rfl) ?_
          refine zg_get (ci := 11) (C := "ZoneAnswersModel") (T := T_Mo) (N := 21) hx hb hts zi_Mo hown hK hG kk_a rfl 13 (by decide) (hts _ w_1294) (fun _ h9 => h9) rfl d_Mo_records_27 ?_
          refine lv_icmp_ge (tgt := 52) hx hb d_Mo_records_30 (by decide) (fun c30 => ?_) (fun c30 => ?_)
          · have b30 : an.length ≤ i := (nI_leI (a := an.length) (b := i) (by omega) (by omega)).mp c30
            refine lv_iload_n hx hb d_Mo_records_52 rfl (lv_at hl 2 rfl) ?_
            exact hret _ _ _ _ _ _ _ _ _ hr (rfl) (⟨hxl, Or.inr ⟨zsec3 c7 c12, by rw [hkt, show i = an.length by omega], kk_a⟩⟩) hG hS (Nat.le_refl _) (Nat.le_refl _) d_Mo_records_53
          · have b30 : ¬ an.length ≤ i := fun q => c30 ((nI_leI (a := an.length) (b := i) (by omega) (by omega)).mpr q)
            have hin : i < an.length := by omega
            obtain ⟨e6, -⟩ := hAe i hin
            have zl9 := zas_le (an := an) (y := y) i
            refine lv_aload_n hx hb d_Mo_records_33 rfl (lv_at hl 0 rfl) ?_
            refine zg_get (ci := 11) (C := "ZoneAnswersModel") (T := T_Mo) (N := 21) hx hb hts zi_Mo hown hK hG kk_a rfl 6 (by decide) (hts _ w_1287) (fun _ h9 => h9) rfl d_Mo_records_34 ?_
            refine lv_iload_n hx hb d_Mo_records_37 rfl (lv_at hl 3 rfl) ?_
            refine zg_iald hx hb hK hG 1 kk_m6 rfl (vp_in_nI (by omega) (by omega)) d_Mo_records_38 ?_
            refine zi_as (y := aS (ae an i)) (by rw [zi_n _ (by omega)]; exact e6) ?_
            refine lv_iload_n hx hb d_Mo_records_39 rfl (lv_at hl 1 rfl) ?_
            refine lv_icmp_ne (tgt := 46) hx hb d_Mo_records_40 (by decide) (fun c40 => ?_) (fun c40 => ?_)
            · refine lv_iinc (v := nI (i + 1)) (lv' := [(3, .int (nI (i + 1))), (0, .ref a), (1, .int y), (2, .int (nI kt))]) hx hb d_Mo_records_46 hl (k := 3) rfl (nI_add i 1) (by decide) rfl (fun ls hl => ?_)
              refine lv_goto (tgt := 25) hx hb d_Mo_records_49 (by decide) ?_
              exact ih Gx (i + 1) kt _ _ (by omega) (by omega) (by rw [hkt]; first | exact (zas_y c40).symm | exact (zas_n c40).symm) (kk_a) (kk_m6) (hxl) hG hS ls (lv_sub hl [1, 2, 3, 0] rfl)
            · refine lv_iinc (v := nI (kt + 1)) (lv' := [(2, .int (nI (kt + 1))), (0, .ref a), (1, .int y), (3, .int (nI i))]) hx hb d_Mo_records_43 hl (k := 2) rfl (nI_add kt 1) (by decide) rfl (fun ls hl => ?_)
              refine lv_iinc (v := nI (i + 1)) (lv' := [(3, .int (nI (i + 1))), (2, .int (nI (kt + 1))), (0, .ref a), (1, .int y)]) hx hb d_Mo_records_46 hl (k := 3) rfl (nI_add i 1) (by decide) rfl (fun ls hl => ?_)
              refine lv_goto (tgt := 25) hx hb d_Mo_records_49 (by decide) ?_
              exact ih Gx (i + 1) (kt + 1) _ _ (by omega) (by omega) (by rw [hkt]; first | exact (zas_y c40).symm | exact (zas_n c40).symm) (kk_a) (kk_m6) (hxl) hG hS ls (lv_sub hl [2, 3, 1, 0] rfl)
      exact loop25 _ G1 0 0 _ _ (Nat.lt_succ_self _) (Nat.zero_le _) (rfl) (k3) (k4) (hx2) hG hS ls (lv_sub hl [2, 3, 1, 0] rfl)
    · refine lv_aload_n hx hb d_Mo_records_15 rfl (lv_at hl 0 rfl) ?_
      refine lv_iconst (v := 1) hx hb d_Mo_records_16 (by decide) ?_
      have hGo17 := hG
      refine zk_i (va_runV (As := [.int 1]) (rest := []) ⟨hx, hb, hml, hown, hts⟩ (t_Mo_fail l E G1 a m1 m3 m4 m6 m7 m8 m9 m10 m11 m12 m15 m18 0 tn m5 (nI an.length) m14 m16 m17 m19 m20 k3 1) (zcV 1 hts w_1354 w_1356 wp_26 w_30 w_1357 (by decide +kernel) ⟨Nat.le_of_ble_eq_true rfl, Nat.le_of_ble_eq_true rfl⟩) (zc_preV hbase hK hN hQ hG hS k3 rfl) rfl rfl hl.1 rfl (lv_room (Nat.le_of_ble_eq_true rfl)) d_Mo_records_17 ⟨(by decide), (by decide)⟩) hS (fun r17 G17 H locs hp17 hG hS => ?_)
      refine zi_as (y := 0) hp17.1 ?_
      have hx8 : zx (fun q => q = a) G G17 := hx2.tr (by rw [hp17.2]; exact zx.up (rfl))
      have k9 : G17 a = some (.inr (11, [.int 1, .ref m1, .int tn, .ref m3, .ref m4, .int m5, .ref m6, .ref m7, .ref m8, .ref m9, .ref m10, .ref m11, .ref m12, .int (nI an.length), .int m14, .ref m15, .int m16, .int m17, .ref m18, m19, m20])) := by rw [hp17.2]; exact zg_up_self _ _ _
      have k10 : G17 m6 = some (.inl (E.2.1 1, cap, .inl f6)) := by rw [hp17.2, zg_up_ne (zg_ne k4 k3 (by intro h; simp at h))]; exact k4
      exact hret _ _ _ _ _ _ _ _ _ hr (rfl) (⟨hx8, Or.inl ⟨zsec4 (by first | exact Or.inl c7 | exact Or.inr c12), rfl, k9⟩⟩) hG hS (Nat.le_refl _) (Nat.le_refl _) d_Mo_records_20
abbrev rm_Mo_told : Room := { frames := 2, cells := 0, slots := 0, locals := 60 }
set_option maxHeartbeats 4000000 in
set_option maxRecDepth 100000 in
/-- told(y, z, u), of the reference -/
theorem t_Mo_told (l : Launch) (E : zc_E) (G : zg_G) (an : List zAt) (cap : Nat) (a m1 m3 m4 m6 m7 m8 m9 m10 m11 m12 m15 m18 : Nat) (th tn m5 m14 m16 m17 : Int32) (m19 m20 : Value) (ha : G a = some (.inr (11, [.int th, .ref m1, .int tn, .ref m3, .ref m4, .int m5, .ref m6, .ref m7, .ref m8, .ref m9, .ref m10, .ref m11, .ref m12, .int (nI an.length), .int m14, .ref m15, .int m16, .int m17, .ref m18, m19, m20]))) (hAN : zAN E G m6 m7 m8 m9 m10 m11 m12 cap an) (y z u : Int32) : zMi l E y_Mo_told c_Mo_told 5 (some .int) rm_Mo_told [.ref a, .int y, .int z, .int u] G (fun (r : Int32) (G2 : zg_G) => zx (fun q => q = a) G G2 ∧ (((z < 0 ∨ (¬ y = 1 ∧ ¬ y = 2 ∧ ¬ y = 3) ∨ nI (zas an y an.length) ≤ z) ∧ r = 0 ∧ G2 a = some (.inr (11, [.int 1, .ref m1, .int tn, .ref m3, .ref m4, .int m5, .ref m6, .ref m7, .ref m8, .ref m9, .ref m10, .ref m11, .ref m12, .int (nI an.length), .int m14, .ref m15, .int m16, .int m17, .ref m18, m19, m20]))) ∨ ∃ i, i < an.length ∧ (aS (ae an i) = y ∧ z = nI (zas an y i) ∧ (y = 1 ∨ y = 2 ∨ y = 3)) ∧ ((u = 0 ∧ r = aT (ae an i) ∧ G2 a = some (.inr (11, [.int 0, .ref m1, .int tn, .ref m3, .ref m4, .int m5, .ref m6, .ref m7, .ref m8, .ref m9, .ref m10, .ref m11, .ref m12, .int (nI an.length), .int m14, .ref m15, .int m16, .int m17, .ref m18, m19, m20]))) ∨ (u = 1 ∧ r = aU (ae an i) ∧ G2 a = some (.inr (11, [.int 0, .ref m1, .int tn, .ref m3, .ref m4, .int m5, .ref m6, .ref m7, .ref m8, .ref m9, .ref m10, .ref m11, .ref m12, .int (nI an.length), .int m14, .ref m15, .int m16, .int m17, .ref m18, m19, m20]))) ∨ (u = 2 ∧ r = nI (np_len (aM (ae an i))) ∧ G2 a = some (.inr (11, [.int 0, .ref m1, .int tn, .ref m3, .ref m4, .int m5, .ref m6, .ref m7, .ref m8, .ref m9, .ref m10, .ref m11, .ref m12, .int (nI an.length), .int m14, .ref m15, .int m16, .int m17, .ref m18, m19, m20]))) ∨ (u = 3 ∧ r = nI (aZ (ae an i)) ∧ G2 a = some (.inr (11, [.int 0, .ref m1, .int tn, .ref m3, .ref m4, .int m5, .ref m6, .ref m7, .ref m8, .ref m9, .ref m10, .ref m11, .ref m12, .int (nI an.length), .int m14, .ref m15, .int m16, .int m17, .ref m18, m19, m20]))) ∨ ((¬ u = 0 ∧ ¬ u = 1 ∧ ¬ u = 2 ∧ ¬ u = 3) ∧ r = 0 ∧ G2 a = some (.inr (11, [.int 2, .ref m1, .int tn, .ref m3, .ref m4, .int m5, .ref m6, .ref m7, .ref m8, .ref m9, .ref m10, .ref m11, .ref m12, .int (nI an.length), .int m14, .ref m15, .int m16, .int m17, .ref m18, m19, m20])))))) := by
  refine zMi.of (by decide) (Nat.le_of_ble_eq_true rfl) ?_
  intro p e s m args below meth c Q hZ hG hret ls hl
  obtain ⟨hx, hb, hr, hts, hown, hlocks, hml, hnm, hbase, hK, hN, hQ⟩ := hZ
  have hl : lv_has ls 5 [(0, .ref a), (1, .int y), (2, .int z), (3, .int u)] := hl
  have hS : zg_S (zc_b E) s.heap s.heap [] := va_S.rf
  obtain ⟨hA1, hA2, f6, f7, f8, f9, f10, f11, f12, hA6, hA7, hA8, hA9, hA10, hA11, hA12, hAe, hAr1, hAr2⟩ := id hAN
  have hx0 : zx (fun q => q = a) G G := zx.rf
  refine lv_aload_n hx hb d_Mo_told_0 rfl (lv_at hl 0 rfl) ?_
  refine lv_iconst (v := 0) hx hb d_Mo_told_1 (by decide) ?_
  refine zg_put (ci := 11) (v := .int 0) (ty := .int) (C := "ZoneAnswersModel") (T := T_Mo) (N := 21) hx hb hts zi_Mo t_Mo t_Mo_ok n_Mo hown hK hG hS ha rfl 0 (by decide) (hts _ w_1281) (fun _ h9 => h9) rfl (by decide +kernel) rfl rfl (Nat.le_of_ble_eq_true rfl) d_Mo_told_2 (fun H locs hG hS => ?_)
  obtain ⟨G1, eG1⟩ : ∃ z : zg_G, z = zg_up G a (.inr (11, [.int 0, .ref m1, .int tn, .ref m3, .ref m4, .int m5, .ref m6, .ref m7, .ref m8, .ref m9, .ref m10, .ref m11, .ref m12, .int (nI an.length), .int m14, .ref m15, .int m16, .int m17, .ref m18, m19, m20])) := ⟨_, rfl⟩
  have hG : zP E G1 H := by rw [eG1]; exact hG
  have hx2 : zx (fun q => q = a) G G1 := hx0.tr (by rw [eG1]; exact zx.up (rfl))
  have k3 : G1 a = some (.inr (11, [.int 0, .ref m1, .int tn, .ref m3, .ref m4, .int m5, .ref m6, .ref m7, .ref m8, .ref m9, .ref m10, .ref m11, .ref m12, .int (nI an.length), .int m14, .ref m15, .int m16, .int m17, .ref m18, m19, m20])) := by rw [eG1]; exact zg_up_self _ _ _
  have k4 : G1 m6 = some (.inl (E.2.1 1, cap, .inl f6)) := by rw [eG1, zg_up_ne (zg_ne hA6 ha (by intro h; simp at h))]; exact hA6
  have k5 : G1 m7 = some (.inl (E.2.1 1, cap, .inl f7)) := by rw [eG1, zg_up_ne (zg_ne hA7 ha (by intro h; simp at h))]; exact hA7
  have k6 : G1 m8 = some (.inl (E.2.1 1, cap, .inl f8)) := by rw [eG1, zg_up_ne (zg_ne hA8 ha (by intro h; simp at h))]; exact hA8
  have k7 : G1 m9 = some (.inl (E.2.1 1, cap, .inl f9)) := by rw [eG1, zg_up_ne (zg_ne hA9 ha (by intro h; simp at h))]; exact hA9
  have k8 : G1 m10 = some (.inl (E.2.1 1, cap, .inl f10)) := by rw [eG1, zg_up_ne (zg_ne hA10 ha (by intro h; simp at h))]; exact hA10
  have k9 : G1 m11 = some (.inl (E.2.1 5, cap, .inr (.inr (.inr (.inr f11))))) := by rw [eG1, zg_up_ne (zg_ne hA11 ha (by intro h; simp at h))]; exact hA11
  have k10 : G1 m12 = some (.inl (E.2.1 5, cap, .inr (.inr (.inr (.inr f12))))) := by rw [eG1, zg_up_ne (zg_ne hA12 ha (by intro h; simp at h))]; exact hA12
  refine lv_aload_n hx hb d_Mo_told_5 rfl (lv_at hl 0 rfl) ?_
  refine lv_iload_n hx hb d_Mo_told_6 rfl (lv_at hl 1 rfl) ?_
  refine lv_iload_n hx hb d_Mo_told_7 rfl (lv_at hl 2 rfl) ?_
  have hGo8 := hG
  refine zk_i (va_runV (As := [.int y, .int z]) (rest := []) ⟨hx, hb, hml, hown, hts⟩ (t_Mo_place l E G1 an cap a m1 m3 m4 m6 m7 m8 m9 m10 m11 m12 m15 m18 0 tn m5 m14 m16 m17 m19 m20 k3 (hAN.keep hx2 (fun q z => ⟨_, z ▸ ha⟩)) y z) (zcV 2 hts w_1584 w_1586 wp_60 w_30 w_1587 (by decide +kernel) ⟨Nat.le_of_ble_eq_true rfl, Nat.le_of_ble_eq_true rfl⟩) (zc_preV hbase hK hN hQ hG hS k3 rfl) rfl rfl hl.1 rfl (lv_room (Nat.le_of_ble_eq_true rfl)) d_Mo_told_8 ⟨(by decide), (by decide)⟩) hS (fun r8 G8 H locs hp8 hG hS => ?_)
  rcases hp8 with ⟨⟨i, hin, hpi1, hpi2, hpi3, er8⟩ | ⟨hno, er8⟩, eg8⟩
  · have hpi : aS (ae an i) = y ∧ z = nI (zas an y i) ∧ (y = 1 ∨ y = 2 ∨ y = 3) := ⟨hpi1, hpi2, hpi3⟩
    have hG : zP E G1 H := eg8 ▸ hG
    refine zi_as (y := nI i) er8 ?_
    obtain ⟨e6, e7, e8, e9, e10, e11, e12, fn, hn1, hn2, hn3, hn4⟩ := hAe i hin
    have sm := hn3.2
    have k11 : G1 (aN (ae an i)) = some (.inl (E.2.1 0, np_len (aM (ae an i)), .inl fn)) := hx2 _ _ (zg_ne hn1 ha (by intro h; cases h)) hn1
    refine lv_istore (lv' := [(4, .int (nI i)), (0, .ref a), (1, .int y), (2, .int z), (3, .int u)]) hx hb d_Mo_told_11 hl (by decide) rfl (fun ls hl => ?_)
    refine lv_iload hx hb d_Mo_told_13 (lv_at hl 0 rfl) ?_
    refine lv_if_ge (tgt := 24) hx hb d_Mo_told_15 (by decide) (fun c15 => ?_) (fun c15 => ?_)
    · have b15 : 0 ≤ i := (nI_leI (a := 0) (b := i) (by omega) (by omega)).mp c15
      refine lv_iload_n hx hb d_Mo_told_24 rfl (lv_at hl 4 rfl) ?_
      by_cases s25_0 : u = 0
      · refine lv_tableIn (off := 31) (tgt := 56) hx hb d_Mo_told_25 (by rw [s25_0]; decide) (by rw [s25_0]; decide) (by rw [s25_0]; rfl) (by decide) ?_
        refine lv_aload_n hx hb d_Mo_told_56 rfl (lv_at hl 1 rfl) ?_
        refine zg_get (ci := 11) (C := "ZoneAnswersModel") (T := T_Mo) (N := 21) hx hb hts zi_Mo hown hK hG k3 rfl 7 (by decide) (hts _ w_1288) (fun _ h9 => h9) rfl d_Mo_told_57 ?_
        refine lv_iload hx hb d_Mo_told_60 (lv_at hl 0 rfl) ?_
        refine zg_iald hx hb hK hG 1 k5 rfl (vp_in_nI (by omega) (by omega)) d_Mo_told_62 ?_
        refine zi_as (y := aT (ae an i)) (by rw [zi_n _ (by omega)]; exact e7) ?_
        exact hret _ _ _ _ _ _ _ _ _ hr (rfl) (⟨hx2, Or.inr ⟨i, hin, hpi, Or.inl ⟨s25_0, rfl, k3⟩⟩⟩) hG hS (Nat.le_refl _) (Nat.le_refl _) d_Mo_told_63
      by_cases s25_1 : u = 1
      · refine lv_tableIn (off := 39) (tgt := 64) hx hb d_Mo_told_25 (by rw [s25_1]; decide) (by rw [s25_1]; decide) (by rw [s25_1]; rfl) (by decide) ?_
        refine lv_aload_n hx hb d_Mo_told_64 rfl (lv_at hl 1 rfl) ?_
        refine zg_get (ci := 11) (C := "ZoneAnswersModel") (T := T_Mo) (N := 21) hx hb hts zi_Mo hown hK hG k3 rfl 8 (by decide) (hts _ w_1289) (fun _ h9 => h9) rfl d_Mo_told_65 ?_
        refine lv_iload hx hb d_Mo_told_68 (lv_at hl 0 rfl) ?_
        refine zg_iald hx hb hK hG 1 k6 rfl (vp_in_nI (by omega) (by omega)) d_Mo_told_70 ?_
        refine zi_as (y := aU (ae an i)) (by rw [zi_n _ (by omega)]; exact e8) ?_
        exact hret _ _ _ _ _ _ _ _ _ hr (rfl) (⟨hx2, Or.inr ⟨i, hin, hpi, Or.inr (Or.inl ⟨s25_1, rfl, k3⟩)⟩⟩) hG hS (Nat.le_refl _) (Nat.le_refl _) d_Mo_told_71
      by_cases s25_2 : u = 2
      · refine lv_tableIn (off := 47) (tgt := 72) hx hb d_Mo_told_25 (by rw [s25_2]; decide) (by rw [s25_2]; decide) (by rw [s25_2]; rfl) (by decide) ?_
        refine lv_aload_n hx hb d_Mo_told_72 rfl (lv_at hl 1 rfl) ?_
        refine zg_get (ci := 11) (C := "ZoneAnswersModel") (T := T_Mo) (N := 21) hx hb hts zi_Mo hown hK hG k3 rfl 11 (by decide) (hts _ w_1292) (fun _ h9 => h9) rfl d_Mo_told_73 ?_
        refine lv_iload hx hb d_Mo_told_76 (lv_at hl 0 rfl) ?_
        refine zg_aldA hx hb hK hG 5 k9 rfl (vp_in_nI (by omega) (by omega)) d_Mo_told_78 ?_
        refine zr_as (y := f11 i) (by rw [zi_n _ (by omega)]) ?_
        refine zr_some (a := aN (ae an i)) (e11) ?_
        refine zg_alen hx hb hK hG 0 k11 rfl (v := nI (np_len (aM (ae an i)))) rfl d_Mo_told_79 ?_
        exact hret _ _ _ _ _ _ _ _ _ hr (rfl) (⟨hx2, Or.inr ⟨i, hin, hpi, Or.inr (Or.inr (Or.inl ⟨s25_2, rfl, k3⟩))⟩⟩) hG hS (Nat.le_refl _) (Nat.le_refl _) d_Mo_told_80
      by_cases s25_3 : u = 3
      · refine lv_tableIn (off := 56) (tgt := 81) hx hb d_Mo_told_25 (by rw [s25_3]; decide) (by rw [s25_3]; decide) (by rw [s25_3]; rfl) (by decide) ?_
        refine lv_aload_n hx hb d_Mo_told_81 rfl (lv_at hl 1 rfl) ?_
        refine zg_get (ci := 11) (C := "ZoneAnswersModel") (T := T_Mo) (N := 21) hx hb hts zi_Mo hown hK hG k3 rfl 10 (by decide) (hts _ w_1291) (fun _ h9 => h9) rfl d_Mo_told_82 ?_
        refine lv_iload hx hb d_Mo_told_85 (lv_at hl 0 rfl) ?_
        refine zg_iald hx hb hK hG 1 k8 rfl (vp_in_nI (by omega) (by omega)) d_Mo_told_87 ?_
        refine zi_as (y := nI (aZ (ae an i))) (by rw [zi_n _ (by omega)]; exact e10) ?_
        exact hret _ _ _ _ _ _ _ _ _ hr (rfl) (⟨hx2, Or.inr ⟨i, hin, hpi, Or.inr (Or.inr (Or.inr (Or.inl ⟨s25_3, rfl, k3⟩)))⟩⟩) hG hS (Nat.le_refl _) (Nat.le_refl _) d_Mo_told_88
      refine lv_tableOut (tgt := 89) hx hb d_Mo_told_25 (by have ns25_0 := lv_neT (k := 0) (a := 0) s25_0 (by decide); have ns25_1 := lv_neT (k := 1) (a := 1) s25_1 (by decide); have ns25_2 := lv_neT (k := 2) (a := 2) s25_2 (by decide); have ns25_3 := lv_neT (k := 3) (a := 3) s25_3 (by decide); omega) (by decide) ?_
      refine lv_aload_n hx hb d_Mo_told_89 rfl (lv_at hl 1 rfl) ?_
      refine lv_iconst (v := 2) hx hb d_Mo_told_90 (by decide) ?_
      have hGo91 := hG
      refine zk_i (va_runV (As := [.int 2]) (rest := []) ⟨hx, hb, hml, hown, hts⟩ (t_Mo_fail l E G1 a m1 m3 m4 m6 m7 m8 m9 m10 m11 m12 m15 m18 0 tn m5 (nI an.length) m14 m16 m17 m19 m20 k3 2) (zcV 1 hts w_1354 w_1356 wp_26 w_30 w_1357 (by decide +kernel) ⟨Nat.le_of_ble_eq_true rfl, Nat.le_of_ble_eq_true rfl⟩) (zc_preV hbase hK hN hQ hG hS k3 rfl) rfl rfl hl.1 rfl (lv_room (Nat.le_of_ble_eq_true rfl)) d_Mo_told_91 ⟨(by decide), (by decide)⟩) hS (fun r91 G91 H locs hp91 hG hS => ?_)
      refine zi_as (y := 0) hp91.1 ?_
      have hx12 : zx (fun q => q = a) G G91 := hx2.tr (by rw [hp91.2]; exact zx.up (rfl))
      have k13 : G91 a = some (.inr (11, [.int 2, .ref m1, .int tn, .ref m3, .ref m4, .int m5, .ref m6, .ref m7, .ref m8, .ref m9, .ref m10, .ref m11, .ref m12, .int (nI an.length), .int m14, .ref m15, .int m16, .int m17, .ref m18, m19, m20])) := by rw [hp91.2]; exact zg_up_self _ _ _
      have k14 : G91 m6 = some (.inl (E.2.1 1, cap, .inl f6)) := by rw [hp91.2, zg_up_ne (zg_ne k4 k3 (by intro h; simp at h))]; exact k4
      have k15 : G91 m7 = some (.inl (E.2.1 1, cap, .inl f7)) := by rw [hp91.2, zg_up_ne (zg_ne k5 k3 (by intro h; simp at h))]; exact k5
      have k16 : G91 m8 = some (.inl (E.2.1 1, cap, .inl f8)) := by rw [hp91.2, zg_up_ne (zg_ne k6 k3 (by intro h; simp at h))]; exact k6
      have k17 : G91 m9 = some (.inl (E.2.1 1, cap, .inl f9)) := by rw [hp91.2, zg_up_ne (zg_ne k7 k3 (by intro h; simp at h))]; exact k7
      have k18 : G91 m10 = some (.inl (E.2.1 1, cap, .inl f10)) := by rw [hp91.2, zg_up_ne (zg_ne k8 k3 (by intro h; simp at h))]; exact k8
      have k19 : G91 m11 = some (.inl (E.2.1 5, cap, .inr (.inr (.inr (.inr f11))))) := by rw [hp91.2, zg_up_ne (zg_ne k9 k3 (by intro h; simp at h))]; exact k9
      have k20 : G91 m12 = some (.inl (E.2.1 5, cap, .inr (.inr (.inr (.inr f12))))) := by rw [hp91.2, zg_up_ne (zg_ne k10 k3 (by intro h; simp at h))]; exact k10
      have k21 : G91 (aN (ae an i)) = some (.inl (E.2.1 0, np_len (aM (ae an i)), .inl fn)) := by rw [hp91.2, zg_up_ne (zg_ne k11 k3 (by intro h; simp at h))]; exact k11
      exact hret _ _ _ _ _ _ _ _ _ hr (rfl) (⟨hx12, Or.inr ⟨i, hin, hpi, Or.inr (Or.inr (Or.inr (Or.inr ⟨⟨s25_0, s25_1, s25_2, s25_3⟩, rfl, k13⟩)))⟩⟩) hG hS (Nat.le_refl _) (Nat.le_refl _) d_Mo_told_94
    · have b15 : ¬ 0 ≤ i := fun q => c15 ((nI_leI (a := 0) (b := i) (by omega) (by omega)).mpr q)
      exact absurd (Nat.zero_le _) b15
  · have hG : zP E G1 H := eg8 ▸ hG
    refine zi_as (y := -1) er8 ?_
    refine lv_istore (lv' := [(4, .int (-1)), (0, .ref a), (1, .int y), (2, .int z), (3, .int u)]) hx hb d_Mo_told_11 hl (by decide) rfl (fun ls hl => ?_)
    refine lv_iload hx hb d_Mo_told_13 (lv_at hl 0 rfl) ?_
    refine lv_if_ge (tgt := 24) hx hb d_Mo_told_15 (by decide) (fun c15 => ?_) (fun c15 => ?_)
    · exact absurd c15 (by decide)
    · refine lv_aload_n hx hb d_Mo_told_18 rfl (lv_at hl 1 rfl) ?_
      refine lv_iconst (v := 1) hx hb d_Mo_told_19 (by decide) ?_
      have hGo20 := hG
      refine zk_i (va_runV (As := [.int 1]) (rest := []) ⟨hx, hb, hml, hown, hts⟩ (t_Mo_fail l E G1 a m1 m3 m4 m6 m7 m8 m9 m10 m11 m12 m15 m18 0 tn m5 (nI an.length) m14 m16 m17 m19 m20 k3 1) (zcV 1 hts w_1354 w_1356 wp_26 w_30 w_1357 (by decide +kernel) ⟨Nat.le_of_ble_eq_true rfl, Nat.le_of_ble_eq_true rfl⟩) (zc_preV hbase hK hN hQ hG hS k3 rfl) rfl rfl hl.1 rfl (lv_room (Nat.le_of_ble_eq_true rfl)) d_Mo_told_20 ⟨(by decide), (by decide)⟩) hS (fun r20 G20 H locs hp20 hG hS => ?_)
      refine zi_as (y := 0) hp20.1 ?_
      have hx22 : zx (fun q => q = a) G G20 := hx2.tr (by rw [hp20.2]; exact zx.up (rfl))
      have k23 : G20 a = some (.inr (11, [.int 1, .ref m1, .int tn, .ref m3, .ref m4, .int m5, .ref m6, .ref m7, .ref m8, .ref m9, .ref m10, .ref m11, .ref m12, .int (nI an.length), .int m14, .ref m15, .int m16, .int m17, .ref m18, m19, m20])) := by rw [hp20.2]; exact zg_up_self _ _ _
      have k24 : G20 m6 = some (.inl (E.2.1 1, cap, .inl f6)) := by rw [hp20.2, zg_up_ne (zg_ne k4 k3 (by intro h; simp at h))]; exact k4
      have k25 : G20 m7 = some (.inl (E.2.1 1, cap, .inl f7)) := by rw [hp20.2, zg_up_ne (zg_ne k5 k3 (by intro h; simp at h))]; exact k5
      have k26 : G20 m8 = some (.inl (E.2.1 1, cap, .inl f8)) := by rw [hp20.2, zg_up_ne (zg_ne k6 k3 (by intro h; simp at h))]; exact k6
      have k27 : G20 m9 = some (.inl (E.2.1 1, cap, .inl f9)) := by rw [hp20.2, zg_up_ne (zg_ne k7 k3 (by intro h; simp at h))]; exact k7
      have k28 : G20 m10 = some (.inl (E.2.1 1, cap, .inl f10)) := by rw [hp20.2, zg_up_ne (zg_ne k8 k3 (by intro h; simp at h))]; exact k8
      have k29 : G20 m11 = some (.inl (E.2.1 5, cap, .inr (.inr (.inr (.inr f11))))) := by rw [hp20.2, zg_up_ne (zg_ne k9 k3 (by intro h; simp at h))]; exact k9
      have k30 : G20 m12 = some (.inl (E.2.1 5, cap, .inr (.inr (.inr (.inr f12))))) := by rw [hp20.2, zg_up_ne (zg_ne k10 k3 (by intro h; simp at h))]; exact k10
      exact hret _ _ _ _ _ _ _ _ _ hr (rfl) (⟨hx22, Or.inl ⟨hno, rfl, k23⟩⟩) hG hS (Nat.le_refl _) (Nat.le_refl _) d_Mo_told_23
