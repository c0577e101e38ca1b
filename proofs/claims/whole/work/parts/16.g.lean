theorem w_82 : (.fieldLink "java/util/ArrayList" 63 "java/util/ArrayList" "modCount" "I" : Cond) ∈ zw := zw_at 82 (by decide +kernel) (by decide +kernel)
theorem w_83 : (.sameField "java/util/ArrayList" "java/util/AbstractList" "modCount" "I" : Cond) ∈ zw := zw_at 83 (by decide +kernel) (by decide +kernel)
abbrev c_AL_clear : ByteArray := prog_35_method_40_code
abbrev y_AL_clear : MethodName := ⟨"java/util/ArrayList", "clear", "()V"⟩
theorem d_AL_clear_0 : decode c_AL_clear 0 = .ok (.aload_n 0, 1) := by decide +kernel
theorem d_AL_clear_1 : decode c_AL_clear 1 = .ok (.dup, 1) := by decide +kernel
theorem d_AL_clear_2 : decode c_AL_clear 2 = .ok (.getfield 63, 3) := by decide +kernel
theorem d_AL_clear_5 : decode c_AL_clear 5 = .ok (.iconst 1, 1) := by decide +kernel
theorem d_AL_clear_6 : decode c_AL_clear 6 = .ok (.iadd, 1) := by decide +kernel
theorem d_AL_clear_7 : decode c_AL_clear 7 = .ok (.putfield 63, 3) := by decide +kernel
theorem d_AL_clear_10 : decode c_AL_clear 10 = .ok (.aload_n 0, 1) := by decide +kernel
theorem d_AL_clear_11 : decode c_AL_clear 11 = .ok (.getfield 9, 3) := by decide +kernel
theorem d_AL_clear_14 : decode c_AL_clear 14 = .ok (.astore_n 1, 1) := by decide +kernel
theorem d_AL_clear_15 : decode c_AL_clear 15 = .ok (.aload_n 0, 1) := by decide +kernel
theorem d_AL_clear_16 : decode c_AL_clear 16 = .ok (.getfield 48, 3) := by decide +kernel
theorem d_AL_clear_19 : decode c_AL_clear 19 = .ok (.istore_n 2, 1) := by decide +kernel
theorem d_AL_clear_20 : decode c_AL_clear 20 = .ok (.aload_n 0, 1) := by decide +kernel
theorem d_AL_clear_21 : decode c_AL_clear 21 = .ok (.iconst 0, 1) := by decide +kernel
theorem d_AL_clear_22 : decode c_AL_clear 22 = .ok (.dup_x1, 1) := by decide +kernel
theorem d_AL_clear_23 : decode c_AL_clear 23 = .ok (.putfield 48, 3) := by decide +kernel
theorem d_AL_clear_26 : decode c_AL_clear 26 = .ok (.istore_n 3, 1) := by decide +kernel
theorem d_AL_clear_27 : decode c_AL_clear 27 = .ok (.iload_n 3, 1) := by decide +kernel
theorem d_AL_clear_28 : decode c_AL_clear 28 = .ok (.iload_n 2, 1) := by decide +kernel
theorem d_AL_clear_29 : decode c_AL_clear 29 = .ok (.if_icmp .ge 13, 3) := by decide +kernel
theorem d_AL_clear_32 : decode c_AL_clear 32 = .ok (.aload_n 1, 1) := by decide +kernel
theorem d_AL_clear_33 : decode c_AL_clear 33 = .ok (.iload_n 3, 1) := by decide +kernel
theorem d_AL_clear_34 : decode c_AL_clear 34 = .ok (.aconst_null, 1) := by decide +kernel
theorem d_AL_clear_35 : decode c_AL_clear 35 = .ok (.aastore, 1) := by decide +kernel
theorem d_AL_clear_36 : decode c_AL_clear 36 = .ok (.iinc 3 1, 3) := by decide +kernel
theorem d_AL_clear_39 : decode c_AL_clear 39 = .ok (.goto (-12), 3) := by decide +kernel
theorem d_AL_clear_42 : decode c_AL_clear 42 = .ok (.return_, 1) := by decide +kernel
abbrev rm_AL_clear : Room := { frames := 0, cells := 0, slots := 0, locals := 0 }
set_option maxHeartbeats 4000000 in
set_option maxRecDepth 100000 in
/-- ArrayList.clear(), of a list that has had an element -/
theorem t_AL_clear (l : Launch) (E : zc_E) (G : zg_G) (a dd n cap : Nat) (k : Int32) (f : Nat → Option Nat) (ha : G a = some (.inr (0, [.ref dd, .int (nI n), .int k]))) (hd : G dd = some (.inl (E.2.1 3, cap, .inr (.inr (.inr (.inr f)))))) (hc : n ≤ cap) (hz : cap < 2 ^ 26) : zMv l E y_AL_clear c_AL_clear 4 rm_AL_clear [.ref a] G (fun (G2 : zg_G) => zx (fun q => q = a ∨ q = dd) G G2 ∧ G2 a = some (.inr (0, [.ref dd, .int 0, .int (k + 1)])) ∧ ∃ f2, G2 dd = some (.inl (E.2.1 3, cap, .inr (.inr (.inr (.inr f2))))) ∧ ∀ j, f2 j = if j < n then none else f j) := by
  refine zMv.of (by decide) (Nat.le_of_ble_eq_true rfl) ?_
  intro p e s m args below meth c Q hZ hG hret ls hl
  obtain ⟨hx, hb, hr, hts, hown, hlocks, hml, hnm, hbase, hK, hN, hQ⟩ := hZ
  have hl : lv_has ls 4 [(0, .ref a)] := hl
  have hS : zg_S (zc_b E) s.heap s.heap [] := va_S.rf
  have hne : a ≠ dd := zg_ne ha hd (by intro h; cases h)
  have hx0 : zx (fun q => q = a ∨ q = dd) G G := zx.rf
  refine lv_aload_n hx hb d_AL_clear_0 rfl (lv_at hl 0 rfl) ?_
  refine lv_dup hx hb d_AL_clear_1 rfl ?_
  refine zg_get (ci := 0) (C := "java/util/ArrayList") (T := T_AL) (N := 3) hx hb hts zi_AL hown hK hG ha rfl 2 (by decide) (hts _ w_82) (u_same (hts _ w_83)) rfl d_AL_clear_2 ?_
  refine lv_iconst (v := 1) hx hb d_AL_clear_5 (by decide) ?_
  refine lv_iadd hx hb d_AL_clear_6 ?_
  refine zg_put (ci := 0) (v := .int (k + 1)) (ty := .int) (C := "java/util/ArrayList") (T := T_AL) (N := 3) hx hb hts zi_AL t_AL t_AL_ok n_AL hown hK hG hS ha rfl 2 (by decide) (hts _ w_82) (u_same (hts _ w_83)) rfl (by decide +kernel) rfl rfl (Nat.le_of_ble_eq_true rfl) d_AL_clear_7 (fun H locs hG hS => ?_)
  obtain ⟨G1, eG1⟩ : ∃ z : zg_G, z = zg_up G a (.inr (0, [.ref dd, .int (nI n), .int (k + 1)])) := ⟨_, rfl⟩
  have hG : zP E G1 H := by rw [eG1]; exact hG
  have hx2 : zx (fun q => q = a ∨ q = dd) G G1 := hx0.tr (by rw [eG1]; exact zx.up (Or.inl rfl))
  have k3 : G1 a = some (.inr (0, [.ref dd, .int (nI n), .int (k + 1)])) := by rw [eG1]; exact zg_up_self _ _ _
  have k4 : G1 dd = some (.inl (E.2.1 3, cap, .inr (.inr (.inr (.inr f))))) := by rw [eG1, zg_up_ne (Ne.symm hne)]; exact hd
  refine lv_aload_n hx hb d_AL_clear_10 rfl (lv_at hl 0 rfl) ?_
  refine zg_get (ci := 0) (C := "java/util/ArrayList") (T := T_AL) (N := 3) hx hb hts zi_AL hown hK hG k3 rfl 0 (by decide) (hts _ w_79) (fun _ h9 => h9) rfl d_AL_clear_11 ?_
  refine lv_astore_n (lv' := [(1, .ref dd), (0, .ref a)]) hx hb d_AL_clear_14 rfl hl (by decide) rfl (fun ls hl => ?_)
  refine lv_aload_n hx hb d_AL_clear_15 rfl (lv_at hl 1 rfl) ?_
  refine zg_get (ci := 0) (C := "java/util/ArrayList") (T := T_AL) (N := 3) hx hb hts zi_AL hown hK hG k3 rfl 1 (by decide) (hts _ w_80) (fun _ h9 => h9) rfl d_AL_clear_16 ?_
  refine lv_istore_n (lv' := [(2, .int (nI n)), (1, .ref dd), (0, .ref a)]) hx hb d_AL_clear_19 rfl hl (by decide) rfl (fun ls hl => ?_)
  refine lv_aload_n hx hb d_AL_clear_20 rfl (lv_at hl 2 rfl) ?_
  refine lv_iconst (v := 0) hx hb d_AL_clear_21 (by decide) ?_
  refine lv_dup_x1 hx hb d_AL_clear_22 rfl rfl ?_
  refine zg_put (ci := 0) (v := .int 0) (ty := .int) (C := "java/util/ArrayList") (T := T_AL) (N := 3) hx hb hts zi_AL t_AL t_AL_ok n_AL hown hK hG hS k3 rfl 1 (by decide) (hts _ w_80) (fun _ h9 => h9) rfl (by decide +kernel) rfl rfl (Nat.le_of_ble_eq_true rfl) d_AL_clear_23 (fun H locs hG hS => ?_)
  obtain ⟨G5, eG5⟩ : ∃ z : zg_G, z = zg_up G1 a (.inr (0, [.ref dd, .int 0, .int (k + 1)])) := ⟨_, rfl⟩
  have hG : zP E G5 H := by rw [eG5]; exact hG
  have hx6 : zx (fun q => q = a ∨ q = dd) G G5 := hx2.tr (by rw [eG5]; exact zx.up (Or.inl rfl))
  have k7 : G5 a = some (.inr (0, [.ref dd, .int 0, .int (k + 1)])) := by rw [eG5]; exact zg_up_self _ _ _
  have k8 : G5 dd = some (.inl (E.2.1 3, cap, .inr (.inr (.inr (.inr f))))) := by rw [eG5, zg_up_ne (Ne.symm hne)]; exact k4
  refine lv_istore_n (lv' := [(3, .int 0), (2, .int (nI n)), (1, .ref dd), (0, .ref a)]) hx hb d_AL_clear_26 rfl hl (by decide) rfl (fun ls hl => ?_)
  have loop27 : ∀ (N : Nat) (Gx : zg_G) (i : Nat) (f2 : Nat → Option Nat) (H : Heap) (locs : List Loc), (n - i) < N → (i ≤ n) → (∀ j, f2 j = if j < i then none else f j) → (Gx a = some (.inr (0, [.ref dd, .int 0, .int (k + 1)]))) → (Gx dd = some (.inl (E.2.1 3, cap, .inr (.inr (.inr (.inr f2)))))) → (zx (fun q => q = a ∨ q = dd) G Gx) → zP E Gx H → zg_S (zc_b E) s.heap H locs → ∀ (ls : Array Slot), lv_has ls 4 [(0, .ref a), (1, .ref dd), (2, .int (nI n)), (3, .int (nI i))] → W p l e rm_AL_clear s m args below meth c H locs 0 0 Q (F0 m 27 ls []) := by
    intro N
    induction N with
    | zero =>
      intro Gx i f2 H locs hlt
      exact absurd hlt (Nat.not_lt_zero _)
    | succ N ih =>
      intro Gx i f2 H locs hlt hi hf2 kk_a kk_dd hxl hG hS ls hl
      refine lv_iload_n hx hb d_AL_clear_27 rfl (lv_at hl 3 rfl) ?_
      refine lv_iload_n hx hb d_AL_clear_28 rfl (lv_at hl 2 rfl) ?_
      refine lv_icmp_ge (tgt := 42) hx hb d_AL_clear_29 (by decide) (fun c29 => ?_) (fun c29 => ?_)
      · have b29 : n ≤ i := (nI_leI (a := n) (b := i) (by omega) (by omega)).mp c29
        exact hret _ _ _ _ _ _ _ (⟨hxl, kk_a, f2, kk_dd, fun j => by rw [hf2 j, show i = n by omega]⟩) hG hS (Nat.le_refl _) (Nat.le_refl _) d_AL_clear_42
      · have b29 : ¬ n ≤ i := fun q => c29 ((nI_leI (a := n) (b := i) (by omega) (by omega)).mpr q)
        refine lv_aload_n hx hb d_AL_clear_32 rfl (lv_at hl 1 rfl) ?_
        refine lv_iload_n hx hb d_AL_clear_33 rfl (lv_at hl 3 rfl) ?_
        refine lv_null hx hb d_AL_clear_34 ?_
        refine zg_astqN hx hb hK hG hS 3 kk_dd rfl (vp_in_nI (by omega) (by omega)) d_AL_clear_35 (fun H locs hG hS => ?_)
        rw [zi_n i (by omega)] at hG
        obtain ⟨G9, eG9⟩ : ∃ z : zg_G, z = zg_up Gx dd (.inl (E.2.1 3, cap, .inr (.inr (.inr (.inr (va_up f2 i none)))))) := ⟨_, rfl⟩
        have hG : zP E G9 H := by rw [eG9]; exact hG
        have hx10 : zx (fun q => q = a ∨ q = dd) G G9 := hxl.tr (by rw [eG9]; exact zx.up (Or.inr rfl))
        have k11 : G9 a = some (.inr (0, [.ref dd, .int 0, .int (k + 1)])) := by rw [eG9, zg_up_ne (hne)]; exact kk_a
        have k12 : G9 dd = some (.inl (E.2.1 3, cap, .inr (.inr (.inr (.inr (va_up f2 i none)))))) := by rw [eG9]; exact zg_up_self _ _ _
        refine lv_iinc (v := nI (i + 1)) (lv' := [(3, .int (nI (i + 1))), (0, .ref a), (1, .ref dd), (2, .int (nI n))]) hx hb d_AL_clear_36 hl (k := 3) rfl (nI_add i 1) (by decide) rfl (fun ls hl => ?_)
        refine lv_goto (tgt := 27) hx hb d_AL_clear_39 (by decide) ?_
        exact ih G9 (i + 1) (va_up f2 i none) _ _ (by omega) (by omega) (zf_clr hf2) (k11) (k12) (hx10) hG hS ls (lv_sub hl [1, 2, 3, 0] rfl)
  exact loop27 _ G5 0 f _ _ (Nat.lt_succ_self _) (Nat.zero_le _) (fun j => by simp) (k7) (k8) (hx6) hG hS ls (lv_sub hl [3, 2, 1, 0] rfl)
set_option maxHeartbeats 4000000 in
set_option maxRecDepth 100000 in
/-- ArrayList.clear(), of a fresh list -/
theorem t_AL_clear_e (l : Launch) (E : zc_E) (G : zg_G) (a : Nat) (k : Int32) (ha : G a = some (.inr (0, [.ref (E.2.2.2 0), .int 0, .int k]))) : zMv l E y_AL_clear c_AL_clear 4 rm_AL_clear [.ref a] G (fun (G2 : zg_G) => zx (fun q => q = a) G G2 ∧ G2 a = some (.inr (0, [.ref (E.2.2.2 0), .int 0, .int (k + 1)]))) := by
  refine zMv.of (by decide) (Nat.le_of_ble_eq_true rfl) ?_
  intro p e s m args below meth c Q hZ hG hret ls hl
  obtain ⟨hx, hb, hr, hts, hown, hlocks, hml, hnm, hbase, hK, hN, hQ⟩ := hZ
  have hl : lv_has ls 4 [(0, .ref a)] := hl
  have hS : zg_S (zc_b E) s.heap s.heap [] := va_S.rf
  have hx0 : zx (fun q => q = a) G G := zx.rf
  refine lv_aload_n hx hb d_AL_clear_0 rfl (lv_at hl 0 rfl) ?_
  refine lv_dup hx hb d_AL_clear_1 rfl ?_
  refine zg_get (ci := 0) (C := "java/util/ArrayList") (T := T_AL) (N := 3) hx hb hts zi_AL hown hK hG ha rfl 2 (by decide) (hts _ w_82) (u_same (hts _ w_83)) rfl d_AL_clear_2 ?_
  refine lv_iconst (v := 1) hx hb d_AL_clear_5 (by decide) ?_
  refine lv_iadd hx hb d_AL_clear_6 ?_
  refine zg_put (ci := 0) (v := .int (k + 1)) (ty := .int) (C := "java/util/ArrayList") (T := T_AL) (N := 3) hx hb hts zi_AL t_AL t_AL_ok n_AL hown hK hG hS ha rfl 2 (by decide) (hts _ w_82) (u_same (hts _ w_83)) rfl (by decide +kernel) rfl rfl (Nat.le_of_ble_eq_true rfl) d_AL_clear_7 (fun H locs hG hS => ?_)
  obtain ⟨G1, eG1⟩ : ∃ z : zg_G, z = zg_up G a (.inr (0, [.ref (E.2.2.2 0), .int 0, .int (k + 1)])) := ⟨_, rfl⟩
  have hG : zP E G1 H := by rw [eG1]; exact hG
  have hx2 : zx (fun q => q = a) G G1 := hx0.tr (by rw [eG1]; exact zx.up (rfl))
  have k3 : G1 a = some (.inr (0, [.ref (E.2.2.2 0), .int 0, .int (k + 1)])) := by rw [eG1]; exact zg_up_self _ _ _
  refine lv_aload_n hx hb d_AL_clear_10 rfl (lv_at hl 0 rfl) ?_
  refine zg_get (ci := 0) (C := "java/util/ArrayList") (T := T_AL) (N := 3) hx hb hts zi_AL hown hK hG k3 rfl 0 (by decide) (hts _ w_79) (fun _ h9 => h9) rfl d_AL_clear_11 ?_
  refine lv_astore_n (lv' := [(1, .ref (E.2.2.2 0)), (0, .ref a)]) hx hb d_AL_clear_14 rfl hl (by decide) rfl (fun ls hl => ?_)
  refine lv_aload_n hx hb d_AL_clear_15 rfl (lv_at hl 1 rfl) ?_
  refine zg_get (ci := 0) (C := "java/util/ArrayList") (T := T_AL) (N := 3) hx hb hts zi_AL hown hK hG k3 rfl 1 (by decide) (hts _ w_80) (fun _ h9 => h9) rfl d_AL_clear_16 ?_
  refine lv_istore_n (lv' := [(2, .int 0), (1, .ref (E.2.2.2 0)), (0, .ref a)]) hx hb d_AL_clear_19 rfl hl (by decide) rfl (fun ls hl => ?_)
  refine lv_aload_n hx hb d_AL_clear_20 rfl (lv_at hl 2 rfl) ?_
  refine lv_iconst (v := 0) hx hb d_AL_clear_21 (by decide) ?_
  refine lv_dup_x1 hx hb d_AL_clear_22 rfl rfl ?_
  refine zg_put (ci := 0) (v := .int 0) (ty := .int) (C := "java/util/ArrayList") (T := T_AL) (N := 3) hx hb hts zi_AL t_AL t_AL_ok n_AL hown hK hG hS k3 rfl 1 (by decide) (hts _ w_80) (fun _ h9 => h9) rfl (by decide +kernel) rfl rfl (Nat.le_of_ble_eq_true rfl) d_AL_clear_23 (fun H locs hG hS => ?_)
  obtain ⟨G4, eG4⟩ : ∃ z : zg_G, z = zg_up G1 a (.inr (0, [.ref (E.2.2.2 0), .int 0, .int (k + 1)])) := ⟨_, rfl⟩
  have hG : zP E G4 H := by rw [eG4]; exact hG
  have hx5 : zx (fun q => q = a) G G4 := hx2.tr (by rw [eG4]; exact zx.up (rfl))
  have k6 : G4 a = some (.inr (0, [.ref (E.2.2.2 0), .int 0, .int (k + 1)])) := by rw [eG4]; exact zg_up_self _ _ _
  refine lv_istore_n (lv' := [(3, .int 0), (2, .int 0), (1, .ref (E.2.2.2 0)), (0, .ref a)]) hx hb d_AL_clear_26 rfl hl (by decide) rfl (fun ls hl => ?_)
  refine lv_iload_n hx hb d_AL_clear_27 rfl (lv_at hl 0 rfl) ?_
  refine lv_iload_n hx hb d_AL_clear_28 rfl (lv_at hl 1 rfl) ?_
  refine lv_icmp_ge (tgt := 42) hx hb d_AL_clear_29 (by decide) (fun c29 => ?_) (fun c29 => ?_)
  · have b29 : 0 ≤ 0 := (nI_leI (a := 0) (b := 0) (by omega) (by omega)).mp c29
    exact hret _ _ _ _ _ _ _ (⟨hx5, k6⟩) hG hS (Nat.le_refl _) (Nat.le_refl _) d_AL_clear_42
  · have b29 : ¬ 0 ≤ 0 := fun q => c29 ((nI_leI (a := 0) (b := 0) (by omega) (by omega)).mpr q)
    exact absurd (Nat.le_refl 0) b29
