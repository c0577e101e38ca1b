theorem zup_i {f0 f2 : Nat → Int32} {i : Nat} (h : ∀ j, j < i → f2 j = f0 j) : ∀ j, j < i + 1 → upd f2 i (f0 i) j = f0 j := by
  intro j hj
  unfold upd
  by_cases e : j = i
  · rw [if_pos e, e]
  · rw [if_neg e]; exact h j (by omega)
theorem zup_q {f0 f2 : Nat → Option Nat} {i : Nat} (h : ∀ j, f2 j = if j < i then f0 j else none) : ∀ j, va_up f2 i (f0 i) j = if j < i + 1 then f0 j else none := by
  intro j
  unfold va_up
  by_cases e : j = i
  · rw [if_pos e, if_pos (by omega), e]
  · rw [if_neg e, h j]
    by_cases q : j < i
    · rw [if_pos q, if_pos (by omega)]
    · rw [if_neg q, if_neg (by omega)]
abbrev c_Mo_twice : ByteArray := prog_12_method_18_code
abbrev y_Mo_twice : MethodName := ⟨"ZoneAnswersModel", "twice", "([I)[I"⟩
theorem d_Mo_twice_0 : decode c_Mo_twice 0 = .ok (.iconst 2, 1) := by decide +kernel
theorem d_Mo_twice_1 : decode c_Mo_twice 1 = .ok (.aload_n 0, 1) := by decide +kernel
theorem d_Mo_twice_2 : decode c_Mo_twice 2 = .ok (.arraylength, 1) := by decide +kernel
theorem d_Mo_twice_3 : decode c_Mo_twice 3 = .ok (.imul, 1) := by decide +kernel
theorem d_Mo_twice_4 : decode c_Mo_twice 4 = .ok (.newarray .int, 2) := by decide +kernel
theorem d_Mo_twice_6 : decode c_Mo_twice 6 = .ok (.astore_n 1, 1) := by decide +kernel
theorem d_Mo_twice_7 : decode c_Mo_twice 7 = .ok (.iconst 0, 1) := by decide +kernel
theorem d_Mo_twice_8 : decode c_Mo_twice 8 = .ok (.istore_n 2, 1) := by decide +kernel
theorem d_Mo_twice_9 : decode c_Mo_twice 9 = .ok (.iload_n 2, 1) := by decide +kernel
theorem d_Mo_twice_10 : decode c_Mo_twice 10 = .ok (.aload_n 0, 1) := by decide +kernel
theorem d_Mo_twice_11 : decode c_Mo_twice 11 = .ok (.arraylength, 1) := by decide +kernel
theorem d_Mo_twice_12 : decode c_Mo_twice 12 = .ok (.if_icmp .ge 15, 3) := by decide +kernel
theorem d_Mo_twice_15 : decode c_Mo_twice 15 = .ok (.aload_n 1, 1) := by decide +kernel
theorem d_Mo_twice_16 : decode c_Mo_twice 16 = .ok (.iload_n 2, 1) := by decide +kernel
theorem d_Mo_twice_17 : decode c_Mo_twice 17 = .ok (.aload_n 0, 1) := by decide +kernel
theorem d_Mo_twice_18 : decode c_Mo_twice 18 = .ok (.iload_n 2, 1) := by decide +kernel
theorem d_Mo_twice_19 : decode c_Mo_twice 19 = .ok (.iaload, 1) := by decide +kernel
theorem d_Mo_twice_20 : decode c_Mo_twice 20 = .ok (.iastore, 1) := by decide +kernel
theorem d_Mo_twice_21 : decode c_Mo_twice 21 = .ok (.iinc 2 1, 3) := by decide +kernel
theorem d_Mo_twice_24 : decode c_Mo_twice 24 = .ok (.goto (-15), 3) := by decide +kernel
theorem d_Mo_twice_27 : decode c_Mo_twice 27 = .ok (.aload_n 1, 1) := by decide +kernel
theorem d_Mo_twice_28 : decode c_Mo_twice 28 = .ok (.areturn, 1) := by decide +kernel
abbrev c_Mo_twice_2 : ByteArray := prog_12_method_19_code
abbrev y_Mo_twice_2 : MethodName := ⟨"ZoneAnswersModel", "twice", "([[B)[[B"⟩
theorem d_Mo_twice_2_0 : decode c_Mo_twice_2 0 = .ok (.iconst 2, 1) := by decide +kernel
theorem d_Mo_twice_2_1 : decode c_Mo_twice_2 1 = .ok (.aload_n 0, 1) := by decide +kernel
theorem d_Mo_twice_2_2 : decode c_Mo_twice_2 2 = .ok (.arraylength, 1) := by decide +kernel
theorem d_Mo_twice_2_3 : decode c_Mo_twice_2 3 = .ok (.imul, 1) := by decide +kernel
theorem d_Mo_twice_2_4 : decode c_Mo_twice_2 4 = .ok (.anewarray 39, 3) := by decide +kernel
theorem d_Mo_twice_2_7 : decode c_Mo_twice_2 7 = .ok (.astore_n 1, 1) := by decide +kernel
theorem d_Mo_twice_2_8 : decode c_Mo_twice_2 8 = .ok (.iconst 0, 1) := by decide +kernel
theorem d_Mo_twice_2_9 : decode c_Mo_twice_2 9 = .ok (.istore_n 2, 1) := by decide +kernel
theorem d_Mo_twice_2_10 : decode c_Mo_twice_2 10 = .ok (.iload_n 2, 1) := by decide +kernel
theorem d_Mo_twice_2_11 : decode c_Mo_twice_2 11 = .ok (.aload_n 0, 1) := by decide +kernel
theorem d_Mo_twice_2_12 : decode c_Mo_twice_2 12 = .ok (.arraylength, 1) := by decide +kernel
theorem d_Mo_twice_2_13 : decode c_Mo_twice_2 13 = .ok (.if_icmp .ge 15, 3) := by decide +kernel
theorem d_Mo_twice_2_16 : decode c_Mo_twice_2 16 = .ok (.aload_n 1, 1) := by decide +kernel
theorem d_Mo_twice_2_17 : decode c_Mo_twice_2 17 = .ok (.iload_n 2, 1) := by decide +kernel
theorem d_Mo_twice_2_18 : decode c_Mo_twice_2 18 = .ok (.aload_n 0, 1) := by decide +kernel
theorem d_Mo_twice_2_19 : decode c_Mo_twice_2 19 = .ok (.iload_n 2, 1) := by decide +kernel
theorem d_Mo_twice_2_20 : decode c_Mo_twice_2 20 = .ok (.aaload, 1) := by decide +kernel
theorem d_Mo_twice_2_21 : decode c_Mo_twice_2 21 = .ok (.aastore, 1) := by decide +kernel
theorem d_Mo_twice_2_22 : decode c_Mo_twice_2 22 = .ok (.iinc 2 1, 3) := by decide +kernel
theorem d_Mo_twice_2_25 : decode c_Mo_twice_2 25 = .ok (.goto (-15), 3) := by decide +kernel
theorem d_Mo_twice_2_28 : decode c_Mo_twice_2 28 = .ok (.aload_n 1, 1) := by decide +kernel
theorem d_Mo_twice_2_29 : decode c_Mo_twice_2 29 = .ok (.areturn, 1) := by decide +kernel
abbrev rm_Mo_twice (n0 : Nat) : Room := { frames := 0, cells := 1, slots := 2 * n0, locals := 0 }
set_option maxHeartbeats 4000000 in
set_option maxRecDepth 100000 in
/-- twice(int[]), of the reference -/
theorem t_Mo_twice (l : Launch) (E : zc_E) (G : zg_G) (b0 n0 : Nat) (f0 : Nat → Int32) (h0 : G b0 = some (.inl (E.2.1 1, n0, .inl f0))) (hn0 : n0 < 2 ^ 24) : zMq l E y_Mo_twice c_Mo_twice 3 (some (.array .int)) (rm_Mo_twice n0) [.ref b0] G (fun (r : Option Nat) (G2 : zg_G) => ∃ q f2, r = some q ∧ G q = none ∧ zx z0 G G2 ∧ G2 q = some (.inl (E.2.1 1, 2 * n0, .inl f2)) ∧ ∀ j, j < n0 → f2 j = f0 j) := by
  refine zMq.of (by decide) (Nat.le_of_ble_eq_true rfl) ?_
  intro p e s m args below meth c Q hZ hG hret ls hl
  obtain ⟨hx, hb, hr, hts, hown, hlocks, hml, hnm, hbase, hK, hN, hQ⟩ := hZ
  have hl : lv_has ls 3 [(0, .ref b0)] := hl
  have hS : zg_S (zc_b E) s.heap s.heap [] := va_S.rf
  have hx0 : zx z0 G G := zx.rf
  refine lv_iconst (v := 2) hx hb d_Mo_twice_0 (by decide) ?_
  refine lv_aload_n hx hb d_Mo_twice_1 rfl (lv_at hl 0 rfl) ?_
  refine zg_alen hx hb hK hG 1 h0 rfl (v := nI n0) rfl d_Mo_twice_2 ?_
  refine lv_imul hx hb d_Mo_twice_3 ?_
  refine zi_as (y := nI (2 * n0)) (pk_mul 2 n0) ?_
  refine zg_newp (atype := .int) (ty := .int) (N' := 2 * n0) (a0 := (2 * n0, .inl (fun _ => 0))) hx hb (hts _ w_1196) rfl hK hG hS hbase (fun _ => rfl) (nI_pos (by omega)) (zi_n _ (by omega)) (by show _ * _ ≤ _; simp only [componentBytes]; omega) (by dsimp only; omega) (by dsimp only; omega) d_Mo_twice_4 1 rfl (fun _ h => h) (fun q4 H n4 hG hS => ?_)
  obtain ⟨G1, eG1⟩ : ∃ z : zg_G, z = zg_up G q4 (.inl (E.2.1 1, 2 * n0, .inl (fun _ => 0))) := ⟨_, rfl⟩
  have hG : zP E G1 H := by rw [eG1]; exact hG
  have hx2 : zx z0 G G1 := hx0.tr (by rw [eG1]; exact zx.nw n4)
  have ne4_b0 : b0 ≠ q4 := zg_fr n4 h0
  have k3 : G1 b0 = some (.inl (E.2.1 1, n0, .inl f0)) := by rw [eG1, zg_up_ne (zg_fr n4 h0)]; exact h0
  have k4 : G1 q4 = some (.inl (E.2.1 1, 2 * n0, .inl (fun _ => 0))) := by rw [eG1]; exact zg_up_self _ _ _
  refine lv_astore_n (lv' := [(1, .ref q4), (0, .ref b0)]) hx hb d_Mo_twice_6 rfl hl (by decide) rfl (fun ls hl => ?_)
  refine lv_iconst (v := 0) hx hb d_Mo_twice_7 (by decide) ?_
  refine lv_istore_n (lv' := [(2, .int 0), (1, .ref q4), (0, .ref b0)]) hx hb d_Mo_twice_8 rfl hl (by decide) rfl (fun ls hl => ?_)
  have loop9 : ∀ (N : Nat) (Gx : zg_G) (i : Nat) (f2 : Nat → Int32) (H : Heap) (locs : List Loc), (n0 - i) < N → (i ≤ n0) → (∀ j, j < i → f2 j = f0 j) → (Gx b0 = some (.inl (E.2.1 1, n0, .inl f0))) → (Gx q4 = some (.inl (E.2.1 1, 2 * n0, .inl f2))) → (zx z0 G Gx) → zP E Gx H → zg_S (zc_b E) s.heap H locs → ∀ (ls : Array Slot), lv_has ls 3 [(0, .ref b0), (1, .ref q4), (2, .int (nI i))] → W p l e (rm_Mo_twice n0) s m args below meth c H locs (0 + 1) (0 + (2 * n0)) Q (F0 m 9 ls []) := by
    intro N
    induction N with
    | zero =>
      intro Gx i f2 H locs hlt
      exact absurd hlt (Nat.not_lt_zero _)
    | succ N ih =>
      intro Gx i f2 H locs hlt hi hq kk_b0 kk_q4 hxl hG hS ls hl
      refine lv_iload_n hx hb d_Mo_twice_9 rfl (lv_at hl 2 rfl) ?_
      refine lv_aload_n hx hb d_Mo_twice_10 rfl (lv_at hl 0 rfl) ?_
      refine zg_alen hx hb hK hG 1 kk_b0 rfl (v := nI n0) rfl d_Mo_twice_11 ?_
      refine lv_icmp_ge (tgt := 27) hx hb d_Mo_twice_12 (by decide) (fun c12 => ?_) (fun c12 => ?_)
      · have b12 : n0 ≤ i := (nI_leI (a := n0) (b := i) (by omega) (by omega)).mp c12
        refine lv_aload_n hx hb d_Mo_twice_27 rfl (lv_at hl 1 rfl) ?_
        exact hret (some q4) _ _ _ _ _ _ _ _ hr (Or.inr ⟨_, rfl⟩) (⟨q4, f2, rfl, n4, hxl, kk_q4, fun j hj => hq j (by omega)⟩) hG hS (by dsimp only; omega) (by dsimp only; omega) d_Mo_twice_28
      · have b12 : ¬ n0 ≤ i := fun q => c12 ((nI_leI (a := n0) (b := i) (by omega) (by omega)).mpr q)
        refine lv_aload_n hx hb d_Mo_twice_15 rfl (lv_at hl 1 rfl) ?_
        refine lv_iload_n hx hb d_Mo_twice_16 rfl (lv_at hl 2 rfl) ?_
        refine lv_aload_n hx hb d_Mo_twice_17 rfl (lv_at hl 0 rfl) ?_
        refine lv_iload_n hx hb d_Mo_twice_18 rfl (lv_at hl 2 rfl) ?_
        refine zg_iald hx hb hK hG 1 kk_b0 rfl (vp_in_nI (by omega) (by omega)) d_Mo_twice_19 ?_
        refine zi_as (y := f0 i) (by rw [zi_n _ (by omega)]) ?_
        refine zg_iast hx hb hK hG hS 1 kk_q4 rfl (vp_in_nI (by omega) (by omega)) d_Mo_twice_20 (fun H locs hG hS => ?_)
        rw [zi_n i (by omega)] at hG
        obtain ⟨G5, eG5⟩ : ∃ z : zg_G, z = zg_up Gx q4 (.inl (E.2.1 1, 2 * n0, .inl (upd f2 i (f0 i)))) := ⟨_, rfl⟩
        have hG : zP E G5 H := by rw [eG5]; exact hG
        have hx6 : zx z0 G G5 := by rw [eG5]; exact hxl.upn n4
        have k7 : G5 b0 = some (.inl (E.2.1 1, n0, .inl f0)) := by rw [eG5, zg_up_ne (ne4_b0)]; exact kk_b0
        have k8 : G5 q4 = some (.inl (E.2.1 1, 2 * n0, .inl (upd f2 i (f0 i)))) := by rw [eG5]; exact zg_up_self _ _ _
        refine lv_iinc (v := nI (i + 1)) (lv' := [(2, .int (nI (i + 1))), (0, .ref b0), (1, .ref q4)]) hx hb d_Mo_twice_21 hl (k := 2) rfl (nI_add i 1) (by decide) rfl (fun ls hl => ?_)
        refine lv_goto (tgt := 9) hx hb d_Mo_twice_24 (by decide) ?_
        exact ih G5 (i + 1) (upd f2 i (f0 i)) _ _ (by omega) (by omega) (zup_i hq) (k7) (k8) (hx6) hG hS ls (lv_sub hl [1, 2, 0] rfl)
  exact loop9 _ G1 0 (fun _ => 0) _ _ (Nat.lt_succ_self _) (Nat.zero_le _) (fun j h => absurd h (Nat.not_lt_zero j)) (k3) (k4) (hx2) hG hS ls (lv_sub hl [2, 1, 0] rfl)
abbrev rm_Mo_twice_2 (n0 : Nat) : Room := { frames := 0, cells := 1, slots := 2 * n0, locals := 0 }
set_option maxHeartbeats 4000000 in
set_option maxRecDepth 100000 in
/-- twice(byte[][]), of the reference -/
theorem t_Mo_twice_2 (l : Launch) (E : zc_E) (G : zg_G) (b0 n0 : Nat) (f0 : Nat → Option Nat) (h0 : G b0 = some (.inl (E.2.1 5, n0, .inr (.inr (.inr (.inr f0)))))) (hn0 : n0 < 2 ^ 24) (hrw : ∀ j v, f0 j = some v → ∃ (nx : Nat) (fx : Nat → Int32), G v = some (.inl (E.2.1 0, nx, .inl fx))) : zMq l E y_Mo_twice_2 c_Mo_twice_2 3 (some (.array (.array .byte))) (rm_Mo_twice_2 n0) [.ref b0] G (fun (r : Option Nat) (G2 : zg_G) => ∃ q f2, r = some q ∧ G q = none ∧ zx z0 G G2 ∧ G2 q = some (.inl (E.2.1 5, 2 * n0, .inr (.inr (.inr (.inr f2))))) ∧ ∀ j, f2 j = if j < n0 then f0 j else none) := by
  refine zMq.of (by decide) (Nat.le_of_ble_eq_true rfl) ?_
  intro p e s m args below meth c Q hZ hG hret ls hl
  obtain ⟨hx, hb, hr, hts, hown, hlocks, hml, hnm, hbase, hK, hN, hQ⟩ := hZ
  have hl : lv_has ls 3 [(0, .ref b0)] := hl
  have hS : zg_S (zc_b E) s.heap s.heap [] := va_S.rf
  have hx0 : zx z0 G G := zx.rf
  refine lv_iconst (v := 2) hx hb d_Mo_twice_2_0 (by decide) ?_
  refine lv_aload_n hx hb d_Mo_twice_2_1 rfl (lv_at hl 0 rfl) ?_
  refine zg_alen hx hb hK hG 5 h0 rfl (v := nI n0) rfl d_Mo_twice_2_2 ?_
  refine lv_imul hx hb d_Mo_twice_2_3 ?_
  refine zi_as (y := nI (2 * n0)) (pk_mul 2 n0) ?_
  refine zg_newA (N' := 2 * n0) (t := .byte) hx hb hown (by rw [zeB]; exact hts _ w_1254) (zAt_use hQ.2.2.2.2.2.2.2.2.2.2.2.2) hK hG hS hbase (nI_pos (by omega)) (zi_n _ (by omega)) (by omega) (by dsimp only; omega) (by dsimp only; omega) d_Mo_twice_2_4 5 rfl (fun q4 H n4 hG hS => ?_)
  obtain ⟨G1, eG1⟩ : ∃ z : zg_G, z = zg_up G q4 (.inl (E.2.1 5, 2 * n0, .inr (.inr (.inr (.inr (fun _ => none)))))) := ⟨_, rfl⟩
  have hG : zP E G1 H := by rw [eG1]; exact hG
  have hx2 : zx z0 G G1 := hx0.tr (by rw [eG1]; exact zx.nw n4)
  have ne4_b0 : b0 ≠ q4 := zg_fr n4 h0
  have k3 : G1 b0 = some (.inl (E.2.1 5, n0, .inr (.inr (.inr (.inr f0))))) := by rw [eG1, zg_up_ne (zg_fr n4 h0)]; exact h0
  have k4 : G1 q4 = some (.inl (E.2.1 5, 2 * n0, .inr (.inr (.inr (.inr (fun _ => none)))))) := by rw [eG1]; exact zg_up_self _ _ _
  refine lv_astore_n (lv' := [(1, .ref q4), (0, .ref b0)]) hx hb d_Mo_twice_2_7 rfl hl (by decide) rfl (fun ls hl => ?_)
  refine lv_iconst (v := 0) hx hb d_Mo_twice_2_8 (by decide) ?_
  refine lv_istore_n (lv' := [(2, .int 0), (1, .ref q4), (0, .ref b0)]) hx hb d_Mo_twice_2_9 rfl hl (by decide) rfl (fun ls hl => ?_)
  have loop10 : ∀ (N : Nat) (Gx : zg_G) (i : Nat) (f2 : Nat → Option Nat) (H : Heap) (locs : List Loc), (n0 - i) < N → (i ≤ n0) → (∀ j, f2 j = if j < i then f0 j else none) → (Gx b0 = some (.inl (E.2.1 5, n0, .inr (.inr (.inr (.inr f0)))))) → (Gx q4 = some (.inl (E.2.1 5, 2 * n0, .inr (.inr (.inr (.inr f2)))))) → (zx z0 G Gx) → zP E Gx H → zg_S (zc_b E) s.heap H locs → ∀ (ls : Array Slot), lv_has ls 3 [(0, .ref b0), (1, .ref q4), (2, .int (nI i))] → W p l e (rm_Mo_twice_2 n0) s m args below meth c H locs (0 + 1) (0 + (2 * n0)) Q (F0 m 10 ls []) := by
    intro N
    induction N with
    | zero =>
      intro Gx i f2 H locs hlt
      exact absurd hlt (Nat.not_lt_zero _)
    | succ N ih =>
      intro Gx i f2 H locs hlt hi hq kk_b0 kk_q4 hxl hG hS ls hl
      refine lv_iload_n hx hb d_Mo_twice_2_10 rfl (lv_at hl 2 rfl) ?_
      refine lv_aload_n hx hb d_Mo_twice_2_11 rfl (lv_at hl 0 rfl) ?_
      refine zg_alen hx hb hK hG 5 kk_b0 rfl (v := nI n0) rfl d_Mo_twice_2_12 ?_
      refine lv_icmp_ge (tgt := 28) hx hb d_Mo_twice_2_13 (by decide) (fun c13 => ?_) (fun c13 => ?_)
      · have b13 : n0 ≤ i := (nI_leI (a := n0) (b := i) (by omega) (by omega)).mp c13
        refine lv_aload_n hx hb d_Mo_twice_2_28 rfl (lv_at hl 1 rfl) ?_
        exact hret (some q4) _ _ _ _ _ _ _ _ hr (Or.inr ⟨_, rfl⟩) (⟨q4, f2, rfl, n4, hxl, kk_q4, fun j => by rw [hq j, show i = n0 by omega]⟩) hG hS (by dsimp only; omega) (by dsimp only; omega) d_Mo_twice_2_29
      · have b13 : ¬ n0 ≤ i := fun q => c13 ((nI_leI (a := n0) (b := i) (by omega) (by omega)).mpr q)
        refine lv_aload_n hx hb d_Mo_twice_2_16 rfl (lv_at hl 1 rfl) ?_
        refine lv_iload_n hx hb d_Mo_twice_2_17 rfl (lv_at hl 2 rfl) ?_
        refine lv_aload_n hx hb d_Mo_twice_2_18 rfl (lv_at hl 0 rfl) ?_
        refine lv_iload_n hx hb d_Mo_twice_2_19 rfl (lv_at hl 2 rfl) ?_
        refine zg_aldA hx hb hK hG 5 kk_b0 rfl (vp_in_nI (by omega) (by omega)) d_Mo_twice_2_20 ?_
        refine zr_as (y := f0 i) (by rw [zi_n _ (by omega)]) ?_
        refine zg_astAO (o := (f0 i)) (t := .byte) hx hb hK hG hS 5 kk_q4 rfl (zAt_use hQ.2.2.2.2.2.2.2.2.2.2.2.2) (fun v hv => by obtain ⟨nx, fx, h9⟩ := hrw _ v hv; exact ⟨nx, fx, hxl.o h9⟩) (zfB hQ) (vp_in_nI (by omega) (by omega)) d_Mo_twice_2_21 (fun H locs hG hS => ?_)
        rw [zi_n i (by omega)] at hG
        obtain ⟨G5, eG5⟩ : ∃ z : zg_G, z = zg_up Gx q4 (.inl (E.2.1 5, 2 * n0, .inr (.inr (.inr (.inr (va_up f2 i (f0 i))))))) := ⟨_, rfl⟩
        have hG : zP E G5 H := by rw [eG5]; exact hG
        have hx6 : zx z0 G G5 := by rw [eG5]; exact hxl.upn n4
        have k7 : G5 b0 = some (.inl (E.2.1 5, n0, .inr (.inr (.inr (.inr f0))))) := by rw [eG5, zg_up_ne (ne4_b0)]; exact kk_b0
        have k8 : G5 q4 = some (.inl (E.2.1 5, 2 * n0, .inr (.inr (.inr (.inr (va_up f2 i (f0 i))))))) := by rw [eG5]; exact zg_up_self _ _ _
        refine lv_iinc (v := nI (i + 1)) (lv' := [(2, .int (nI (i + 1))), (0, .ref b0), (1, .ref q4)]) hx hb d_Mo_twice_2_22 hl (k := 2) rfl (nI_add i 1) (by decide) rfl (fun ls hl => ?_)
        refine lv_goto (tgt := 10) hx hb d_Mo_twice_2_25 (by decide) ?_
        exact ih G5 (i + 1) (va_up f2 i (f0 i)) _ _ (by omega) (by omega) (zup_q hq) (k7) (k8) (hx6) hG hS ls (lv_sub hl [1, 2, 0] rfl)
  exact loop10 _ G1 0 (fun _ => none) _ _ (Nat.lt_succ_self _) (Nat.zero_le _) (fun j => by rw [if_neg (by omega)]) (k3) (k4) (hx2) hG hS ls (lv_sub hl [2, 1, 0] rfl)
