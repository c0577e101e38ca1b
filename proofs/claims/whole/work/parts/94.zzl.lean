/-! WHAT GROWS: how much room a list takes, to the cell -/
theorem zW_more {p : Program} {l : Launch} {e : Env} {R : Room} {s : State} {m : MethodId} {args : Array Value} {below : List Frame} {meth : Method} {c : Code} {H : Heap} {locs : List Loc} {cells slots cells2 slots2 : Nat} {Q : State → Prop} {g : JFrame} (hc : cells ≤ cells2) (hs : slots ≤ slots2) (k : W p l e R s m args below meth c H locs cells2 slots2 Q g) : W p l e R s m args below meth c H locs cells slots Q g := fun T hT X => k T hT { X with same := X.same.mono hc hs }
/-- the size of the row at d, 0 if there is none -/
def zcG (G : zg_G) (d : Nat) : Nat := match G d with
  | some (.inl (_, n, _)) => n
  | _ => 0
theorem zcG_at {G : zg_G} {d n : Nat} {c : ClassId} {f : Nat → Option Nat} (h : G d = some (.inl (c, n, .inr (.inr (.inr (.inr f)))))) : zcG G d = n := by unfold zcG; rw [h]
theorem zcG_no {G : zg_G} {d : Nat} (h : G d = none) : zcG G d = 0 := by unfold zcG; rw [h]
theorem zcG_eq {G G2 : zg_G} {d : Nat} (h : G2 d = G d) : zcG G2 d = zcG G d := by unfold zcG; rw [h]
def zgr (c : Nat) : Nat := if c = 0 then 10 else c + max 1 (c / 2)
theorem zgr_0 : zgr 0 = 10 := rfl
theorem zgr_p {c : Nat} (h : 0 < c) : zgr c = c + max 1 (c / 2) := if_neg (by omega)
/-- the size that a row of c has when n are in it -/
def zcp (c : Nat) : Nat → Nat
  | 0 => c
  | n + 1 => if n + 1 ≤ zcp c n then zcp c n else zgr (zcp c n)
theorem zcp_s (c n : Nat) : zcp c (n + 1) = if n < zcp c n then zcp c n else zgr (zcp c n) := rfl
theorem zcp_le (c n : Nat) : zcp c n ≤ max c (2 * n + 10) := by
  induction n with
  | zero => exact Nat.le_max_left _ _
  | succ n ih =>
    rw [zcp_s]
    split
    · omega
    · unfold zgr; split <;> omega
theorem zcp_mono (c n : Nat) : zcp c n ≤ zcp c (n + 1) := by
  rw [zcp_s]
  split
  · exact Nat.le_refl _
  · unfold zgr; split <;> omega
theorem zcp_mono2 (c : Nat) {n k : Nat} (h : n ≤ k) : zcp c n ≤ zcp c k := by
  induction h with
  | refl => exact Nat.le_refl _
  | step _ ih => exact Nat.le_trans ih (zcp_mono c _)
/-- what one more costs -/
def zce (c n : Nat) : Nat := if n < zcp c n then 0 else zgr (zcp c n)
theorem zce_le (c n : Nat) : 4 * zcp c n + zce c n ≤ 4 * zcp c (n + 1) := by
  unfold zce
  rw [zcp_s]
  split
  · omega
  · unfold zgr; split <;> omega
/-- a full list -/
theorem zL.cap {E : zc_E} {G : zg_G} {a dd : Nat} {xs : List Nat} (h : zL E G a dd xs) (hE : G (E.2.2.2 0) = none) : (dd = E.2.2.2 0 ∧ xs = [] ∧ zcG G dd = 0) ∨ ∃ f, G dd = some (.inl (E.2.1 3, zcG G dd, .inr (.inr (.inr (.inr f))))) ∧ 0 < zcG G dd ∧ xs.length ≤ zcG G dd ∧ zcG G dd ≤ 4001 ∧ ∀ j, f j = xs[j]? := by
  obtain ⟨-, ⟨h1, h2⟩ | ⟨cap, f, h1, h2, h3, h4, h5⟩⟩ := h
  · exact Or.inl ⟨h1, h2, by rw [h1]; exact zcG_no hE⟩
  · rw [zcG_at h1]
    exact Or.inr ⟨f, h1, h2, h3, h4, h5⟩

abbrev rm_AL_grow_2_x (B : Nat) : Room := { frames := 3, cells := 1, slots := B, locals := 110 }
set_option maxHeartbeats 4000000 in
set_option maxRecDepth 100000 in
/-- ArrayList.grow(n + 1) of a full list -/
theorem t_AL_grow_2_x (l : Launch) (E : zc_E) (G : zg_G) (a dd n cap : Nat) (k : Int32) (f : Nat → Option Nat) (ha : G a = some (.inr (0, [.ref dd, .int (nI n), .int k]))) (hd : G dd = some (.inl (E.2.1 3, cap, .inr (.inr (.inr (.inr f)))))) (hc : n ≤ cap) (hz : cap < 2 ^ 24) (h0 : 0 < cap) (B : Nat) (hB : zgr cap ≤ B) (hel : ∀ j y, f j = some y → zel G y) : zMq l E y_AL_grow_2 c_AL_grow_2 4 (some (.array (.object "java/lang/Object"))) (rm_AL_grow_2_x B) [.ref a, .int (nI (cap + 1))] G (fun (r : Option Nat) (G2 : zg_G) => ∃ q f2, r = some q ∧ G q = none ∧ zx (fun q => q = a) G G2 ∧ G2 a = some (.inr (0, [.ref q, .int (nI n), .int k])) ∧ G2 q = some (.inl (E.2.1 3, zgr cap, .inr (.inr (.inr (.inr f2))))) ∧ ∀ j, f2 j = if j < cap then f j else none) := by
  refine zMq.of (by decide) (Nat.le_of_ble_eq_true rfl) ?_
  intro p e s m args below meth c Q hZ hG hret ls hl
  obtain ⟨hx, hb, hr, hts, hown, hlocks, hml, hnm, hbase, hK, hN, hQ⟩ := hZ
  have hl : lv_has ls 4 [(0, .ref a), (1, .int (nI (cap + 1)))] := hl
  have hS : zg_S (zc_b E) s.heap s.heap [] := va_S.rf
  have hzg := zgr_p h0
  have hx0 : zx (fun q => q = a) G G := zx.rf
  refine lv_aload_n hx hb d_AL_grow_2_0 rfl (lv_at hl 0 rfl) ?_
  refine zg_get (ci := 0) (C := "java/util/ArrayList") (T := T_AL) (N := 3) hx hb hts zi_AL hown hK hG ha rfl 0 (by decide) (hts _ w_79) (fun _ h9 => h9) rfl d_AL_grow_2_1 ?_
  refine zg_alen hx hb hK hG 3 hd rfl (v := nI cap) rfl d_AL_grow_2_4 ?_
  refine lv_istore_n (lv' := [(2, .int (nI cap)), (0, .ref a), (1, .int (nI (cap + 1)))]) hx hb d_AL_grow_2_5 rfl hl (by decide) rfl (fun ls hl => ?_)
  refine lv_iload_n hx hb d_AL_grow_2_6 rfl (lv_at hl 0 rfl) ?_
  refine lv_if_gt (tgt := 20) hx hb d_AL_grow_2_7 (by decide) (fun c7 => ?_) (fun c7 => ?_)
  · have b7 : 0 < cap := (nI_ltI (a := 0) (b := cap) (by omega) (by omega)).mp c7
    refine lv_iload_n hx hb d_AL_grow_2_20 rfl (lv_at hl 0 rfl) ?_
    refine lv_iload_n hx hb d_AL_grow_2_21 rfl (lv_at hl 2 rfl) ?_
    refine lv_iload_n hx hb d_AL_grow_2_22 rfl (lv_at hl 0 rfl) ?_
    refine lv_isub hx hb d_AL_grow_2_23 ?_
    refine zi_as (y := nI 1) (by rw [zi_sub (by omega)]; congr 1; omega) ?_
    refine lv_iload_n hx hb d_AL_grow_2_24 rfl (lv_at hl 0 rfl) ?_
    refine lv_iconst (v := 1) hx hb d_AL_grow_2_25 (by decide) ?_
    refine lv_ishr hx hb d_AL_grow_2_26 ?_
    refine zi_as (y := nI (cap / 2)) (pk_shrN (by omega) _ 1 (by decide)) ?_
    refine zk_i (va_runS (As := [.int (nI cap), .int (nI 1), .int (nI (cap / 2))]) (rest := []) ⟨hx, hb, hml, hown, hts⟩ (t_As_newLength l E G cap 1 (cap / 2) (Nat.le_refl 1) (by omega) (by omega) (by omega)) (zcS 3 hts w_565 w_327 w_21 w_328 (by decide +kernel) ⟨Nat.le_of_ble_eq_true rfl, Nat.le_of_ble_eq_true rfl⟩) (zc_pre hbase hK hN hQ hG hS) rfl rfl hl.1 rfl (lv_room (Nat.le_of_ble_eq_true rfl)) d_AL_grow_2_27 ⟨(by dsimp only; omega), (by dsimp only; omega)⟩) hS (fun r27 G27 H locs hp27 hG hS => ?_)
    have hG : zP E G H := hp27.2 ▸ hG
    refine zi_as (y := nI (cap + max 1 (cap / 2))) hp27.1 ?_
    refine lv_istore_n (lv' := [(3, .int (nI (cap + max 1 (cap / 2)))), (2, .int (nI cap)), (0, .ref a), (1, .int (nI (cap + 1)))]) hx hb d_AL_grow_2_30 rfl hl (by decide) rfl (fun ls hl => ?_)
    refine lv_aload_n hx hb d_AL_grow_2_31 rfl (lv_at hl 2 rfl) ?_
    refine lv_aload_n hx hb d_AL_grow_2_32 rfl (lv_at hl 2 rfl) ?_
    refine zg_get (ci := 0) (C := "java/util/ArrayList") (T := T_AL) (N := 3) hx hb hts zi_AL hown hK hG ha rfl 0 (by decide) (hts _ w_79) (fun _ h9 => h9) rfl d_AL_grow_2_33 ?_
    refine lv_iload_n hx hb d_AL_grow_2_36 rfl (lv_at hl 0 rfl) ?_
    have hGo37 := hG
    refine zk_q (va_runS (As := [.ref dd, .int (nI (cap + max 1 (cap / 2)))]) (rest := [.ref a]) ⟨hx, hb, hml, hown, hts⟩ (t_Ar_copyOf_2 l E G dd cap (cap + max 1 (cap / 2)) f hd (by omega) (by omega) hel) (zcS 2 hts w_566 w_567 w_22 w_568 (by decide +kernel) ⟨Nat.le_of_ble_eq_true rfl, Nat.le_of_ble_eq_true rfl⟩) (zc_pre hbase hK hN hQ hG hS) rfl rfl hl.1 rfl (lv_room (Nat.le_of_ble_eq_true rfl)) d_AL_grow_2_37 ⟨(by dsimp only; omega), (by dsimp only; omega)⟩) hS (fun r37 G37 H locs hp37 hG hS => ?_)
    obtain ⟨q37, f37, er37, nq37, hx37, hq37, hf37⟩ := hp37
    refine zr_some (a := q37) er37 ?_
    have k1 : G37 a = some (.inr (0, [.ref dd, .int (nI n), .int k])) := hx37.o ha
    have ne_q37_a : a ≠ q37 := zg_fr nq37 ha
    have k2 : G37 dd = some (.inl (E.2.1 3, cap, .inr (.inr (.inr (.inr f))))) := hx37.o hd
    have ne_q37_dd : dd ≠ q37 := zg_fr nq37 hd
    have hx3 : zx (fun q => q = a) G G37 := hx0.tr (hx37.w (fun _ z => z.elim))
    refine lv_dup_x1 hx hb d_AL_grow_2_40 rfl rfl ?_
    refine zg_put (ci := 0) (v := .ref q37) (ty := .array (.object "java/lang/Object")) (C := "java/util/ArrayList") (T := T_AL) (N := 3) hx hb hts zi_AL t_AL t_AL_ok n_AL hown hK hG hS k1 rfl 0 (by decide) (hts _ w_79) (fun _ h9 => h9) rfl (by decide +kernel) rfl rfl (Nat.le_of_ble_eq_true rfl) d_AL_grow_2_41 (fun H locs hG hS => ?_)
    obtain ⟨G4, eG4⟩ : ∃ z : zg_G, z = zg_up G37 a (.inr (0, [.ref q37, .int (nI n), .int k])) := ⟨_, rfl⟩
    have hG : zP E G4 H := by rw [eG4]; exact hG
    have hx5 : zx (fun q => q = a) G G4 := hx3.tr (by rw [eG4]; exact zx.up (rfl))
    have k6 : G4 a = some (.inr (0, [.ref q37, .int (nI n), .int k])) := by rw [eG4]; exact zg_up_self _ _ _
    have k7 : G4 dd = some (.inl (E.2.1 3, cap, .inr (.inr (.inr (.inr f))))) := by rw [eG4, zg_up_ne (zg_ne k2 k1 (by intro h; simp at h))]; exact k2
    have k8 : G4 q37 = some (.inl (E.2.1 3, cap + max 1 (cap / 2), .inr (.inr (.inr (.inr f37))))) := by rw [eG4, zg_up_ne (Ne.symm ne_q37_a)]; exact hq37
    exact hret (some q37) _ _ _ _ _ _ _ _ hr (Or.inr ⟨_, rfl⟩) (⟨q37, f37, rfl, nq37, hx5, k6, by rw [hzg]; exact k8, hf37⟩) hG hS (by dsimp only; omega) (by dsimp only; omega) d_AL_grow_2_44
  · have b7 : ¬ 0 < cap := fun q => c7 ((nI_ltI (a := 0) (b := cap) (by omega) (by omega)).mpr q)
    exact absurd h0 b7
abbrev rm_AL_grow_x (B : Nat) : Room := { frames := 4, cells := 1, slots := B, locals := 140 }
set_option maxHeartbeats 4000000 in
set_option maxRecDepth 100000 in
/-- ArrayList.grow() of a full list -/
theorem t_AL_grow_x (l : Launch) (E : zc_E) (G : zg_G) (a dd : Nat) (xs : List Nat) (hL : zL E G a dd xs) (hfull : ∀ cap f, G dd = some (.inl (E.2.1 3, cap, .inr (.inr (.inr (.inr f))))) → cap = xs.length) (hn : xs.length < 2000) (B : Nat) (hB : zgr xs.length ≤ B) (hel : ∀ z ∈ xs, zel G z) : zMq l E y_AL_grow c_AL_grow 1 (some (.array (.object "java/lang/Object"))) (rm_AL_grow_x B) [.ref a] G (fun (r : Option Nat) (G2 : zg_G) => ∃ q f2, r = some q ∧ G q = none ∧ zx (fun q => q = a) G G2 ∧ (∃ k, G2 a = some (.inr (0, [.ref q, .int (nI xs.length), .int k]))) ∧ G2 q = some (.inl (E.2.1 3, zgr xs.length, .inr (.inr (.inr (.inr f2))))) ∧ ∀ j, f2 j = xs[j]?) := by
  refine zMq.of (by decide) (Nat.le_of_ble_eq_true rfl) ?_
  intro p e s m args below meth c Q hZ hG hret ls hl
  obtain ⟨hx, hb, hr, hts, hown, hlocks, hml, hnm, hbase, hK, hN, hQ⟩ := hZ
  have hl : lv_has ls 1 [(0, .ref a)] := hl
  have hS : zg_S (zc_b E) s.heap s.heap [] := va_S.rf
  obtain ⟨⟨k, ha⟩, ⟨rfl, rfl⟩ | ⟨cap, f, hd, h0, hc, hz, hf⟩⟩ := hL
  · refine lv_aload_n hx hb d_AL_grow_0 rfl (lv_at hl 0 rfl) ?_
    refine lv_aload_n hx hb d_AL_grow_1 rfl (lv_at hl 0 rfl) ?_
    refine zg_get (ci := 0) (C := "java/util/ArrayList") (T := T_AL) (N := 3) hx hb hts zi_AL hown hK hG ha rfl 1 (by decide) (hts _ w_80) (fun _ h9 => h9) rfl d_AL_grow_2 ?_
    refine lv_iconst (v := 1) hx hb d_AL_grow_5 (by decide) ?_
    refine lv_iadd hx hb d_AL_grow_6 ?_
    refine zi_as (y := nI (0 + 1)) (nI_add 0 1) ?_
    have hGo7 := hG
    refine zk_q (va_runV (As := [.int (nI (0 + 1))]) (rest := []) ⟨hx, hb, hml, hown, hts⟩ (t_AL_grow_2_e l E G a k ha B hB) (zcV 1 hts w_561 w_563 wp_7 w_6 w_564 (by decide +kernel) ⟨Nat.le_of_ble_eq_true rfl, Nat.le_of_ble_eq_true rfl⟩) (zc_preV hbase hK hN hQ hG hS ha rfl) rfl rfl hl.1 rfl (lv_room (Nat.le_of_ble_eq_true rfl)) d_AL_grow_7 ⟨(by dsimp only; omega), (by dsimp only; omega)⟩) hS (fun r7 G7 H locs hp7 hG hS => ?_)
    exact hret _ _ _ _ _ _ _ _ _ hr (Or.inr ⟨_, rfl⟩) (by obtain ⟨q, e1, e2, e3, e4, e5⟩ := hp7; exact ⟨q, _, e1, e2, e3, ⟨_, e4⟩, e5, fun j => by simp⟩) hG hS (by dsimp only; omega) (by dsimp only; omega) d_AL_grow_10
  · have ec := hfull cap f hd
    refine lv_aload_n hx hb d_AL_grow_0 rfl (lv_at hl 0 rfl) ?_
    refine lv_aload_n hx hb d_AL_grow_1 rfl (lv_at hl 0 rfl) ?_
    refine zg_get (ci := 0) (C := "java/util/ArrayList") (T := T_AL) (N := 3) hx hb hts zi_AL hown hK hG ha rfl 1 (by decide) (hts _ w_80) (fun _ h9 => h9) rfl d_AL_grow_2 ?_
    refine lv_iconst (v := 1) hx hb d_AL_grow_5 (by decide) ?_
    refine lv_iadd hx hb d_AL_grow_6 ?_
    refine zi_as (y := nI (xs.length + 1)) (nI_add xs.length 1) ?_
    have hGo7 := hG
    refine zk_q (va_runV (As := [.int (nI (xs.length + 1))]) (rest := []) ⟨hx, hb, hml, hown, hts⟩ (t_AL_grow_2_x l E G a dd xs.length xs.length k f ha (hfull cap f hd ▸ hd) (Nat.le_refl _) (by omega) (by omega) B (by omega) (fun j y hj => hel y (List.mem_of_getElem? ((hf j).symm.trans hj)))) (zcV 1 hts w_561 w_563 wp_7 w_6 w_564 (by decide +kernel) ⟨Nat.le_of_ble_eq_true rfl, Nat.le_of_ble_eq_true rfl⟩) (zc_preV hbase hK hN hQ hG hS ha rfl) rfl rfl hl.1 rfl (lv_room (Nat.le_of_ble_eq_true rfl)) d_AL_grow_7 ⟨(by dsimp only; omega), (by dsimp only; omega)⟩) hS (fun r7 G7 H locs hp7 hG hS => ?_)
    exact hret _ _ _ _ _ _ _ _ _ hr (Or.inr ⟨_, rfl⟩) (by obtain ⟨q, f2, e1, e2, e5, e6, e7, e8⟩ := hp7; exact ⟨q, f2, e1, e2, e5, ⟨_, e6⟩, e7, fun j => by rw [e8 j, zf_at hf j]⟩) hG hS (by dsimp only; omega) (by dsimp only; omega) d_AL_grow_10
abbrev rm_AL_add_3_x (C B : Nat) : Room := { frames := 5, cells := C, slots := B, locals := 170 }
set_option maxHeartbeats 4000000 in
set_option maxRecDepth 100000 in
/-- ArrayList.add(e, elementData, size) -/
theorem t_AL_add_3_x (l : Launch) (E : zc_E) (G : zg_G) (a dd : Nat) (xs : List Nat) (hL : zL E G a dd xs) (y : Nat) (hy : zel G y) (hn : xs.length < 2000) (C B : Nat) (hB : zcG G dd ≤ xs.length → 1 ≤ C ∧ zgr (zcG G dd) ≤ B) (hel : ∀ z ∈ xs, zel G z) : zMv l E y_AL_add_3 c_AL_add_3 4 (rm_AL_add_3_x C B) [.ref a, .ref y, .ref dd, .int (nI xs.length)] G (fun (G2 : zg_G) => ∃ dd2, zL E G2 a dd2 (xs ++ [y]) ∧ (dd2 = dd ∨ G dd2 = none) ∧ zx (fun q => q = a ∨ q = dd) G G2 ∧ zcG G2 dd2 = (if xs.length < zcG G dd then zcG G dd else zgr (zcG G dd))) := by
  refine zMv.of (by decide) (Nat.le_of_ble_eq_true rfl) ?_
  intro p e s m args below meth c Q hZ hG hret ls hl
  obtain ⟨hx, hb, hr, hts, hown, hlocks, hml, hnm, hbase, hK, hN, hQ⟩ := hZ
  have hl : lv_has ls 4 [(0, .ref a), (1, .ref y), (2, .ref dd), (3, .int (nI xs.length))] := hl
  have hS : zg_S (zc_b E) s.heap s.heap [] := va_S.rf
  have hG0 := hG
  have hE00 : G (E.2.2.2 0) = none := hQ.out hG
  have hzp : 0 < zgr xs.length := by unfold zgr; split <;> omega
  have hzq : zgr xs.length ≤ 4001 := by unfold zgr; split <;> omega
  have hzr : xs.length < zgr xs.length := by unfold zgr; split <;> omega
  have hx0 : zx (fun q => q = a ∨ q = dd) G G := zx.rf
  obtain ⟨⟨k, ha⟩, hLd⟩ := id hL
  rcases id hLd with ⟨hdd, hxs⟩ | ⟨cap, f, hd, h0, hc, hz, hf⟩
  · have hxl : xs.length = 0 := by rw [hxs]; rfl
    have hcg : zcG G dd = 0 := by rw [hdd]; exact zcG_no hE00
    refine lv_iload_n hx hb d_AL_add_3_0 rfl (lv_at hl 3 rfl) ?_
    refine lv_aload_n hx hb d_AL_add_3_1 rfl (lv_at hl 2 rfl) ?_
    refine W.eq (g2 := F0 m 2 ls [.ref (E.2.2.2 0), .int (nI xs.length)]) (by rw [hdd]) ?_
    refine va_tlen hx hb hQ.2.1 hS (v := 0) rfl d_AL_add_3_2 ?_
    refine lv_icmp_ne (tgt := 11) hx hb d_AL_add_3_3 (by decide) (fun c3 => ?_) (fun c3 => ?_)
    · have b3 : ¬ xs.length = 0 := fun q => c3 ((nI_eq (a := xs.length) (b := 0) (by omega) (by omega)).mpr q)
      exact absurd hxl b3
    · have b3 : xs.length = 0 := (nI_eq (a := xs.length) (b := 0) (by omega) (by omega)).mp c3
      refine lv_aload_n hx hb d_AL_add_3_6 rfl (lv_at hl 0 rfl) ?_
      have hGo7 := hG
      refine zk_q (va_runV (As := []) (rest := []) ⟨hx, hb, hml, hown, hts⟩ (t_AL_grow_x l E G a dd xs hL (fun cap f h => by rw [hdd, hE00] at h; cases h) hn B (by have q := (hB (by omega)).2; rw [hcg] at q; rw [hxl]; exact q) hel) (zcV 0 hts w_557 w_559 wp_6 w_6 w_560 (by decide +kernel) ⟨Nat.le_of_ble_eq_true rfl, Nat.le_of_ble_eq_true rfl⟩) (zc_preV hbase hK hN hQ hG hS ha rfl) rfl rfl hl.1 rfl (lv_room (Nat.le_of_ble_eq_true rfl)) d_AL_add_3_7 ⟨(by have q := (hB (by omega)).1; dsimp only; omega), (by dsimp only; omega)⟩) hS (fun r7 G7 H locs hp7 hG hS => ?_)
      obtain ⟨q7, f7, er7, nq7, hx7, ⟨k7x, hka7⟩, hkq7, hfq7⟩ := hp7
      refine zr_some (a := q7) er7 ?_
      have hneg7 : a ≠ q7 := fun h => by rw [← h, ha] at nq7; cases nq7
      have hec : zcG G dd = xs.length := by rw [hcg, hxl]
      obtain ⟨hC1, hB1⟩ := hB (by rw [hec]; exact Nat.le_refl _)
      have hx1 : zx (fun q => q = a ∨ q = dd) G G7 := hx0.tr (hx7.w (fun _ z => Or.inl z))
      refine lv_astore_n (lv' := [(2, .ref q7), (0, .ref a), (1, .ref y), (3, .int (nI xs.length))]) hx hb d_AL_add_3_10 rfl hl (by decide) rfl (fun ls hl => ?_)
      refine lv_aload_n hx hb d_AL_add_3_11 rfl (lv_at hl 0 rfl) ?_
      refine lv_iload_n hx hb d_AL_add_3_12 rfl (lv_at hl 3 rfl) ?_
      refine lv_aload_n hx hb d_AL_add_3_13 rfl (lv_at hl 2 rfl) ?_
      refine zg_astqM hx hb hK hG hS 3 hkq7 rfl ((hy.keepL hL hQ hG0 hx1).any hK hN hG) (vp_in_nI (by omega) (by omega)) d_AL_add_3_14 (fun H locs hG hS => ?_)
      rw [zi_n xs.length (by omega)] at hG
      obtain ⟨G2, eG2⟩ : ∃ z : zg_G, z = zg_up G7 q7 (.inl (E.2.1 3, zgr xs.length, .inr (.inr (.inr (.inr (va_up f7 xs.length (some y))))))) := ⟨_, rfl⟩
      have hG : zP E G2 H := by rw [eG2]; exact hG
      have hx3 : zx (fun q => q = a ∨ q = dd) G G2 := by rw [eG2]; exact hx1.upn nq7
      have k4 : G2 a = some (.inr (0, [.ref q7, .int (nI xs.length), .int k7x])) := by rw [eG2, zg_up_ne (hneg7)]; exact hka7
      have k5 : G2 q7 = some (.inl (E.2.1 3, zgr xs.length, .inr (.inr (.inr (.inr (va_up f7 xs.length (some y))))))) := by rw [eG2]; exact zg_up_self _ _ _
      refine lv_aload_n hx hb d_AL_add_3_15 rfl (lv_at hl 1 rfl) ?_
      refine lv_iload_n hx hb d_AL_add_3_16 rfl (lv_at hl 3 rfl) ?_
      refine lv_iconst (v := 1) hx hb d_AL_add_3_17 (by decide) ?_
      refine lv_iadd hx hb d_AL_add_3_18 ?_
      refine zi_as (y := nI (xs.length + 1)) (nI_add xs.length 1) ?_
      refine zg_put (ci := 0) (v := .int (nI (xs.length + 1))) (ty := .int) (C := "java/util/ArrayList") (T := T_AL) (N := 3) hx hb hts zi_AL t_AL t_AL_ok n_AL hown hK hG hS k4 rfl 1 (by decide) (hts _ w_80) (fun _ h9 => h9) rfl (by decide +kernel) rfl rfl (Nat.le_of_ble_eq_true rfl) d_AL_add_3_19 (fun H locs hG hS => ?_)
      obtain ⟨G6, eG6⟩ : ∃ z : zg_G, z = zg_up G2 a (.inr (0, [.ref q7, .int (nI (xs.length + 1)), .int k7x])) := ⟨_, rfl⟩
      have hG : zP E G6 H := by rw [eG6]; exact hG
      have hx7 : zx (fun q => q = a ∨ q = dd) G G6 := hx3.tr (by rw [eG6]; exact zx.up (Or.inl rfl))
      have k8 : G6 a = some (.inr (0, [.ref q7, .int (nI (xs.length + 1)), .int k7x])) := by rw [eG6]; exact zg_up_self _ _ _
      have k9 : G6 q7 = some (.inl (E.2.1 3, zgr xs.length, .inr (.inr (.inr (.inr (va_up f7 xs.length (some y))))))) := by rw [eG6, zg_up_ne (Ne.symm hneg7)]; exact k5
      exact hret _ _ _ _ _ _ _ (⟨q7, ⟨⟨_, by rw [List.length_append]; exact k8⟩, Or.inr ⟨zgr xs.length, _, k9, hzp, by rw [List.length_append]; show xs.length + 1 ≤ zgr xs.length; omega, hzq, zf_app hfq7⟩⟩, Or.inr nq7, hx7, by rw [zcG_at k9, if_neg (by rw [hec]; exact Nat.lt_irrefl _), hec]⟩) hG hS (by clear hB; dsimp only; omega) (by clear hB; dsimp only; omega) d_AL_add_3_22
  · have hne : a ≠ dd := zg_ne ha hd (by intro h; cases h)
    have hcg : zcG G dd = cap := zcG_at hd
    refine lv_iload_n hx hb d_AL_add_3_0 rfl (lv_at hl 3 rfl) ?_
    refine lv_aload_n hx hb d_AL_add_3_1 rfl (lv_at hl 2 rfl) ?_
    refine zg_alen hx hb hK hG 3 hd rfl (v := nI cap) rfl d_AL_add_3_2 ?_
    refine lv_icmp_ne (tgt := 11) hx hb d_AL_add_3_3 (by decide) (fun c3 => ?_) (fun c3 => ?_)
    · have b3 : ¬ xs.length = cap := fun q => c3 ((nI_eq (a := xs.length) (b := cap) (by omega) (by omega)).mpr q)
      refine lv_aload_n hx hb d_AL_add_3_11 rfl (lv_at hl 2 rfl) ?_
      refine lv_iload_n hx hb d_AL_add_3_12 rfl (lv_at hl 3 rfl) ?_
      refine lv_aload_n hx hb d_AL_add_3_13 rfl (lv_at hl 1 rfl) ?_
      refine zg_astqM hx hb hK hG hS 3 hd rfl ((hy.keepL hL hQ hG0 hx0).any hK hN hG) (vp_in_nI (by omega) (by omega)) d_AL_add_3_14 (fun H locs hG hS => ?_)
      rw [zi_n xs.length (by omega)] at hG
      obtain ⟨G10, eG10⟩ : ∃ z : zg_G, z = zg_up G dd (.inl (E.2.1 3, cap, .inr (.inr (.inr (.inr (va_up f xs.length (some y))))))) := ⟨_, rfl⟩
      have hG : zP E G10 H := by rw [eG10]; exact hG
      have hx11 : zx (fun q => q = a ∨ q = dd) G G10 := hx0.tr (by rw [eG10]; exact zx.up (Or.inr rfl))
      have k12 : G10 a = some (.inr (0, [.ref dd, .int (nI xs.length), .int k])) := by rw [eG10, zg_up_ne (hne)]; exact ha
      have k13 : G10 dd = some (.inl (E.2.1 3, cap, .inr (.inr (.inr (.inr (va_up f xs.length (some y))))))) := by rw [eG10]; exact zg_up_self _ _ _
      refine lv_aload_n hx hb d_AL_add_3_15 rfl (lv_at hl 0 rfl) ?_
      refine lv_iload_n hx hb d_AL_add_3_16 rfl (lv_at hl 3 rfl) ?_
      refine lv_iconst (v := 1) hx hb d_AL_add_3_17 (by decide) ?_
      refine lv_iadd hx hb d_AL_add_3_18 ?_
      refine zi_as (y := nI (xs.length + 1)) (nI_add xs.length 1) ?_
      refine zg_put (ci := 0) (v := .int (nI (xs.length + 1))) (ty := .int) (C := "java/util/ArrayList") (T := T_AL) (N := 3) hx hb hts zi_AL t_AL t_AL_ok n_AL hown hK hG hS k12 rfl 1 (by decide) (hts _ w_80) (fun _ h9 => h9) rfl (by decide +kernel) rfl rfl (Nat.le_of_ble_eq_true rfl) d_AL_add_3_19 (fun H locs hG hS => ?_)
      obtain ⟨G14, eG14⟩ : ∃ z : zg_G, z = zg_up G10 a (.inr (0, [.ref dd, .int (nI (xs.length + 1)), .int k])) := ⟨_, rfl⟩
      have hG : zP E G14 H := by rw [eG14]; exact hG
      have hx15 : zx (fun q => q = a ∨ q = dd) G G14 := hx11.tr (by rw [eG14]; exact zx.up (Or.inl rfl))
      have k16 : G14 a = some (.inr (0, [.ref dd, .int (nI (xs.length + 1)), .int k])) := by rw [eG14]; exact zg_up_self _ _ _
      have k17 : G14 dd = some (.inl (E.2.1 3, cap, .inr (.inr (.inr (.inr (va_up f xs.length (some y))))))) := by rw [eG14, zg_up_ne (Ne.symm hne)]; exact k13
      exact hret _ _ _ _ _ _ _ (⟨dd, ⟨⟨_, by rw [List.length_append]; exact k16⟩, Or.inr ⟨cap, _, k17, h0, by rw [List.length_append]; show xs.length + 1 ≤ cap; omega, hz, zf_app hf⟩⟩, Or.inl rfl, hx15, by rw [zcG_at k17, if_pos (by omega), hcg]⟩) hG hS (by dsimp only; omega) (by dsimp only; omega) d_AL_add_3_22
    · have b3 : xs.length = cap := (nI_eq (a := xs.length) (b := cap) (by omega) (by omega)).mp c3
      refine lv_aload_n hx hb d_AL_add_3_6 rfl (lv_at hl 0 rfl) ?_
      have hGo7 := hG
      refine zk_q (va_runV (As := []) (rest := []) ⟨hx, hb, hml, hown, hts⟩ (t_AL_grow_x l E G a dd xs hL (fun cap2 f2 h => by rw [hd] at h; cases h; exact b3.symm) hn B (by have q := (hB (by omega)).2; rw [hcg, ← b3] at q; exact q) hel) (zcV 0 hts w_557 w_559 wp_6 w_6 w_560 (by decide +kernel) ⟨Nat.le_of_ble_eq_true rfl, Nat.le_of_ble_eq_true rfl⟩) (zc_preV hbase hK hN hQ hG hS ha rfl) rfl rfl hl.1 rfl (lv_room (Nat.le_of_ble_eq_true rfl)) d_AL_add_3_7 ⟨(by have q := (hB (by omega)).1; dsimp only; omega), (by dsimp only; omega)⟩) hS (fun r7 G7 H locs hp7 hG hS => ?_)
      obtain ⟨q7, f7, er7, nq7, hx7, ⟨k7x, hka7⟩, hkq7, hfq7⟩ := hp7
      refine zr_some (a := q7) er7 ?_
      have hneg7 : a ≠ q7 := fun h => by rw [← h, ha] at nq7; cases nq7
      have hec : zcG G dd = xs.length := by rw [hcg, b3]
      obtain ⟨hC1, hB1⟩ := hB (by rw [hec]; exact Nat.le_refl _)
      have hx18 : zx (fun q => q = a ∨ q = dd) G G7 := hx0.tr (hx7.w (fun _ z => Or.inl z))
      refine lv_astore_n (lv' := [(2, .ref q7), (0, .ref a), (1, .ref y), (3, .int (nI xs.length))]) hx hb d_AL_add_3_10 rfl hl (by decide) rfl (fun ls hl => ?_)
      refine lv_aload_n hx hb d_AL_add_3_11 rfl (lv_at hl 0 rfl) ?_
      refine lv_iload_n hx hb d_AL_add_3_12 rfl (lv_at hl 3 rfl) ?_
      refine lv_aload_n hx hb d_AL_add_3_13 rfl (lv_at hl 2 rfl) ?_
      refine zg_astqM hx hb hK hG hS 3 hkq7 rfl ((hy.keepL hL hQ hG0 hx18).any hK hN hG) (vp_in_nI (by omega) (by omega)) d_AL_add_3_14 (fun H locs hG hS => ?_)
      rw [zi_n xs.length (by omega)] at hG
      obtain ⟨G19, eG19⟩ : ∃ z : zg_G, z = zg_up G7 q7 (.inl (E.2.1 3, zgr xs.length, .inr (.inr (.inr (.inr (va_up f7 xs.length (some y))))))) := ⟨_, rfl⟩
      have hG : zP E G19 H := by rw [eG19]; exact hG
      have hx20 : zx (fun q => q = a ∨ q = dd) G G19 := by rw [eG19]; exact hx18.upn nq7
      have k21 : G19 a = some (.inr (0, [.ref q7, .int (nI xs.length), .int k7x])) := by rw [eG19, zg_up_ne (hneg7)]; exact hka7
      have k22 : G19 q7 = some (.inl (E.2.1 3, zgr xs.length, .inr (.inr (.inr (.inr (va_up f7 xs.length (some y))))))) := by rw [eG19]; exact zg_up_self _ _ _
      refine lv_aload_n hx hb d_AL_add_3_15 rfl (lv_at hl 1 rfl) ?_
      refine lv_iload_n hx hb d_AL_add_3_16 rfl (lv_at hl 3 rfl) ?_
      refine lv_iconst (v := 1) hx hb d_AL_add_3_17 (by decide) ?_
      refine lv_iadd hx hb d_AL_add_3_18 ?_
      refine zi_as (y := nI (xs.length + 1)) (nI_add xs.length 1) ?_
      refine zg_put (ci := 0) (v := .int (nI (xs.length + 1))) (ty := .int) (C := "java/util/ArrayList") (T := T_AL) (N := 3) hx hb hts zi_AL t_AL t_AL_ok n_AL hown hK hG hS k21 rfl 1 (by decide) (hts _ w_80) (fun _ h9 => h9) rfl (by decide +kernel) rfl rfl (Nat.le_of_ble_eq_true rfl) d_AL_add_3_19 (fun H locs hG hS => ?_)
      obtain ⟨G23, eG23⟩ : ∃ z : zg_G, z = zg_up G19 a (.inr (0, [.ref q7, .int (nI (xs.length + 1)), .int k7x])) := ⟨_, rfl⟩
      have hG : zP E G23 H := by rw [eG23]; exact hG
      have hx24 : zx (fun q => q = a ∨ q = dd) G G23 := hx20.tr (by rw [eG23]; exact zx.up (Or.inl rfl))
      have k25 : G23 a = some (.inr (0, [.ref q7, .int (nI (xs.length + 1)), .int k7x])) := by rw [eG23]; exact zg_up_self _ _ _
      have k26 : G23 q7 = some (.inl (E.2.1 3, zgr xs.length, .inr (.inr (.inr (.inr (va_up f7 xs.length (some y))))))) := by rw [eG23, zg_up_ne (Ne.symm hneg7)]; exact k22
      exact hret _ _ _ _ _ _ _ (⟨q7, ⟨⟨_, by rw [List.length_append]; exact k25⟩, Or.inr ⟨zgr xs.length, _, k26, hzp, by rw [List.length_append]; show xs.length + 1 ≤ zgr xs.length; omega, hzq, zf_app hfq7⟩⟩, Or.inr nq7, hx24, by rw [zcG_at k26, if_neg (by rw [hec]; exact Nat.lt_irrefl _), hec]⟩) hG hS (by clear hB; dsimp only; omega) (by clear hB; dsimp only; omega) d_AL_add_3_22
abbrev rm_AL_add_2_x (C B : Nat) : Room := { frames := 6, cells := C, slots := B, locals := 200 }
set_option maxHeartbeats 4000000 in
set_option maxRecDepth 100000 in
/-- ArrayList.add(e) -/
theorem t_AL_add_2_x (l : Launch) (E : zc_E) (G : zg_G) (a dd : Nat) (xs : List Nat) (hL : zL E G a dd xs) (y : Nat) (hy : zel G y) (hn : xs.length < 2000) (C B : Nat) (hB : zcG G dd ≤ xs.length → 1 ≤ C ∧ zgr (zcG G dd) ≤ B) (hel : ∀ z ∈ xs, zel G z) : zMi l E y_AL_add_2 c_AL_add_2 2 (some .boolean) (rm_AL_add_2_x C B) [.ref a, .ref y] G (fun (r : Int32) (G2 : zg_G) => r = 1 ∧ ∃ dd2, zL E G2 a dd2 (xs ++ [y]) ∧ (dd2 = dd ∨ G dd2 = none) ∧ zx (fun q => q = a ∨ q = dd) G G2 ∧ zcG G2 dd2 = (if xs.length < zcG G dd then zcG G dd else zgr (zcG G dd))) := by
  refine zMi.of (by decide) (Nat.le_of_ble_eq_true rfl) ?_
  intro p e s m args below meth c Q hZ hG hret ls hl
  obtain ⟨hx, hb, hr, hts, hown, hlocks, hml, hnm, hbase, hK, hN, hQ⟩ := hZ
  have hl : lv_has ls 2 [(0, .ref a), (1, .ref y)] := hl
  have hS : zg_S (zc_b E) s.heap s.heap [] := va_S.rf
  have hG0 := hG
  have hE00 : G (E.2.2.2 0) = none := hQ.out hG
  have hx0 : zx (fun q => q = a ∨ q = dd) G G := zx.rf
  obtain ⟨⟨k, ha⟩, hLd⟩ := id hL
  rcases id hLd with ⟨hdd, hxs⟩ | ⟨cap, f, hd, h0, hc, hz, hf⟩
  · have hxl : xs.length = 0 := by rw [hxs]; rfl
    have hcg : zcG G dd = 0 := by rw [hdd]; exact zcG_no hE00
    refine lv_aload_n hx hb d_AL_add_2_0 rfl (lv_at hl 0 rfl) ?_
    refine lv_dup hx hb d_AL_add_2_1 rfl ?_
    refine zg_get (ci := 0) (C := "java/util/ArrayList") (T := T_AL) (N := 3) hx hb hts zi_AL hown hK hG ha rfl 2 (by decide) (hts _ w_82) (u_same (hts _ w_83)) rfl d_AL_add_2_2 ?_
    refine lv_iconst (v := 1) hx hb d_AL_add_2_5 (by decide) ?_
    refine lv_iadd hx hb d_AL_add_2_6 ?_
    refine zg_put (ci := 0) (v := .int (k + 1)) (ty := .int) (C := "java/util/ArrayList") (T := T_AL) (N := 3) hx hb hts zi_AL t_AL t_AL_ok n_AL hown hK hG hS ha rfl 2 (by decide) (hts _ w_82) (u_same (hts _ w_83)) rfl (by decide +kernel) rfl rfl (Nat.le_of_ble_eq_true rfl) d_AL_add_2_7 (fun H locs hG hS => ?_)
    obtain ⟨G1, eG1⟩ : ∃ z : zg_G, z = zg_up G a (.inr (0, [.ref dd, .int (nI xs.length), .int (k + 1)])) := ⟨_, rfl⟩
    have hG : zP E G1 H := by rw [eG1]; exact hG
    have hx2 : zx (fun q => q = a ∨ q = dd) G G1 := hx0.tr (by rw [eG1]; exact zx.up (Or.inl rfl))
    have k3 : G1 a = some (.inr (0, [.ref dd, .int (nI xs.length), .int (k + 1)])) := by rw [eG1]; exact zg_up_self _ _ _
    refine lv_aload_n hx hb d_AL_add_2_10 rfl (lv_at hl 0 rfl) ?_
    refine lv_aload_n hx hb d_AL_add_2_11 rfl (lv_at hl 1 rfl) ?_
    refine lv_aload_n hx hb d_AL_add_2_12 rfl (lv_at hl 0 rfl) ?_
    refine zg_get (ci := 0) (C := "java/util/ArrayList") (T := T_AL) (N := 3) hx hb hts zi_AL hown hK hG k3 rfl 0 (by decide) (hts _ w_79) (fun _ h9 => h9) rfl d_AL_add_2_13 ?_
    refine lv_aload_n hx hb d_AL_add_2_16 rfl (lv_at hl 0 rfl) ?_
    refine zg_get (ci := 0) (C := "java/util/ArrayList") (T := T_AL) (N := 3) hx hb hts zi_AL hown hK hG k3 rfl 1 (by decide) (hts _ w_80) (fun _ h9 => h9) rfl d_AL_add_2_17 ?_
    have hGo20 := hG
    refine zk_v (va_runV (As := [.ref y, .ref dd, .int (nI xs.length)]) (rest := []) ⟨hx, hb, hml, hown, hts⟩ (t_AL_add_3_x l E G1 a dd xs ⟨⟨_, k3⟩, Or.inl ⟨hdd, hxs⟩⟩ y (hy.keepL hL hQ hG0 hx2) hn C B (by rw [(show zcG G1 dd = zcG G dd by rw [hcg]; rw [hdd]; exact zcG_no (hQ.out hG))]; exact hB) (fun z hz => (hel z hz).keepL hL hQ hG0 hx2)) (zcV 3 hts w_641 w_643 wp_8 w_6 w_644 (by decide +kernel) ⟨Nat.le_of_ble_eq_true rfl, Nat.le_of_ble_eq_true rfl⟩) (zc_preV hbase hK hN hQ hG hS k3 rfl) rfl rfl hl.1 rfl (lv_room (Nat.le_of_ble_eq_true rfl)) d_AL_add_2_20 ⟨(by dsimp only; omega), (by dsimp only; omega)⟩) hS (fun G20 H locs hp20 hG hS => ?_)
    obtain ⟨dd2, hL2, hd2, hx20, hcz⟩ := hp20
    have hxF := hx2.tr hx20
    have hd3 := zL.d3 hd2 hx2 k3
    have hcy : zcG G1 dd = zcG G dd := by rw [hcg]; rw [hdd]; exact zcG_no (hQ.out hGo20)
    rw [hcy] at hcz
    refine lv_iconst (v := 1) hx hb d_AL_add_2_23 (by decide) ?_
    exact hret _ _ _ _ _ _ _ _ _ hr (rfl) (⟨rfl, dd2, hL2, hd3, hxF, hcz⟩) hG hS (by dsimp only; omega) (by dsimp only; omega) d_AL_add_2_24
  · have hne : a ≠ dd := zg_ne ha hd (by intro h; cases h)
    have hcg : zcG G dd = cap := zcG_at hd
    refine lv_aload_n hx hb d_AL_add_2_0 rfl (lv_at hl 0 rfl) ?_
    refine lv_dup hx hb d_AL_add_2_1 rfl ?_
    refine zg_get (ci := 0) (C := "java/util/ArrayList") (T := T_AL) (N := 3) hx hb hts zi_AL hown hK hG ha rfl 2 (by decide) (hts _ w_82) (u_same (hts _ w_83)) rfl d_AL_add_2_2 ?_
    refine lv_iconst (v := 1) hx hb d_AL_add_2_5 (by decide) ?_
    refine lv_iadd hx hb d_AL_add_2_6 ?_
    refine zg_put (ci := 0) (v := .int (k + 1)) (ty := .int) (C := "java/util/ArrayList") (T := T_AL) (N := 3) hx hb hts zi_AL t_AL t_AL_ok n_AL hown hK hG hS ha rfl 2 (by decide) (hts _ w_82) (u_same (hts _ w_83)) rfl (by decide +kernel) rfl rfl (Nat.le_of_ble_eq_true rfl) d_AL_add_2_7 (fun H locs hG hS => ?_)
    obtain ⟨G4, eG4⟩ : ∃ z : zg_G, z = zg_up G a (.inr (0, [.ref dd, .int (nI xs.length), .int (k + 1)])) := ⟨_, rfl⟩
    have hG : zP E G4 H := by rw [eG4]; exact hG
    have hx5 : zx (fun q => q = a ∨ q = dd) G G4 := hx0.tr (by rw [eG4]; exact zx.up (Or.inl rfl))
    have k6 : G4 a = some (.inr (0, [.ref dd, .int (nI xs.length), .int (k + 1)])) := by rw [eG4]; exact zg_up_self _ _ _
    have k7 : G4 dd = some (.inl (E.2.1 3, cap, .inr (.inr (.inr (.inr f))))) := by rw [eG4, zg_up_ne (Ne.symm hne)]; exact hd
    refine lv_aload_n hx hb d_AL_add_2_10 rfl (lv_at hl 0 rfl) ?_
    refine lv_aload_n hx hb d_AL_add_2_11 rfl (lv_at hl 1 rfl) ?_
    refine lv_aload_n hx hb d_AL_add_2_12 rfl (lv_at hl 0 rfl) ?_
    refine zg_get (ci := 0) (C := "java/util/ArrayList") (T := T_AL) (N := 3) hx hb hts zi_AL hown hK hG k6 rfl 0 (by decide) (hts _ w_79) (fun _ h9 => h9) rfl d_AL_add_2_13 ?_
    refine lv_aload_n hx hb d_AL_add_2_16 rfl (lv_at hl 0 rfl) ?_
    refine zg_get (ci := 0) (C := "java/util/ArrayList") (T := T_AL) (N := 3) hx hb hts zi_AL hown hK hG k6 rfl 1 (by decide) (hts _ w_80) (fun _ h9 => h9) rfl d_AL_add_2_17 ?_
    have hGo20 := hG
    refine zk_v (va_runV (As := [.ref y, .ref dd, .int (nI xs.length)]) (rest := []) ⟨hx, hb, hml, hown, hts⟩ (t_AL_add_3_x l E G4 a dd xs ⟨⟨_, k6⟩, Or.inr ⟨cap, f, k7, h0, hc, hz, hf⟩⟩ y (hy.keepL hL hQ hG0 hx5) hn C B (by rw [(show zcG G4 dd = zcG G dd by rw [hcg]; exact zcG_at k7)]; exact hB) (fun z hz => (hel z hz).keepL hL hQ hG0 hx5)) (zcV 3 hts w_641 w_643 wp_8 w_6 w_644 (by decide +kernel) ⟨Nat.le_of_ble_eq_true rfl, Nat.le_of_ble_eq_true rfl⟩) (zc_preV hbase hK hN hQ hG hS k6 rfl) rfl rfl hl.1 rfl (lv_room (Nat.le_of_ble_eq_true rfl)) d_AL_add_2_20 ⟨(by dsimp only; omega), (by dsimp only; omega)⟩) hS (fun G20 H locs hp20 hG hS => ?_)
    obtain ⟨dd2, hL2, hd2, hx20, hcz⟩ := hp20
    have hxF := hx5.tr hx20
    have hd3 := zL.d3 hd2 hx5 k6
    have hcy : zcG G4 dd = zcG G dd := by rw [hcg]; exact zcG_at k7
    rw [hcy] at hcz
    refine lv_iconst (v := 1) hx hb d_AL_add_2_23 (by decide) ?_
    exact hret _ _ _ _ _ _ _ _ _ hr (rfl) (⟨rfl, dd2, hL2, hd3, hxF, hcz⟩) hG hS (by dsimp only; omega) (by dsimp only; omega) d_AL_add_2_24
