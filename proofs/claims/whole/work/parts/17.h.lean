theorem w_561 : (.methodLink "java/util/ArrayList" 69 ⟨"java/util/ArrayList", "grow", "(I)[Ljava/lang/Object;"⟩ : Cond) ∈ zw := zw_at 561 (by decide +kernel) (by decide +kernel)
theorem w_563 : (.instanceMethod ⟨"java/util/ArrayList", "grow", "(I)[Ljava/lang/Object;"⟩ : Cond) ∈ zw := zw_at 563 (by decide +kernel) (by decide +kernel)
theorem w_564 : (.code ⟨"java/util/ArrayList", "grow", "(I)[Ljava/lang/Object;"⟩ prog_35_method_6_code 4 (some (.array (.object "java/lang/Object"))) : Cond) ∈ zw := zw_at 564 (by decide +kernel) (by decide +kernel)
theorem wp_7 : (.selects "java/util/ArrayList" ⟨"java/util/ArrayList", "grow", "(I)[Ljava/lang/Object;"⟩ ⟨"java/util/ArrayList", "grow", "(I)[Ljava/lang/Object;"⟩ : Cond) ∈ zw := zw_pv 7 (y := ⟨"java/util/ArrayList", "grow", "(I)[Ljava/lang/Object;"⟩) rfl (by decide +kernel)
abbrev c_AL_grow : ByteArray := prog_35_method_7_code
abbrev y_AL_grow : MethodName := ⟨"java/util/ArrayList", "grow", "()[Ljava/lang/Object;"⟩
theorem d_AL_grow_0 : decode c_AL_grow 0 = .ok (.aload_n 0, 1) := by decide +kernel
theorem d_AL_grow_1 : decode c_AL_grow 1 = .ok (.aload_n 0, 1) := by decide +kernel
theorem d_AL_grow_2 : decode c_AL_grow 2 = .ok (.getfield 48, 3) := by decide +kernel
theorem d_AL_grow_5 : decode c_AL_grow 5 = .ok (.iconst 1, 1) := by decide +kernel
theorem d_AL_grow_6 : decode c_AL_grow 6 = .ok (.iadd, 1) := by decide +kernel
theorem d_AL_grow_7 : decode c_AL_grow 7 = .ok (.invokevirtual 69, 3) := by decide +kernel
theorem d_AL_grow_10 : decode c_AL_grow 10 = .ok (.areturn, 1) := by decide +kernel
abbrev rm_AL_grow (B : Nat) : Room := { frames := 4, cells := 1, slots := B, locals := 140 }
set_option maxHeartbeats 4000000 in
set_option maxRecDepth 100000 in
/-- ArrayList.grow() of a full list -/
theorem t_AL_grow (l : Launch) (E : zc_E) (G : zg_G) (a dd : Nat) (xs : List Nat) (hL : zL E G a dd xs) (hfull : ∀ cap f, G dd = some (.inl (E.2.1 3, cap, .inr (.inr (.inr (.inr f))))) → cap = xs.length) (hn : xs.length < 2000) (B : Nat) (hB : 2 * xs.length + 10 ≤ B) (hel : ∀ z ∈ xs, zel G z) : zMq l E y_AL_grow c_AL_grow 1 (some (.array (.object "java/lang/Object"))) (rm_AL_grow B) [.ref a] G (fun (r : Option Nat) (G2 : zg_G) => ∃ q f2 c2, r = some q ∧ G q = none ∧ xs.length < c2 ∧ c2 ≤ 2 * xs.length + 10 ∧ c2 ≤ 4001 ∧ zx (fun q => q = a) G G2 ∧ (∃ k, G2 a = some (.inr (0, [.ref q, .int (nI xs.length), .int k]))) ∧ G2 q = some (.inl (E.2.1 3, c2, .inr (.inr (.inr (.inr f2))))) ∧ ∀ j, f2 j = xs[j]?) := by
  refine zMq.of (by decide) (Nat.le_of_ble_eq_true rfl) ?_
  intro p e s m args below meth c Q hZ hG hret ls hl
  obtain ⟨hx, hb, hr, hts, hown, hlocks, hml, hnm, hbase, hK, hN, hQ⟩ := hZ
  have hl : lv_has ls 1 [(0, .ref a)] := hl
  have hS : zg_S (zc_b E) s.heap s.heap [] := va_S.rf
  obtain ⟨⟨k, ha⟩, ⟨rfl, rfl⟩ | ⟨cap, f, hd, h0, hc, hz, hf⟩⟩ := hL
  · refine lv_aload_n hx hb d_AL_grow_0 rfl (lv_at hl 0 rfl) ?_
    refine lv_aload_n hx hb d_AL_grow_1 rfl (lv_at hl 0 rfl) ?_
    refine zg_get (ci := 0) (C := "java/util/ArrayList") (T := T_AL) (N := 3) hx hb hts zi_AL hown hK hG ha rfl 1 (by decide) (hts _ w_80) (fun _ h9 => h9) rfl d_AL_grow_2 ?_
    refine lv_iconst (v := 1) hx hb d_AL_grow_5 (by decide) ?_
    refine lv_iadd hx hb d_AL_grow_6 ?_
    refine zi_as (y := nI (0 + 1)) (nI_add 0 1) ?_
    refine zk_q (va_runV (As := [.int (nI (0 + 1))]) (rest := []) ⟨hx, hb, hml, hown, hts⟩ (t_AL_grow_2_e l E G a k ha B (by simpa using hB)) (zcV 1 hts w_561 w_563 wp_7 w_6 w_564 (by decide +kernel) ⟨Nat.le_of_ble_eq_true rfl, Nat.le_of_ble_eq_true rfl⟩) (zc_preV hbase hK hN hQ hG hS ha rfl) rfl rfl hl.1 rfl (lv_room (Nat.le_of_ble_eq_true rfl)) d_AL_grow_7 ⟨(by dsimp only; omega), (by dsimp only; omega)⟩) hS (fun r7 G7 H locs hp7 hG hS => ?_)
    exact hret _ _ _ _ _ _ _ _ _ hr (Or.inr ⟨_, rfl⟩) (by obtain ⟨q, e1, e2, e3, e4, e5⟩ := hp7; exact ⟨q, _, 10, e1, e2, by decide, by decide, by decide, e3, ⟨_, e4⟩, e5, fun j => by simp⟩) hG hS (by dsimp only; omega) (by dsimp only; omega) d_AL_grow_10
  · have ec := hfull cap f hd
    refine lv_aload_n hx hb d_AL_grow_0 rfl (lv_at hl 0 rfl) ?_
    refine lv_aload_n hx hb d_AL_grow_1 rfl (lv_at hl 0 rfl) ?_
    refine zg_get (ci := 0) (C := "java/util/ArrayList") (T := T_AL) (N := 3) hx hb hts zi_AL hown hK hG ha rfl 1 (by decide) (hts _ w_80) (fun _ h9 => h9) rfl d_AL_grow_2 ?_
    refine lv_iconst (v := 1) hx hb d_AL_grow_5 (by decide) ?_
    refine lv_iadd hx hb d_AL_grow_6 ?_
    refine zi_as (y := nI (xs.length + 1)) (nI_add xs.length 1) ?_
    refine zk_q (va_runV (As := [.int (nI (xs.length + 1))]) (rest := []) ⟨hx, hb, hml, hown, hts⟩ (t_AL_grow_2_f l E G a dd xs.length xs.length k f ha (hfull cap f hd ▸ hd) (Nat.le_refl _) (by omega) (by omega) B (by omega) (fun j y hj => hel y (List.mem_of_getElem? ((hf j).symm.trans hj)))) (zcV 1 hts w_561 w_563 wp_7 w_6 w_564 (by decide +kernel) ⟨Nat.le_of_ble_eq_true rfl, Nat.le_of_ble_eq_true rfl⟩) (zc_preV hbase hK hN hQ hG hS ha rfl) rfl rfl hl.1 rfl (lv_room (Nat.le_of_ble_eq_true rfl)) d_AL_grow_7 ⟨(by dsimp only; omega), (by dsimp only; omega)⟩) hS (fun r7 G7 H locs hp7 hG hS => ?_)
    exact hret _ _ _ _ _ _ _ _ _ hr (Or.inr ⟨_, rfl⟩) (by obtain ⟨q, f2, c2, e1, e2, e3, e4, e5, e6, e7, e8⟩ := hp7; exact ⟨q, f2, c2, e1, e2, e3, by omega, by omega, e5, ⟨_, e6⟩, e7, fun j => by rw [e8 j, zf_at hf j]⟩) hG hS (by dsimp only; omega) (by dsimp only; omega) d_AL_grow_10
