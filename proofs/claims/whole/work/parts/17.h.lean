theorem w_557 : (.methodLink "java/util/ArrayList" 129 ⟨"java/util/ArrayList", "grow", "()[Ljava/lang/Object;"⟩ : Cond) ∈ zw := zw_at 557 (by decide +kernel) (by decide +kernel)
theorem w_559 : (.instanceMethod ⟨"java/util/ArrayList", "grow", "()[Ljava/lang/Object;"⟩ : Cond) ∈ zw := zw_at 559 (by decide +kernel) (by decide +kernel)
theorem w_560 : (.code ⟨"java/util/ArrayList", "grow", "()[Ljava/lang/Object;"⟩ prog_35_method_7_code 1 (some (.array (.object "java/lang/Object"))) : Cond) ∈ zw := zw_at 560 (by decide +kernel) (by decide +kernel)
theorem w_561 : (.methodLink "java/util/ArrayList" 69 ⟨"java/util/ArrayList", "grow", "(I)[Ljava/lang/Object;"⟩ : Cond) ∈ zw := zw_at 561 (by decide +kernel) (by decide +kernel)
theorem w_563 : (.instanceMethod ⟨"java/util/ArrayList", "grow", "(I)[Ljava/lang/Object;"⟩ : Cond) ∈ zw := zw_at 563 (by decide +kernel) (by decide +kernel)
theorem w_564 : (.code ⟨"java/util/ArrayList", "grow", "(I)[Ljava/lang/Object;"⟩ prog_35_method_6_code 4 (some (.array (.object "java/lang/Object"))) : Cond) ∈ zw := zw_at 564 (by decide +kernel) (by decide +kernel)
theorem w_641 : (.methodLink "java/util/ArrayList" 131 ⟨"java/util/ArrayList", "add", "(Ljava/lang/Object;[Ljava/lang/Object;I)V"⟩ : Cond) ∈ zw := zw_at 641 (by decide +kernel) (by decide +kernel)
theorem w_643 : (.instanceMethod ⟨"java/util/ArrayList", "add", "(Ljava/lang/Object;[Ljava/lang/Object;I)V"⟩ : Cond) ∈ zw := zw_at 643 (by decide +kernel) (by decide +kernel)
theorem w_644 : (.code ⟨"java/util/ArrayList", "add", "(Ljava/lang/Object;[Ljava/lang/Object;I)V"⟩ prog_35_method_24_code 4 none : Cond) ∈ zw := zw_at 644 (by decide +kernel) (by decide +kernel)
theorem wp_6 : (.selects "java/util/ArrayList" ⟨"java/util/ArrayList", "grow", "()[Ljava/lang/Object;"⟩ ⟨"java/util/ArrayList", "grow", "()[Ljava/lang/Object;"⟩ : Cond) ∈ zw := zw_pv 6 (y := ⟨"java/util/ArrayList", "grow", "()[Ljava/lang/Object;"⟩) rfl (by decide +kernel)
theorem wp_7 : (.selects "java/util/ArrayList" ⟨"java/util/ArrayList", "grow", "(I)[Ljava/lang/Object;"⟩ ⟨"java/util/ArrayList", "grow", "(I)[Ljava/lang/Object;"⟩ : Cond) ∈ zw := zw_pv 7 (y := ⟨"java/util/ArrayList", "grow", "(I)[Ljava/lang/Object;"⟩) rfl (by decide +kernel)
theorem wp_8 : (.selects "java/util/ArrayList" ⟨"java/util/ArrayList", "add", "(Ljava/lang/Object;[Ljava/lang/Object;I)V"⟩ ⟨"java/util/ArrayList", "add", "(Ljava/lang/Object;[Ljava/lang/Object;I)V"⟩ : Cond) ∈ zw := zw_pv 8 (y := ⟨"java/util/ArrayList", "add", "(Ljava/lang/Object;[Ljava/lang/Object;I)V"⟩) rfl (by decide +kernel)
abbrev c_AL_grow : ByteArray := prog_35_method_7_code
abbrev y_AL_grow : MethodName := ⟨"java/util/ArrayList", "grow", "()[Ljava/lang/Object;"⟩
theorem d_AL_grow_0 : decode c_AL_grow 0 = .ok (.aload_n 0, 1) := by decide +kernel
theorem d_AL_grow_1 : decode c_AL_grow 1 = .ok (.aload_n 0, 1) := by decide +kernel
theorem d_AL_grow_2 : decode c_AL_grow 2 = .ok (.getfield 48, 3) := by decide +kernel
theorem d_AL_grow_5 : decode c_AL_grow 5 = .ok (.iconst 1, 1) := by decide +kernel
theorem d_AL_grow_6 : decode c_AL_grow 6 = .ok (.iadd, 1) := by decide +kernel
theorem d_AL_grow_7 : decode c_AL_grow 7 = .ok (.invokevirtual 69, 3) := by decide +kernel
theorem d_AL_grow_10 : decode c_AL_grow 10 = .ok (.areturn, 1) := by decide +kernel
abbrev c_AL_add_3 : ByteArray := prog_35_method_24_code
abbrev y_AL_add_3 : MethodName := ⟨"java/util/ArrayList", "add", "(Ljava/lang/Object;[Ljava/lang/Object;I)V"⟩
theorem d_AL_add_3_0 : decode c_AL_add_3 0 = .ok (.iload_n 3, 1) := by decide +kernel
theorem d_AL_add_3_1 : decode c_AL_add_3 1 = .ok (.aload_n 2, 1) := by decide +kernel
theorem d_AL_add_3_2 : decode c_AL_add_3 2 = .ok (.arraylength, 1) := by decide +kernel
theorem d_AL_add_3_3 : decode c_AL_add_3 3 = .ok (.if_icmp .ne 8, 3) := by decide +kernel
theorem d_AL_add_3_6 : decode c_AL_add_3 6 = .ok (.aload_n 0, 1) := by decide +kernel
theorem d_AL_add_3_7 : decode c_AL_add_3 7 = .ok (.invokevirtual 129, 3) := by decide +kernel
theorem d_AL_add_3_10 : decode c_AL_add_3 10 = .ok (.astore_n 2, 1) := by decide +kernel
theorem d_AL_add_3_11 : decode c_AL_add_3 11 = .ok (.aload_n 2, 1) := by decide +kernel
theorem d_AL_add_3_12 : decode c_AL_add_3 12 = .ok (.iload_n 3, 1) := by decide +kernel
theorem d_AL_add_3_13 : decode c_AL_add_3 13 = .ok (.aload_n 1, 1) := by decide +kernel
theorem d_AL_add_3_14 : decode c_AL_add_3 14 = .ok (.aastore, 1) := by decide +kernel
theorem d_AL_add_3_15 : decode c_AL_add_3 15 = .ok (.aload_n 0, 1) := by decide +kernel
theorem d_AL_add_3_16 : decode c_AL_add_3 16 = .ok (.iload_n 3, 1) := by decide +kernel
theorem d_AL_add_3_17 : decode c_AL_add_3 17 = .ok (.iconst 1, 1) := by decide +kernel
theorem d_AL_add_3_18 : decode c_AL_add_3 18 = .ok (.iadd, 1) := by decide +kernel
theorem d_AL_add_3_19 : decode c_AL_add_3 19 = .ok (.putfield 48, 3) := by decide +kernel
theorem d_AL_add_3_22 : decode c_AL_add_3 22 = .ok (.return_, 1) := by decide +kernel
abbrev c_AL_add_2 : ByteArray := prog_35_method_25_code
abbrev y_AL_add_2 : MethodName := ⟨"java/util/ArrayList", "add", "(Ljava/lang/Object;)Z"⟩
theorem d_AL_add_2_0 : decode c_AL_add_2 0 = .ok (.aload_n 0, 1) := by decide +kernel
theorem d_AL_add_2_1 : decode c_AL_add_2 1 = .ok (.dup, 1) := by decide +kernel
theorem d_AL_add_2_2 : decode c_AL_add_2 2 = .ok (.getfield 63, 3) := by decide +kernel
theorem d_AL_add_2_5 : decode c_AL_add_2 5 = .ok (.iconst 1, 1) := by decide +kernel
theorem d_AL_add_2_6 : decode c_AL_add_2 6 = .ok (.iadd, 1) := by decide +kernel
theorem d_AL_add_2_7 : decode c_AL_add_2 7 = .ok (.putfield 63, 3) := by decide +kernel
theorem d_AL_add_2_10 : decode c_AL_add_2 10 = .ok (.aload_n 0, 1) := by decide +kernel
theorem d_AL_add_2_11 : decode c_AL_add_2 11 = .ok (.aload_n 1, 1) := by decide +kernel
theorem d_AL_add_2_12 : decode c_AL_add_2 12 = .ok (.aload_n 0, 1) := by decide +kernel
theorem d_AL_add_2_13 : decode c_AL_add_2 13 = .ok (.getfield 9, 3) := by decide +kernel
theorem d_AL_add_2_16 : decode c_AL_add_2 16 = .ok (.aload_n 0, 1) := by decide +kernel
theorem d_AL_add_2_17 : decode c_AL_add_2 17 = .ok (.getfield 48, 3) := by decide +kernel
theorem d_AL_add_2_20 : decode c_AL_add_2 20 = .ok (.invokevirtual 131, 3) := by decide +kernel
theorem d_AL_add_2_23 : decode c_AL_add_2 23 = .ok (.iconst 1, 1) := by decide +kernel
theorem d_AL_add_2_24 : decode c_AL_add_2 24 = .ok (.ireturn, 1) := by decide +kernel
abbrev rm_AL_grow (B : Nat) : Room := { frames := 4, cells := 1, slots := B, locals := 140 }
set_option maxHeartbeats 4000000 in
set_option maxRecDepth 100000 in
/-- ArrayList.grow() of a full list -/
theorem t_AL_grow (l : Launch) (E : zc_E) (G : zg_G) (a dd : Nat) (xs : List Nat) (hL : zL E G a dd xs) (hfull : ∀ cap f, G dd = some (.inl (E.2.1 3, cap, .inr (.inr (.inr (.inr f))))) → cap = xs.length) (hn : xs.length < 2000) (B : Nat) (hB : 2 * xs.length + 10 ≤ B) (hel : ∀ z ∈ xs, zel G z) : zMq l E y_AL_grow c_AL_grow 1 (some (.array (.object "java/lang/Object"))) (rm_AL_grow B) [.ref a] G (fun (r : Option Nat) (G2 : zg_G) => ∃ q f2 c2, r = some q ∧ G q = none ∧ xs.length < c2 ∧ c2 ≤ 2 * xs.length + 10 ∧ c2 ≤ 4001 ∧ zx (fun q => q = a) G G2 ∧ (∃ k, G2 a = some (.inr (0, [.ref q, .int (nI xs.length), .int k]))) ∧ G2 q = some (.inl (E.2.1 3, c2, .inr (.inr (.inr (.inr f2))))) ∧ ∀ j, f2 j = xs[j]?) := by
  refine zMq.of (by decide) (Nat.le_of_ble_eq_true rfl) ?_
  intro p e s m args below meth c Q hZ hG hret ls hl
  obtain ⟨hx, hb, hr, hts, hown, hlocks, hml, hnm, hbase, hK, hN, hQ⟩ := hZ
  have hl : lv_has ls 1 [(0, .ref a)] := hl
  have hS : zg_S (zc_b E) s.heap s.heap [] := va_S.rf
  obtain ⟨⟨k, ha⟩, ⟨rfl, rfl⟩ | ⟨cap, f, hd, h0, hc, hz, hf⟩⟩ := hL
  · refine lv_aload_n hx hb d_AL_grow_0 rfl (lv_at hl 0 rfl) ?_
    refine lv_aload_n hx hb d_AL_grow_1 rfl (lv_at hl 0 rfl) ?_
    refine zg_get (ci := 0) (C := "java/util/ArrayList") (T := T_AL) (N := 3) hx hb hts zi_AL hown hK hG ha rfl 1 (by decide) (hts _ w_80) (fun _ h9 => h9) rfl d_AL_grow_2 ?_
    refine lv_iconst (v := 1) hx hb d_AL_grow_5 (by decide) ?_
    refine lv_iadd hx hb d_AL_grow_6 ?_
    refine zi_as (y := nI (0 + 1)) (nI_add 0 1) ?_
    have hGo7 := hG
    refine zk_q (va_runV (As := [.int (nI (0 + 1))]) (rest := []) ⟨hx, hb, hml, hown, hts⟩ (t_AL_grow_2_e l E G a k ha B (by simpa using hB)) (zcV 1 hts w_561 w_563 wp_7 w_6 w_564 (by decide +kernel) ⟨Nat.le_of_ble_eq_true rfl, Nat.le_of_ble_eq_true rfl⟩) (zc_preV hbase hK hN hQ hG hS ha rfl) rfl rfl hl.1 rfl (lv_room (Nat.le_of_ble_eq_true rfl)) d_AL_grow_7 ⟨(by dsimp only; omega), (by dsimp only; omega)⟩) hS (fun r7 G7 H locs hp7 hG hS => ?_)
    exact hret _ _ _ _ _ _ _ _ _ hr (Or.inr ⟨_, rfl⟩) (by obtain ⟨q, e1, e2, e3, e4, e5⟩ := hp7; exact ⟨q, _, 10, e1, e2, by decide, by decide, by decide, e3, ⟨_, e4⟩, e5, fun j => by simp⟩) hG hS (by dsimp only; omega) (by dsimp only; omega) d_AL_grow_10
  · have ec := hfull cap f hd
    refine lv_aload_n hx hb d_AL_grow_0 rfl (lv_at hl 0 rfl) ?_
    refine lv_aload_n hx hb d_AL_grow_1 rfl (lv_at hl 0 rfl) ?_
    refine zg_get (ci := 0) (C := "java/util/ArrayList") (T := T_AL) (N := 3) hx hb hts zi_AL hown hK hG ha rfl 1 (by decide) (hts _ w_80) (fun _ h9 => h9) rfl d_AL_grow_2 ?_
    refine lv_iconst (v := 1) hx hb d_AL_grow_5 (by decide) ?_
    refine lv_iadd hx hb d_AL_grow_6 ?_
    refine zi_as (y := nI (xs.length + 1)) (nI_add xs.length 1) ?_
    have hGo7 := hG
    refine zk_q (va_runV (As := [.int (nI (xs.length + 1))]) (rest := []) ⟨hx, hb, hml, hown, hts⟩ (t_AL_grow_2_f l E G a dd xs.length xs.length k f ha (hfull cap f hd ▸ hd) (Nat.le_refl _) (by omega) (by omega) B (by omega) (fun j y hj => hel y (List.mem_of_getElem? ((hf j).symm.trans hj)))) (zcV 1 hts w_561 w_563 wp_7 w_6 w_564 (by decide +kernel) ⟨Nat.le_of_ble_eq_true rfl, Nat.le_of_ble_eq_true rfl⟩) (zc_preV hbase hK hN hQ hG hS ha rfl) rfl rfl hl.1 rfl (lv_room (Nat.le_of_ble_eq_true rfl)) d_AL_grow_7 ⟨(by dsimp only; omega), (by dsimp only; omega)⟩) hS (fun r7 G7 H locs hp7 hG hS => ?_)
    exact hret _ _ _ _ _ _ _ _ _ hr (Or.inr ⟨_, rfl⟩) (by obtain ⟨q, f2, c2, e1, e2, e3, e4, e5, e6, e7, e8⟩ := hp7; exact ⟨q, f2, c2, e1, e2, e3, by omega, by omega, e5, ⟨_, e6⟩, e7, fun j => by rw [e8 j, zf_at hf j]⟩) hG hS (by dsimp only; omega) (by dsimp only; omega) d_AL_grow_10
abbrev rm_AL_add_3 (B : Nat) : Room := { frames := 5, cells := 1, slots := B, locals := 170 }
set_option maxHeartbeats 4000000 in
set_option maxRecDepth 100000 in
/-- ArrayList.add(e, elementData, size) -/
theorem t_AL_add_3 (l : Launch) (E : zc_E) (G : zg_G) (a dd : Nat) (xs : List Nat) (hL : zL E G a dd xs) (y : Nat) (hy : zel G y) (hn : xs.length < 2000) (B : Nat) (hB : 2 * xs.length + 10 ≤ B) (hel : ∀ z ∈ xs, zel G z) : zMv l E y_AL_add_3 c_AL_add_3 4 (rm_AL_add_3 B) [.ref a, .ref y, .ref dd, .int (nI xs.length)] G (fun (G2 : zg_G) => ∃ dd2, zL E G2 a dd2 (xs ++ [y]) ∧ (dd2 = dd ∨ G dd2 = none) ∧ zx (fun q => q = a ∨ q = dd) G G2) := by
  refine zMv.of (by decide) (Nat.le_of_ble_eq_true rfl) ?_
  intro p e s m args below meth c Q hZ hG hret ls hl
  obtain ⟨hx, hb, hr, hts, hown, hlocks, hml, hnm, hbase, hK, hN, hQ⟩ := hZ
  have hl : lv_has ls 4 [(0, .ref a), (1, .ref y), (2, .ref dd), (3, .int (nI xs.length))] := hl
  have hS : zg_S (zc_b E) s.heap s.heap [] := va_S.rf
  have hG0 := hG
  have hx0 : zx (fun q => q = a ∨ q = dd) G G := zx.rf
  obtain ⟨⟨k, ha⟩, hLd⟩ := id hL
  rcases id hLd with ⟨hdd, hxs⟩ | ⟨cap, f, hd, h0, hc, hz, hf⟩
  · have hxl : xs.length = 0 := by rw [hxs]; rfl
    refine lv_iload_n hx hb d_AL_add_3_0 rfl (lv_at hl 3 rfl) ?_
    refine lv_aload_n hx hb d_AL_add_3_1 rfl (lv_at hl 2 rfl) ?_
    refine W.eq (g2 := F0 m 2 ls [.ref (E.2.2.2 0), .int (nI xs.length)]) (by rw [hdd]) ?_
    refine va_tlen hx hb hQ.2.1 hS (v := 0) rfl d_AL_add_3_2 ?_
    refine lv_icmp_ne (tgt := 11) hx hb d_AL_add_3_3 (by decide) (fun c3 => ?_) (fun c3 => ?_)
    · have b3 : ¬ xs.length = 0 := fun q => c3 ((nI_eq (a := xs.length) (b := 0) (by omega) (by omega)).mpr q)
      exact absurd hxl b3
    · have b3 : xs.length = 0 := (nI_eq (a := xs.length) (b := 0) (by omega) (by omega)).mp c3
      refine lv_aload_n hx hb d_AL_add_3_6 rfl (lv_at hl 0 rfl) ?_
      have hGo7 := hG
      refine zk_q (va_runV (As := []) (rest := []) ⟨hx, hb, hml, hown, hts⟩ (t_AL_grow l E G a dd xs hL (fun cap f h => by rw [hdd, hQ.out hG] at h; cases h) hn B hB hel) (zcV 0 hts w_557 w_559 wp_6 w_6 w_560 (by decide +kernel) ⟨Nat.le_of_ble_eq_true rfl, Nat.le_of_ble_eq_true rfl⟩) (zc_preV hbase hK hN hQ hG hS ha rfl) rfl rfl hl.1 rfl (lv_room (Nat.le_of_ble_eq_true rfl)) d_AL_add_3_7 ⟨(by dsimp only; omega), (by dsimp only; omega)⟩) hS (fun r7 G7 H locs hp7 hG hS => ?_)
      obtain ⟨q7, f7, c7, er7, nq7, hl17, hl27, hl37, hx7, ⟨k7x, hka7⟩, hkq7, hfq7⟩ := hp7
      refine zr_some (a := q7) er7 ?_
      have hneg7 : a ≠ q7 := fun h => by rw [← h, ha] at nq7; cases nq7
      have hx1 : zx (fun q => q = a ∨ q = dd) G G7 := hx0.tr (hx7.w (fun _ z => Or.inl z))
      refine lv_astore_n (lv' := [(2, .ref q7), (0, .ref a), (1, .ref y), (3, .int (nI xs.length))]) hx hb d_AL_add_3_10 rfl hl (by decide) rfl (fun ls hl => ?_)
      refine lv_aload_n hx hb d_AL_add_3_11 rfl (lv_at hl 0 rfl) ?_
      refine lv_iload_n hx hb d_AL_add_3_12 rfl (lv_at hl 3 rfl) ?_
      refine lv_aload_n hx hb d_AL_add_3_13 rfl (lv_at hl 2 rfl) ?_
      refine zg_astqM hx hb hK hG hS 3 hkq7 rfl ((hy.keepL hL hQ hG0 hx1).any hK hN hG) (vp_in_nI (by omega) (by omega)) d_AL_add_3_14 (fun H locs hG hS => ?_)
      rw [zi_n xs.length (by omega)] at hG
      obtain ⟨G2, eG2⟩ : ∃ z : zg_G, z = zg_up G7 q7 (.inl (E.2.1 3, c7, .inr (.inr (.inr (.inr (va_up f7 xs.length (some y))))))) := ⟨_, rfl⟩
      have hG : zP E G2 H := by rw [eG2]; exact hG
      have hx3 : zx (fun q => q = a ∨ q = dd) G G2 := by rw [eG2]; exact hx1.upn nq7
      have k4 : G2 a = some (.inr (0, [.ref q7, .int (nI xs.length), .int k7x])) := by rw [eG2, zg_up_ne (hneg7)]; exact hka7
      have k5 : G2 q7 = some (.inl (E.2.1 3, c7, .inr (.inr (.inr (.inr (va_up f7 xs.length (some y))))))) := by rw [eG2]; exact zg_up_self _ _ _
      refine lv_aload_n hx hb d_AL_add_3_15 rfl (lv_at hl 1 rfl) ?_
      refine lv_iload_n hx hb d_AL_add_3_16 rfl (lv_at hl 3 rfl) ?_
      refine lv_iconst (v := 1) hx hb d_AL_add_3_17 (by decide) ?_
      refine lv_iadd hx hb d_AL_add_3_18 ?_
      refine zi_as (y := nI (xs.length + 1)) (nI_add xs.length 1) ?_
      refine zg_put (ci := 0) (v := .int (nI (xs.length + 1))) (ty := .int) (C := "java/util/ArrayList") (T := T_AL) (N := 3) hx hb hts zi_AL t_AL t_AL_ok n_AL hown hK hG hS k4 rfl 1 (by decide) (hts _ w_80) (fun _ h9 => h9) rfl (by decide +kernel) rfl rfl (Nat.le_of_ble_eq_true rfl) d_AL_add_3_19 (fun H locs hG hS => ?_)
      obtain ⟨G6, eG6⟩ : ∃ z : zg_G, z = zg_up G2 a (.inr (0, [.ref q7, .int (nI (xs.length + 1)), .int k7x])) := ⟨_, rfl⟩
      have hG : zP E G6 H := by rw [eG6]; exact hG
      have hx7 : zx (fun q => q = a ∨ q = dd) G G6 := hx3.tr (by rw [eG6]; exact zx.up (Or.inl rfl))
      have k8 : G6 a = some (.inr (0, [.ref q7, .int (nI (xs.length + 1)), .int k7x])) := by rw [eG6]; exact zg_up_self _ _ _
      have k9 : G6 q7 = some (.inl (E.2.1 3, c7, .inr (.inr (.inr (.inr (va_up f7 xs.length (some y))))))) := by rw [eG6, zg_up_ne (Ne.symm hneg7)]; exact k5
      exact hret _ _ _ _ _ _ _ (⟨q7, ⟨⟨_, by rw [List.length_append]; exact k8⟩, Or.inr ⟨c7, _, k9, by omega, by rw [List.length_append]; show xs.length + 1 ≤ c7; omega, hl37, zf_app hfq7⟩⟩, Or.inr nq7, hx7⟩) hG hS (by dsimp only; omega) (by dsimp only; omega) d_AL_add_3_22
  · have hne : a ≠ dd := zg_ne ha hd (by intro h; cases h)
    refine lv_iload_n hx hb d_AL_add_3_0 rfl (lv_at hl 3 rfl) ?_
    refine lv_aload_n hx hb d_AL_add_3_1 rfl (lv_at hl 2 rfl) ?_
    refine zg_alen hx hb hK hG 3 hd rfl (v := nI cap) rfl d_AL_add_3_2 ?_
    refine lv_icmp_ne (tgt := 11) hx hb d_AL_add_3_3 (by decide) (fun c3 => ?_) (fun c3 => ?_)
    · have b3 : ¬ xs.length = cap := fun q => c3 ((nI_eq (a := xs.length) (b := cap) (by omega) (by omega)).mpr q)
      refine lv_aload_n hx hb d_AL_add_3_11 rfl (lv_at hl 2 rfl) ?_
      refine lv_iload_n hx hb d_AL_add_3_12 rfl (lv_at hl 3 rfl) ?_
      refine lv_aload_n hx hb d_AL_add_3_13 rfl (lv_at hl 1 rfl) ?_
      refine zg_astqM hx hb hK hG hS 3 hd rfl ((hy.keepL hL hQ hG0 hx0).any hK hN hG) (vp_in_nI (by omega) (by omega)) d_AL_add_3_14 (fun H locs hG hS => ?_)
      rw [zi_n xs.length (by omega)] at hG
      obtain ⟨G10, eG10⟩ : ∃ z : zg_G, z = zg_up G dd (.inl (E.2.1 3, cap, .inr (.inr (.inr (.inr (va_up f xs.length (some y))))))) := ⟨_, rfl⟩
      have hG : zP E G10 H := by rw [eG10]; exact hG
      have hx11 : zx (fun q => q = a ∨ q = dd) G G10 := hx0.tr (by rw [eG10]; exact zx.up (Or.inr rfl))
      have k12 : G10 a = some (.inr (0, [.ref dd, .int (nI xs.length), .int k])) := by rw [eG10, zg_up_ne (hne)]; exact ha
      have k13 : G10 dd = some (.inl (E.2.1 3, cap, .inr (.inr (.inr (.inr (va_up f xs.length (some y))))))) := by rw [eG10]; exact zg_up_self _ _ _
      refine lv_aload_n hx hb d_AL_add_3_15 rfl (lv_at hl 0 rfl) ?_
      refine lv_iload_n hx hb d_AL_add_3_16 rfl (lv_at hl 3 rfl) ?_
      refine lv_iconst (v := 1) hx hb d_AL_add_3_17 (by decide) ?_
      refine lv_iadd hx hb d_AL_add_3_18 ?_
      refine zi_as (y := nI (xs.length + 1)) (nI_add xs.length 1) ?_
      refine zg_put (ci := 0) (v := .int (nI (xs.length + 1))) (ty := .int) (C := "java/util/ArrayList") (T := T_AL) (N := 3) hx hb hts zi_AL t_AL t_AL_ok n_AL hown hK hG hS k12 rfl 1 (by decide) (hts _ w_80) (fun _ h9 => h9) rfl (by decide +kernel) rfl rfl (Nat.le_of_ble_eq_true rfl) d_AL_add_3_19 (fun H locs hG hS => ?_)
      obtain ⟨G14, eG14⟩ : ∃ z : zg_G, z = zg_up G10 a (.inr (0, [.ref dd, .int (nI (xs.length + 1)), .int k])) := ⟨_, rfl⟩
      have hG : zP E G14 H := by rw [eG14]; exact hG
      have hx15 : zx (fun q => q = a ∨ q = dd) G G14 := hx11.tr (by rw [eG14]; exact zx.up (Or.inl rfl))
      have k16 : G14 a = some (.inr (0, [.ref dd, .int (nI (xs.length + 1)), .int k])) := by rw [eG14]; exact zg_up_self _ _ _
      have k17 : G14 dd = some (.inl (E.2.1 3, cap, .inr (.inr (.inr (.inr (va_up f xs.length (some y))))))) := by rw [eG14, zg_up_ne (Ne.symm hne)]; exact k13
      exact hret _ _ _ _ _ _ _ (⟨dd, ⟨⟨_, by rw [List.length_append]; exact k16⟩, Or.inr ⟨cap, _, k17, h0, by rw [List.length_append]; show xs.length + 1 ≤ cap; omega, hz, zf_app hf⟩⟩, Or.inl rfl, hx15⟩) hG hS (by dsimp only; omega) (by dsimp only; omega) d_AL_add_3_22
    · have b3 : xs.length = cap := (nI_eq (a := xs.length) (b := cap) (by omega) (by omega)).mp c3
      refine lv_aload_n hx hb d_AL_add_3_6 rfl (lv_at hl 0 rfl) ?_
      have hGo7 := hG
      refine zk_q (va_runV (As := []) (rest := []) ⟨hx, hb, hml, hown, hts⟩ (t_AL_grow l E G a dd xs hL (fun cap2 f2 h => by rw [hd] at h; cases h; exact b3.symm) hn B hB hel) (zcV 0 hts w_557 w_559 wp_6 w_6 w_560 (by decide +kernel) ⟨Nat.le_of_ble_eq_true rfl, Nat.le_of_ble_eq_true rfl⟩) (zc_preV hbase hK hN hQ hG hS ha rfl) rfl rfl hl.1 rfl (lv_room (Nat.le_of_ble_eq_true rfl)) d_AL_add_3_7 ⟨(by dsimp only; omega), (by dsimp only; omega)⟩) hS (fun r7 G7 H locs hp7 hG hS => ?_)
      obtain ⟨q7, f7, c7, er7, nq7, hl17, hl27, hl37, hx7, ⟨k7x, hka7⟩, hkq7, hfq7⟩ := hp7
      refine zr_some (a := q7) er7 ?_
      have hneg7 : a ≠ q7 := fun h => by rw [← h, ha] at nq7; cases nq7
      have hx18 : zx (fun q => q = a ∨ q = dd) G G7 := hx0.tr (hx7.w (fun _ z => Or.inl z))
      refine lv_astore_n (lv' := [(2, .ref q7), (0, .ref a), (1, .ref y), (3, .int (nI xs.length))]) hx hb d_AL_add_3_10 rfl hl (by decide) rfl (fun ls hl => ?_)
      refine lv_aload_n hx hb d_AL_add_3_11 rfl (lv_at hl 0 rfl) ?_
      refine lv_iload_n hx hb d_AL_add_3_12 rfl (lv_at hl 3 rfl) ?_
      refine lv_aload_n hx hb d_AL_add_3_13 rfl (lv_at hl 2 rfl) ?_
      refine zg_astqM hx hb hK hG hS 3 hkq7 rfl ((hy.keepL hL hQ hG0 hx18).any hK hN hG) (vp_in_nI (by omega) (by omega)) d_AL_add_3_14 (fun H locs hG hS => ?_)
      rw [zi_n xs.length (by omega)] at hG
      obtain ⟨G19, eG19⟩ : ∃ z : zg_G, z = zg_up G7 q7 (.inl (E.2.1 3, c7, .inr (.inr (.inr (.inr (va_up f7 xs.length (some y))))))) := ⟨_, rfl⟩
      have hG : zP E G19 H := by rw [eG19]; exact hG
      have hx20 : zx (fun q => q = a ∨ q = dd) G G19 := by rw [eG19]; exact hx18.upn nq7
      have k21 : G19 a = some (.inr (0, [.ref q7, .int (nI xs.length), .int k7x])) := by rw [eG19, zg_up_ne (hneg7)]; exact hka7
      have k22 : G19 q7 = some (.inl (E.2.1 3, c7, .inr (.inr (.inr (.inr (va_up f7 xs.length (some y))))))) := by rw [eG19]; exact zg_up_self _ _ _
      refine lv_aload_n hx hb d_AL_add_3_15 rfl (lv_at hl 1 rfl) ?_
      refine lv_iload_n hx hb d_AL_add_3_16 rfl (lv_at hl 3 rfl) ?_
      refine lv_iconst (v := 1) hx hb d_AL_add_3_17 (by decide) ?_
      refine lv_iadd hx hb d_AL_add_3_18 ?_
      refine zi_as (y := nI (xs.length + 1)) (nI_add xs.length 1) ?_
      refine zg_put (ci := 0) (v := .int (nI (xs.length + 1))) (ty := .int) (C := "java/util/ArrayList") (T := T_AL) (N := 3) hx hb hts zi_AL t_AL t_AL_ok n_AL hown hK hG hS k21 rfl 1 (by decide) (hts _ w_80) (fun _ h9 => h9) rfl (by decide +kernel) rfl rfl (Nat.le_of_ble_eq_true rfl) d_AL_add_3_19 (fun H locs hG hS => ?_)
      obtain ⟨G23, eG23⟩ : ∃ z : zg_G, z = zg_up G19 a (.inr (0, [.ref q7, .int (nI (xs.length + 1)), .int k7x])) := ⟨_, rfl⟩
      have hG : zP E G23 H := by rw [eG23]; exact hG
      have hx24 : zx (fun q => q = a ∨ q = dd) G G23 := hx20.tr (by rw [eG23]; exact zx.up (Or.inl rfl))
      have k25 : G23 a = some (.inr (0, [.ref q7, .int (nI (xs.length + 1)), .int k7x])) := by rw [eG23]; exact zg_up_self _ _ _
      have k26 : G23 q7 = some (.inl (E.2.1 3, c7, .inr (.inr (.inr (.inr (va_up f7 xs.length (some y))))))) := by rw [eG23, zg_up_ne (Ne.symm hneg7)]; exact k22
      exact hret _ _ _ _ _ _ _ (⟨q7, ⟨⟨_, by rw [List.length_append]; exact k25⟩, Or.inr ⟨c7, _, k26, by omega, by rw [List.length_append]; show xs.length + 1 ≤ c7; omega, hl37, zf_app hfq7⟩⟩, Or.inr nq7, hx24⟩) hG hS (by dsimp only; omega) (by dsimp only; omega) d_AL_add_3_22
abbrev rm_AL_add_2 (B : Nat) : Room := { frames := 6, cells := 1, slots := B, locals := 200 }
set_option maxHeartbeats 4000000 in
set_option maxRecDepth 100000 in
/-- ArrayList.add(e) -/
theorem t_AL_add_2 (l : Launch) (E : zc_E) (G : zg_G) (a dd : Nat) (xs : List Nat) (hL : zL E G a dd xs) (y : Nat) (hy : zel G y) (hn : xs.length < 2000) (B : Nat) (hB : 2 * xs.length + 10 ≤ B) (hel : ∀ z ∈ xs, zel G z) : zMi l E y_AL_add_2 c_AL_add_2 2 (some .boolean) (rm_AL_add_2 B) [.ref a, .ref y] G (fun (r : Int32) (G2 : zg_G) => r = 1 ∧ ∃ dd2, zL E G2 a dd2 (xs ++ [y]) ∧ (dd2 = dd ∨ G dd2 = none) ∧ zx (fun q => q = a ∨ q = dd) G G2) := by
  refine zMi.of (by decide) (Nat.le_of_ble_eq_true rfl) ?_
  intro p e s m args below meth c Q hZ hG hret ls hl
  obtain ⟨hx, hb, hr, hts, hown, hlocks, hml, hnm, hbase, hK, hN, hQ⟩ := hZ
  have hl : lv_has ls 2 [(0, .ref a), (1, .ref y)] := hl
  have hS : zg_S (zc_b E) s.heap s.heap [] := va_S.rf
  have hG0 := hG
  have hx0 : zx (fun q => q = a ∨ q = dd) G G := zx.rf
  obtain ⟨⟨k, ha⟩, hLd⟩ := id hL
  rcases id hLd with ⟨hdd, hxs⟩ | ⟨cap, f, hd, h0, hc, hz, hf⟩
  · have hxl : xs.length = 0 := by rw [hxs]; rfl
    refine lv_aload_n hx hb d_AL_add_2_0 rfl (lv_at hl 0 rfl) ?_
    refine lv_dup hx hb d_AL_add_2_1 rfl ?_
    refine zg_get (ci := 0) (C := "java/util/ArrayList") (T := T_AL) (N := 3) hx hb hts zi_AL hown hK hG ha rfl 2 (by decide) (hts _ w_82) (u_same (hts _ w_83)) rfl d_AL_add_2_2 ?_
    refine lv_iconst (v := 1) hx hb d_AL_add_2_5 (by decide) ?_
    refine lv_iadd hx hb d_AL_add_2_6 ?_
    refine zg_put (ci := 0) (v := .int (k + 1)) (ty := .int) (C := "java/util/ArrayList") (T := T_AL) (N := 3) hx hb hts zi_AL t_AL t_AL_ok n_AL hown hK hG hS ha rfl 2 (by decide) (hts _ w_82) (u_same (hts _ w_83)) rfl (by decide +kernel) rfl rfl (Nat.le_of_ble_eq_true rfl) d_AL_add_2_7 (fun H locs hG hS => ?_)
    obtain ⟨G1, eG1⟩ : ∃ z : zg_G, z = zg_up G a (.inr (0, [.ref dd, .int (nI xs.length), .int (k + 1)])) := ⟨_, rfl⟩
    have hG : zP E G1 H := by rw [eG1]; exact hG
    have hx2 : zx (fun q => q = a ∨ q = dd) G G1 := hx0.tr (by rw [eG1]; exact zx.up (Or.inl rfl))
    have k3 : G1 a = some (.inr (0, [.ref dd, .int (nI xs.length), .int (k + 1)])) := by rw [eG1]; exact zg_up_self _ _ _
    refine lv_aload_n hx hb d_AL_add_2_10 rfl (lv_at hl 0 rfl) ?_
    refine lv_aload_n hx hb d_AL_add_2_11 rfl (lv_at hl 1 rfl) ?_
    refine lv_aload_n hx hb d_AL_add_2_12 rfl (lv_at hl 0 rfl) ?_
    refine zg_get (ci := 0) (C := "java/util/ArrayList") (T := T_AL) (N := 3) hx hb hts zi_AL hown hK hG k3 rfl 0 (by decide) (hts _ w_79) (fun _ h9 => h9) rfl d_AL_add_2_13 ?_
    refine lv_aload_n hx hb d_AL_add_2_16 rfl (lv_at hl 0 rfl) ?_
    refine zg_get (ci := 0) (C := "java/util/ArrayList") (T := T_AL) (N := 3) hx hb hts zi_AL hown hK hG k3 rfl 1 (by decide) (hts _ w_80) (fun _ h9 => h9) rfl d_AL_add_2_17 ?_
    have hGo20 := hG
    refine zk_v (va_runV (As := [.ref y, .ref dd, .int (nI xs.length)]) (rest := []) ⟨hx, hb, hml, hown, hts⟩ (t_AL_add_3 l E G1 a dd xs ⟨⟨_, k3⟩, Or.inl ⟨hdd, hxs⟩⟩ y (hy.keepL hL hQ hG0 hx2) hn B hB (fun z hz => (hel z hz).keepL hL hQ hG0 hx2)) (zcV 3 hts w_641 w_643 wp_8 w_6 w_644 (by decide +kernel) ⟨Nat.le_of_ble_eq_true rfl, Nat.le_of_ble_eq_true rfl⟩) (zc_preV hbase hK hN hQ hG hS k3 rfl) rfl rfl hl.1 rfl (lv_room (Nat.le_of_ble_eq_true rfl)) d_AL_add_2_20 ⟨(by dsimp only; omega), (by dsimp only; omega)⟩) hS (fun G20 H locs hp20 hG hS => ?_)
    obtain ⟨dd2, hL2, hd2, hx20⟩ := hp20
    have hxF := hx2.tr hx20
    have hd3 := zL.d3 hd2 hx2 k3
    refine lv_iconst (v := 1) hx hb d_AL_add_2_23 (by decide) ?_
    exact hret _ _ _ _ _ _ _ _ _ hr (rfl) (⟨rfl, dd2, hL2, hd3, hxF⟩) hG hS (by dsimp only; omega) (by dsimp only; omega) d_AL_add_2_24
  · have hne : a ≠ dd := zg_ne ha hd (by intro h; cases h)
    refine lv_aload_n hx hb d_AL_add_2_0 rfl (lv_at hl 0 rfl) ?_
    refine lv_dup hx hb d_AL_add_2_1 rfl ?_
    refine zg_get (ci := 0) (C := "java/util/ArrayList") (T := T_AL) (N := 3) hx hb hts zi_AL hown hK hG ha rfl 2 (by decide) (hts _ w_82) (u_same (hts _ w_83)) rfl d_AL_add_2_2 ?_
    refine lv_iconst (v := 1) hx hb d_AL_add_2_5 (by decide) ?_
    refine lv_iadd hx hb d_AL_add_2_6 ?_
    refine zg_put (ci := 0) (v := .int (k + 1)) (ty := .int) (C := "java/util/ArrayList") (T := T_AL) (N := 3) hx hb hts zi_AL t_AL t_AL_ok n_AL hown hK hG hS ha rfl 2 (by decide) (hts _ w_82) (u_same (hts _ w_83)) rfl (by decide +kernel) rfl rfl (Nat.le_of_ble_eq_true rfl) d_AL_add_2_7 (fun H locs hG hS => ?_)
    obtain ⟨G4, eG4⟩ : ∃ z : zg_G, z = zg_up G a (.inr (0, [.ref dd, .int (nI xs.length), .int (k + 1)])) := ⟨_, rfl⟩
    have hG : zP E G4 H := by rw [eG4]; exact hG
    have hx5 : zx (fun q => q = a ∨ q = dd) G G4 := hx0.tr (by rw [eG4]; exact zx.up (Or.inl rfl))
    have k6 : G4 a = some (.inr (0, [.ref dd, .int (nI xs.length), .int (k + 1)])) := by rw [eG4]; exact zg_up_self _ _ _
    have k7 : G4 dd = some (.inl (E.2.1 3, cap, .inr (.inr (.inr (.inr f))))) := by rw [eG4, zg_up_ne (Ne.symm hne)]; exact hd
    refine lv_aload_n hx hb d_AL_add_2_10 rfl (lv_at hl 0 rfl) ?_
    refine lv_aload_n hx hb d_AL_add_2_11 rfl (lv_at hl 1 rfl) ?_
    refine lv_aload_n hx hb d_AL_add_2_12 rfl (lv_at hl 0 rfl) ?_
    refine zg_get (ci := 0) (C := "java/util/ArrayList") (T := T_AL) (N := 3) hx hb hts zi_AL hown hK hG k6 rfl 0 (by decide) (hts _ w_79) (fun _ h9 => h9) rfl d_AL_add_2_13 ?_
    refine lv_aload_n hx hb d_AL_add_2_16 rfl (lv_at hl 0 rfl) ?_
    refine zg_get (ci := 0) (C := "java/util/ArrayList") (T := T_AL) (N := 3) hx hb hts zi_AL hown hK hG k6 rfl 1 (by decide) (hts _ w_80) (fun _ h9 => h9) rfl d_AL_add_2_17 ?_
    have hGo20 := hG
    refine zk_v (va_runV (As := [.ref y, .ref dd, .int (nI xs.length)]) (rest := []) ⟨hx, hb, hml, hown, hts⟩ (t_AL_add_3 l E G4 a dd xs ⟨⟨_, k6⟩, Or.inr ⟨cap, f, k7, h0, hc, hz, hf⟩⟩ y (hy.keepL hL hQ hG0 hx5) hn B hB (fun z hz => (hel z hz).keepL hL hQ hG0 hx5)) (zcV 3 hts w_641 w_643 wp_8 w_6 w_644 (by decide +kernel) ⟨Nat.le_of_ble_eq_true rfl, Nat.le_of_ble_eq_true rfl⟩) (zc_preV hbase hK hN hQ hG hS k6 rfl) rfl rfl hl.1 rfl (lv_room (Nat.le_of_ble_eq_true rfl)) d_AL_add_2_20 ⟨(by dsimp only; omega), (by dsimp only; omega)⟩) hS (fun G20 H locs hp20 hG hS => ?_)
    obtain ⟨dd2, hL2, hd2, hx20⟩ := hp20
    have hxF := hx5.tr hx20
    have hd3 := zL.d3 hd2 hx5 k6
    refine lv_iconst (v := 1) hx hb d_AL_add_2_23 (by decide) ?_
    exact hret _ _ _ _ _ _ _ _ _ hr (rfl) (⟨rfl, dd2, hL2, hd3, hxF⟩) hG hS (by dsimp only; omega) (by dsimp only; omega) d_AL_add_2_24
