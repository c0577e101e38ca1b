theorem zf_len {xs : List Nat} {i y : Nat} (hi : i ≤ xs.length) : (xs.take i ++ y :: xs.drop i).length = xs.length + 1 := by
  simp only [List.length_append, List.length_take, List.length_cons, List.length_drop]
  omega
theorem zf_ins {f : Nat → Option Nat} {xs : List Nat} {i y : Nat} (h : ∀ j, f j = xs[j]?) (hi : i ≤ xs.length) : ∀ j, va_up (va_cpy f f i (i + 1) (xs.length - i)) i (some y) j = (xs.take i ++ y :: xs.drop i)[j]? := by
  intro j
  have hl : (xs.take i).length = i := by rw [List.length_take]; omega
  unfold va_up va_cpy
  rcases Nat.lt_trichotomy j i with q | q | q
  · rw [if_neg (by omega), if_neg (by omega), h j, List.getElem?_append_left (by omega), List.getElem?_take_of_lt q]
  · subst q
    rw [if_pos rfl, List.getElem?_append_right (by omega), hl]
    simp
  · rw [if_neg (by omega), List.getElem?_append_right (by omega), hl, show j - i = (j - i - 1) + 1 by omega, List.getElem?_cons_succ, List.getElem?_drop]
    by_cases h2 : j < i + 1 + (xs.length - i)
    · rw [if_pos ⟨by omega, h2⟩, h]
      congr 1 <;> omega
    · rw [if_neg (by omega), h j, List.getElem?_eq_none (by omega), List.getElem?_eq_none (by omega)]
theorem zf_elen {xs : List Nat} {i : Nat} (hi : i < xs.length) : (xs.take i ++ xs.drop (i + 1)).length = xs.length - 1 := by
  simp only [List.length_append, List.length_take, List.length_drop]
  omega
theorem zf_er {f : Nat → Option Nat} {xs : List Nat} {i : Nat} (h : ∀ j, f j = xs[j]?) (hi : i < xs.length) : ∀ j, va_up (va_cpy f f (i + 1) i (xs.length - 1 - i)) (xs.length - 1) none j = (xs.take i ++ xs.drop (i + 1))[j]? := by
  intro j
  have hl : (xs.take i).length = i := by rw [List.length_take]; omega
  unfold va_up va_cpy
  by_cases h0 : j = xs.length - 1
  · rw [if_pos h0, List.getElem?_eq_none (by rw [zf_elen hi]; omega)]
  · rw [if_neg h0]
    by_cases h1 : j < i
    · rw [if_neg (by omega), h j, List.getElem?_append_left (by omega), List.getElem?_take_of_lt h1]
    · rw [List.getElem?_append_right (by omega), hl, List.getElem?_drop]
      by_cases h2 : j < i + (xs.length - 1 - i)
      · rw [if_pos ⟨by omega, h2⟩, h]
      · rw [if_neg (by omega), h j, List.getElem?_eq_none (by omega), List.getElem?_eq_none (by omega)]
theorem zf_er0 {f : Nat → Option Nat} {xs : List Nat} {i : Nat} (h : ∀ j, f j = xs[j]?) (hi : i < xs.length) (hl : xs.length - 1 ≤ i) : ∀ j, va_up f (xs.length - 1) none j = (xs.take i ++ xs.drop (i + 1))[j]? := by
  intro j
  have e : i = xs.length - 1 := by omega
  have := zf_er h hi j
  rw [← this]
  unfold va_up va_cpy
  by_cases h0 : j = xs.length - 1
  · rw [if_pos h0, if_pos h0]
  · rw [if_neg h0, if_neg h0, if_neg (by omega)]
theorem zP.old {E : zc_E} {G : zg_G} {H : Heap} {q : Nat} {x : va_E} (h : zP E G H) (hq : G q = some x) : zc_b E ≤ q := (h q x hq).1
theorem w_224 : (.methodLink "java/util/ArrayList" 135 ⟨"java/util/ArrayList", "rangeCheckForAdd", "(I)V"⟩ : Cond) ∈ zw := zw_at 224 (by decide +kernel) (by decide +kernel)
theorem w_226 : (.instanceMethod ⟨"java/util/ArrayList", "rangeCheckForAdd", "(I)V"⟩ : Cond) ∈ zw := zw_at 226 (by decide +kernel) (by decide +kernel)
theorem w_227 : (.code ⟨"java/util/ArrayList", "rangeCheckForAdd", "(I)V"⟩ prog_35_method_45_code 2 none : Cond) ∈ zw := zw_at 227 (by decide +kernel) (by decide +kernel)
theorem w_601 : (.methodLink "java/util/ArrayList" 112 ⟨"java/lang/System", "arraycopy", "(Ljava/lang/Object;ILjava/lang/Object;II)V"⟩ : Cond) ∈ zw := zw_at 601 (by decide +kernel) (by decide +kernel)
theorem w_967 : (.methodLink "java/util/ArrayList" 144 ⟨"java/util/ArrayList", "fastRemove", "([Ljava/lang/Object;I)V"⟩ : Cond) ∈ zw := zw_at 967 (by decide +kernel) (by decide +kernel)
theorem w_969 : (.instanceMethod ⟨"java/util/ArrayList", "fastRemove", "([Ljava/lang/Object;I)V"⟩ : Cond) ∈ zw := zw_at 969 (by decide +kernel) (by decide +kernel)
theorem w_970 : (.code ⟨"java/util/ArrayList", "fastRemove", "([Ljava/lang/Object;I)V"⟩ prog_35_method_39_code 4 none : Cond) ∈ zw := zw_at 970 (by decide +kernel) (by decide +kernel)
theorem wp_3 : (.selects "java/util/ArrayList" ⟨"java/util/ArrayList", "rangeCheckForAdd", "(I)V"⟩ ⟨"java/util/ArrayList", "rangeCheckForAdd", "(I)V"⟩ : Cond) ∈ zw := zw_pv 3 (y := ⟨"java/util/ArrayList", "rangeCheckForAdd", "(I)V"⟩) rfl (by decide +kernel)
theorem wp_12 : (.selects "java/util/ArrayList" ⟨"java/util/ArrayList", "fastRemove", "([Ljava/lang/Object;I)V"⟩ ⟨"java/util/ArrayList", "fastRemove", "([Ljava/lang/Object;I)V"⟩ : Cond) ∈ zw := zw_pv 12 (y := ⟨"java/util/ArrayList", "fastRemove", "([Ljava/lang/Object;I)V"⟩) rfl (by decide +kernel)
abbrev c_AL_add : ByteArray := prog_35_method_26_code
abbrev y_AL_add : MethodName := ⟨"java/util/ArrayList", "add", "(ILjava/lang/Object;)V"⟩
theorem d_AL_add_0 : decode c_AL_add 0 = .ok (.aload_n 0, 1) := by decide +kernel
theorem d_AL_add_1 : decode c_AL_add 1 = .ok (.iload_n 1, 1) := by decide +kernel
theorem d_AL_add_2 : decode c_AL_add 2 = .ok (.invokevirtual 135, 3) := by decide +kernel
theorem d_AL_add_5 : decode c_AL_add 5 = .ok (.aload_n 0, 1) := by decide +kernel
theorem d_AL_add_6 : decode c_AL_add 6 = .ok (.dup, 1) := by decide +kernel
theorem d_AL_add_7 : decode c_AL_add 7 = .ok (.getfield 63, 3) := by decide +kernel
theorem d_AL_add_10 : decode c_AL_add 10 = .ok (.iconst 1, 1) := by decide +kernel
theorem d_AL_add_11 : decode c_AL_add 11 = .ok (.iadd, 1) := by decide +kernel
theorem d_AL_add_12 : decode c_AL_add 12 = .ok (.putfield 63, 3) := by decide +kernel
theorem d_AL_add_15 : decode c_AL_add 15 = .ok (.aload_n 0, 1) := by decide +kernel
theorem d_AL_add_16 : decode c_AL_add 16 = .ok (.getfield 48, 3) := by decide +kernel
theorem d_AL_add_19 : decode c_AL_add 19 = .ok (.dup, 1) := by decide +kernel
theorem d_AL_add_20 : decode c_AL_add 20 = .ok (.istore_n 3, 1) := by decide +kernel
theorem d_AL_add_21 : decode c_AL_add 21 = .ok (.aload_n 0, 1) := by decide +kernel
theorem d_AL_add_22 : decode c_AL_add 22 = .ok (.getfield 9, 3) := by decide +kernel
theorem d_AL_add_25 : decode c_AL_add 25 = .ok (.dup, 1) := by decide +kernel
theorem d_AL_add_26 : decode c_AL_add 26 = .ok (.astore 4, 2) := by decide +kernel
theorem d_AL_add_28 : decode c_AL_add 28 = .ok (.arraylength, 1) := by decide +kernel
theorem d_AL_add_29 : decode c_AL_add 29 = .ok (.if_icmp .ne 9, 3) := by decide +kernel
theorem d_AL_add_32 : decode c_AL_add 32 = .ok (.aload_n 0, 1) := by decide +kernel
theorem d_AL_add_33 : decode c_AL_add 33 = .ok (.invokevirtual 129, 3) := by decide +kernel
theorem d_AL_add_36 : decode c_AL_add 36 = .ok (.astore 4, 2) := by decide +kernel
theorem d_AL_add_38 : decode c_AL_add 38 = .ok (.aload 4, 2) := by decide +kernel
theorem d_AL_add_40 : decode c_AL_add 40 = .ok (.iload_n 1, 1) := by decide +kernel
theorem d_AL_add_41 : decode c_AL_add 41 = .ok (.aload 4, 2) := by decide +kernel
theorem d_AL_add_43 : decode c_AL_add 43 = .ok (.iload_n 1, 1) := by decide +kernel
theorem d_AL_add_44 : decode c_AL_add 44 = .ok (.iconst 1, 1) := by decide +kernel
theorem d_AL_add_45 : decode c_AL_add 45 = .ok (.iadd, 1) := by decide +kernel
theorem d_AL_add_46 : decode c_AL_add 46 = .ok (.iload_n 3, 1) := by decide +kernel
theorem d_AL_add_47 : decode c_AL_add 47 = .ok (.iload_n 1, 1) := by decide +kernel
theorem d_AL_add_48 : decode c_AL_add 48 = .ok (.isub, 1) := by decide +kernel
theorem d_AL_add_49 : decode c_AL_add 49 = .ok (.invokestatic 112, 3) := by decide +kernel
theorem d_AL_add_52 : decode c_AL_add 52 = .ok (.aload 4, 2) := by decide +kernel
theorem d_AL_add_54 : decode c_AL_add 54 = .ok (.iload_n 1, 1) := by decide +kernel
theorem d_AL_add_55 : decode c_AL_add 55 = .ok (.aload_n 2, 1) := by decide +kernel
theorem d_AL_add_56 : decode c_AL_add 56 = .ok (.aastore, 1) := by decide +kernel
theorem d_AL_add_57 : decode c_AL_add 57 = .ok (.aload_n 0, 1) := by decide +kernel
theorem d_AL_add_58 : decode c_AL_add 58 = .ok (.iload_n 3, 1) := by decide +kernel
theorem d_AL_add_59 : decode c_AL_add 59 = .ok (.iconst 1, 1) := by decide +kernel
theorem d_AL_add_60 : decode c_AL_add 60 = .ok (.iadd, 1) := by decide +kernel
theorem d_AL_add_61 : decode c_AL_add 61 = .ok (.putfield 48, 3) := by decide +kernel
theorem d_AL_add_64 : decode c_AL_add 64 = .ok (.return_, 1) := by decide +kernel
abbrev c_AL_fastRemove : ByteArray := prog_35_method_39_code
abbrev y_AL_fastRemove : MethodName := ⟨"java/util/ArrayList", "fastRemove", "([Ljava/lang/Object;I)V"⟩
theorem d_AL_fastRemove_0 : decode c_AL_fastRemove 0 = .ok (.aload_n 0, 1) := by decide +kernel
theorem d_AL_fastRemove_1 : decode c_AL_fastRemove 1 = .ok (.dup, 1) := by decide +kernel
theorem d_AL_fastRemove_2 : decode c_AL_fastRemove 2 = .ok (.getfield 63, 3) := by decide +kernel
theorem d_AL_fastRemove_5 : decode c_AL_fastRemove 5 = .ok (.iconst 1, 1) := by decide +kernel
theorem d_AL_fastRemove_6 : decode c_AL_fastRemove 6 = .ok (.iadd, 1) := by decide +kernel
theorem d_AL_fastRemove_7 : decode c_AL_fastRemove 7 = .ok (.putfield 63, 3) := by decide +kernel
theorem d_AL_fastRemove_10 : decode c_AL_fastRemove 10 = .ok (.aload_n 0, 1) := by decide +kernel
theorem d_AL_fastRemove_11 : decode c_AL_fastRemove 11 = .ok (.getfield 48, 3) := by decide +kernel
theorem d_AL_fastRemove_14 : decode c_AL_fastRemove 14 = .ok (.iconst 1, 1) := by decide +kernel
theorem d_AL_fastRemove_15 : decode c_AL_fastRemove 15 = .ok (.isub, 1) := by decide +kernel
theorem d_AL_fastRemove_16 : decode c_AL_fastRemove 16 = .ok (.dup, 1) := by decide +kernel
theorem d_AL_fastRemove_17 : decode c_AL_fastRemove 17 = .ok (.istore_n 3, 1) := by decide +kernel
theorem d_AL_fastRemove_18 : decode c_AL_fastRemove 18 = .ok (.iload_n 2, 1) := by decide +kernel
theorem d_AL_fastRemove_19 : decode c_AL_fastRemove 19 = .ok (.if_icmp .le 15, 3) := by decide +kernel
theorem d_AL_fastRemove_22 : decode c_AL_fastRemove 22 = .ok (.aload_n 1, 1) := by decide +kernel
theorem d_AL_fastRemove_23 : decode c_AL_fastRemove 23 = .ok (.iload_n 2, 1) := by decide +kernel
theorem d_AL_fastRemove_24 : decode c_AL_fastRemove 24 = .ok (.iconst 1, 1) := by decide +kernel
theorem d_AL_fastRemove_25 : decode c_AL_fastRemove 25 = .ok (.iadd, 1) := by decide +kernel
theorem d_AL_fastRemove_26 : decode c_AL_fastRemove 26 = .ok (.aload_n 1, 1) := by decide +kernel
theorem d_AL_fastRemove_27 : decode c_AL_fastRemove 27 = .ok (.iload_n 2, 1) := by decide +kernel
theorem d_AL_fastRemove_28 : decode c_AL_fastRemove 28 = .ok (.iload_n 3, 1) := by decide +kernel
theorem d_AL_fastRemove_29 : decode c_AL_fastRemove 29 = .ok (.iload_n 2, 1) := by decide +kernel
theorem d_AL_fastRemove_30 : decode c_AL_fastRemove 30 = .ok (.isub, 1) := by decide +kernel
theorem d_AL_fastRemove_31 : decode c_AL_fastRemove 31 = .ok (.invokestatic 112, 3) := by decide +kernel
theorem d_AL_fastRemove_34 : decode c_AL_fastRemove 34 = .ok (.aload_n 1, 1) := by decide +kernel
theorem d_AL_fastRemove_35 : decode c_AL_fastRemove 35 = .ok (.aload_n 0, 1) := by decide +kernel
theorem d_AL_fastRemove_36 : decode c_AL_fastRemove 36 = .ok (.iload_n 3, 1) := by decide +kernel
theorem d_AL_fastRemove_37 : decode c_AL_fastRemove 37 = .ok (.dup_x1, 1) := by decide +kernel
theorem d_AL_fastRemove_38 : decode c_AL_fastRemove 38 = .ok (.putfield 48, 3) := by decide +kernel
theorem d_AL_fastRemove_41 : decode c_AL_fastRemove 41 = .ok (.aconst_null, 1) := by decide +kernel
theorem d_AL_fastRemove_42 : decode c_AL_fastRemove 42 = .ok (.aastore, 1) := by decide +kernel
theorem d_AL_fastRemove_43 : decode c_AL_fastRemove 43 = .ok (.return_, 1) := by decide +kernel
abbrev c_AL_remove : ByteArray := prog_35_method_29_code
abbrev y_AL_remove : MethodName := ⟨"java/util/ArrayList", "remove", "(I)Ljava/lang/Object;"⟩
theorem d_AL_remove_0 : decode c_AL_remove 0 = .ok (.iload_n 1, 1) := by decide +kernel
theorem d_AL_remove_1 : decode c_AL_remove 1 = .ok (.aload_n 0, 1) := by decide +kernel
theorem d_AL_remove_2 : decode c_AL_remove 2 = .ok (.getfield 48, 3) := by decide +kernel
theorem d_AL_remove_5 : decode c_AL_remove 5 = .ok (.invokestatic 118, 3) := by decide +kernel
theorem d_AL_remove_8 : decode c_AL_remove 8 = .ok (.pop, 1) := by decide +kernel
theorem d_AL_remove_9 : decode c_AL_remove 9 = .ok (.aload_n 0, 1) := by decide +kernel
theorem d_AL_remove_10 : decode c_AL_remove 10 = .ok (.getfield 9, 3) := by decide +kernel
theorem d_AL_remove_13 : decode c_AL_remove 13 = .ok (.astore_n 2, 1) := by decide +kernel
theorem d_AL_remove_14 : decode c_AL_remove 14 = .ok (.aload_n 2, 1) := by decide +kernel
theorem d_AL_remove_15 : decode c_AL_remove 15 = .ok (.iload_n 1, 1) := by decide +kernel
theorem d_AL_remove_16 : decode c_AL_remove 16 = .ok (.aaload, 1) := by decide +kernel
theorem d_AL_remove_17 : decode c_AL_remove 17 = .ok (.astore_n 3, 1) := by decide +kernel
theorem d_AL_remove_18 : decode c_AL_remove 18 = .ok (.aload_n 0, 1) := by decide +kernel
theorem d_AL_remove_19 : decode c_AL_remove 19 = .ok (.aload_n 2, 1) := by decide +kernel
theorem d_AL_remove_20 : decode c_AL_remove 20 = .ok (.iload_n 1, 1) := by decide +kernel
theorem d_AL_remove_21 : decode c_AL_remove 21 = .ok (.invokevirtual 144, 3) := by decide +kernel
theorem d_AL_remove_24 : decode c_AL_remove 24 = .ok (.aload_n 3, 1) := by decide +kernel
theorem d_AL_remove_25 : decode c_AL_remove 25 = .ok (.areturn, 1) := by decide +kernel
abbrev rm_AL_add (B : Nat) : Room := { frames := 5, cells := 1, slots := B, locals := 170 }
set_option maxHeartbeats 4000000 in
set_option maxRecDepth 100000 in
/-- ArrayList.add(i, e) -/
theorem t_AL_add (l : Launch) (E : zc_E) (G : zg_G) (a dd : Nat) (xs : List Nat) (hL : zL E G a dd xs) (y : Nat) (hy : zel G y) (hn : xs.length < 2000) (B : Nat) (hB : 2 * xs.length + 10 ≤ B) (hel : ∀ z ∈ xs, zel G z) (i : Nat) (hi : i ≤ xs.length) : zMv l E y_AL_add c_AL_add 5 (rm_AL_add B) [.ref a, .int (nI i), .ref y] G (fun (G2 : zg_G) => ∃ dd2, zL E G2 a dd2 (xs.take i ++ y :: xs.drop i) ∧ (dd2 = dd ∨ G dd2 = none) ∧ zx (fun q => q = a ∨ q = dd) G G2) := by
  refine zMv.of (by decide) (Nat.le_of_ble_eq_true rfl) ?_
  intro p e s m args below meth c Q hZ hG hret ls hl
  obtain ⟨hx, hb, hr, hts, hown, hlocks, hml, hnm, hbase, hK, hN, hQ⟩ := hZ
  have hl : lv_has ls 5 [(0, .ref a), (1, .int (nI i)), (2, .ref y)] := hl
  have hS : zg_S (zc_b E) s.heap s.heap [] := va_S.rf
  have hG0 := hG
  have hx0 : zx (fun q => q = a ∨ q = dd) G G := zx.rf
  obtain ⟨⟨k, ha⟩, hLd⟩ := id hL
  rcases id hLd with ⟨hdd, hxs⟩ | ⟨cap, f, hd, h0, hc, hz, hf⟩
  · have hxl : xs.length = 0 := by rw [hxs]; rfl
    refine lv_aload_n hx hb d_AL_add_0 rfl (lv_at hl 0 rfl) ?_
    refine lv_iload_n hx hb d_AL_add_1 rfl (lv_at hl 1 rfl) ?_
    have hGo2 := hG
    refine zk_v (va_runV (As := [.int (nI i)]) (rest := []) ⟨hx, hb, hml, hown, hts⟩ (t_AL_rangeCheckForAdd l E G a xs.length i (.ref dd) k ha hi (by omega)) (zcV 1 hts w_224 w_226 wp_3 w_6 w_227 (by decide +kernel) ⟨Nat.le_of_ble_eq_true rfl, Nat.le_of_ble_eq_true rfl⟩) (zc_preV hbase hK hN hQ hG hS ha rfl) rfl rfl hl.1 rfl (lv_room (Nat.le_of_ble_eq_true rfl)) d_AL_add_2 ⟨(by dsimp only; omega), (by dsimp only; omega)⟩) hS (fun G2 H locs hp2 hG hS => ?_)
    have hG : zP E G H := hp2 ▸ hG
    refine lv_aload_n hx hb d_AL_add_5 rfl (lv_at hl 0 rfl) ?_
    refine lv_dup hx hb d_AL_add_6 rfl ?_
    refine zg_get (ci := 0) (C := "java/util/ArrayList") (T := T_AL) (N := 3) hx hb hts zi_AL hown hK hG ha rfl 2 (by decide) (hts _ w_82) (u_same (hts _ w_83)) rfl d_AL_add_7 ?_
    refine lv_iconst (v := 1) hx hb d_AL_add_10 (by decide) ?_
    refine lv_iadd hx hb d_AL_add_11 ?_
    refine zg_put (ci := 0) (v := .int (k + 1)) (ty := .int) (C := "java/util/ArrayList") (T := T_AL) (N := 3) hx hb hts zi_AL t_AL t_AL_ok n_AL hown hK hG hS ha rfl 2 (by decide) (hts _ w_82) (u_same (hts _ w_83)) rfl (by decide +kernel) rfl rfl (Nat.le_of_ble_eq_true rfl) d_AL_add_12 (fun H locs hG hS => ?_)
    obtain ⟨G1, eG1⟩ : ∃ z : zg_G, z = zg_up G a (.inr (0, [.ref dd, .int (nI xs.length), .int (k + 1)])) := ⟨_, rfl⟩
    have hG : zP E G1 H := by rw [eG1]; exact hG
    have hx2 : zx (fun q => q = a ∨ q = dd) G G1 := hx0.tr (by rw [eG1]; exact zx.up (Or.inl rfl))
    have k3 : G1 a = some (.inr (0, [.ref dd, .int (nI xs.length), .int (k + 1)])) := by rw [eG1]; exact zg_up_self _ _ _
    refine lv_aload_n hx hb d_AL_add_15 rfl (lv_at hl 0 rfl) ?_
    refine zg_get (ci := 0) (C := "java/util/ArrayList") (T := T_AL) (N := 3) hx hb hts zi_AL hown hK hG k3 rfl 1 (by decide) (hts _ w_80) (fun _ h9 => h9) rfl d_AL_add_16 ?_
    refine lv_dup hx hb d_AL_add_19 rfl ?_
    refine lv_istore_n (lv' := [(3, .int (nI xs.length)), (0, .ref a), (1, .int (nI i)), (2, .ref y)]) hx hb d_AL_add_20 rfl hl (by decide) rfl (fun ls hl => ?_)
    refine lv_aload_n hx hb d_AL_add_21 rfl (lv_at hl 1 rfl) ?_
    refine zg_get (ci := 0) (C := "java/util/ArrayList") (T := T_AL) (N := 3) hx hb hts zi_AL hown hK hG k3 rfl 0 (by decide) (hts _ w_79) (fun _ h9 => h9) rfl d_AL_add_22 ?_
    refine lv_dup hx hb d_AL_add_25 rfl ?_
    refine lv_astore (lv' := [(4, .ref dd), (3, .int (nI xs.length)), (0, .ref a), (1, .int (nI i)), (2, .ref y)]) hx hb d_AL_add_26 hl (by decide) rfl (fun ls hl => ?_)
    refine W.eq (g2 := F0 m 28 ls [.ref (E.2.2.2 0), .int (nI xs.length)]) (by rw [hdd]) ?_
    refine va_tlen hx hb hQ.2.1 hS (v := 0) rfl d_AL_add_28 ?_
    refine lv_icmp_ne (tgt := 38) hx hb d_AL_add_29 (by decide) (fun c29 => ?_) (fun c29 => ?_)
    · have b29 : ¬ xs.length = 0 := fun q => c29 ((nI_eq (a := xs.length) (b := 0) (by omega) (by omega)).mpr q)
      exact absurd hxl b29
    · have b29 : xs.length = 0 := (nI_eq (a := xs.length) (b := 0) (by omega) (by omega)).mp c29
      refine lv_aload_n hx hb d_AL_add_32 rfl (lv_at hl 2 rfl) ?_
      have hGo33 := hG
      refine zk_q (va_runV (As := []) (rest := []) ⟨hx, hb, hml, hown, hts⟩ (t_AL_grow l E G1 a dd xs (⟨⟨_, k3⟩, Or.inl ⟨hdd, hxs⟩⟩) (fun cap f h => by rw [hdd, hQ.out hG] at h; cases h) hn B hB (fun z hz => (hel z hz).keepL hL hQ hG0 hx2)) (zcV 0 hts w_557 w_559 wp_6 w_6 w_560 (by decide +kernel) ⟨Nat.le_of_ble_eq_true rfl, Nat.le_of_ble_eq_true rfl⟩) (zc_preV hbase hK hN hQ hG hS k3 rfl) rfl rfl hl.1 rfl (lv_room (Nat.le_of_ble_eq_true rfl)) d_AL_add_33 ⟨(by dsimp only; omega), (by dsimp only; omega)⟩) hS (fun r33 G33 H locs hp33 hG hS => ?_)
      obtain ⟨q33, f33, c33, er33, nq33, hl133, hl233, hl333, hx33, ⟨k33x, hka33⟩, hkq33, hfq33⟩ := hp33
      refine zr_some (a := q33) er33 ?_
      have hneg33 : a ≠ q33 := fun h => by rw [← h, k3] at nq33; cases nq33
      have hned33 : q33 ≠ dd := fun h => by have h9 := (zP.old hG hkq33); rw [h, hdd] at h9; exact absurd h9 hQ.2.1.out
      have nq33f : G q33 = none := zx.fr hx2 nq33 (fun h => h.elim (fun h => hneg33 h.symm) hned33)
      have hx4 : zx (fun q => q = a ∨ q = dd) G G33 := hx2.tr (hx33.w (fun _ z => Or.inl z))
      refine lv_astore (lv' := [(4, .ref q33), (3, .int (nI xs.length)), (0, .ref a), (1, .int (nI i)), (2, .ref y)]) hx hb d_AL_add_36 hl (by decide) rfl (fun ls hl => ?_)
      refine lv_aload hx hb d_AL_add_38 (lv_at hl 0 rfl) ?_
      refine lv_iload_n hx hb d_AL_add_40 rfl (lv_at hl 3 rfl) ?_
      refine lv_aload hx hb d_AL_add_41 (lv_at hl 0 rfl) ?_
      refine lv_iload_n hx hb d_AL_add_43 rfl (lv_at hl 3 rfl) ?_
      refine lv_iconst (v := 1) hx hb d_AL_add_44 (by decide) ?_
      refine lv_iadd hx hb d_AL_add_45 ?_
      refine zi_as (y := nI (i + 1)) (nI_add i 1) ?_
      refine lv_iload_n hx hb d_AL_add_46 rfl (lv_at hl 1 rfl) ?_
      refine lv_iload_n hx hb d_AL_add_47 rfl (lv_at hl 3 rfl) ?_
      refine lv_isub hx hb d_AL_add_48 ?_
      refine zi_as (y := nI (xs.length - i)) (zi_sub (a := xs.length) (b := i) (by omega)) ?_
      refine zg_copyM hx hb (hml.trans hl.1.symm) hown (hts _ w_601) (hts _ w_350) (hts _ w_349) (hts _ w_23) hK hG hS 3 3 hkq33 hkq33 rfl rfl (nI_pos (by omega)) (nI_pos (by omega)) (nI_pos (by omega)) (by rw [zi_n i (by omega), zi_n (xs.length - i) (by omega)]; omega) (by rw [zi_n (i + 1) (by omega), zi_n (xs.length - i) (by omega)]; omega) (by rw [zi_n i (by omega), zi_n (xs.length - i) (by omega)]; exact fun j hj z hz9 => ((hel z (List.mem_of_getElem? ((hfq33 _).symm.trans hz9))).keepL hL hQ hG0 hx4).any hK hN hG) (Nat.le_of_ble_eq_true rfl) (by show _ ≤ (170 : Nat); decide) d_AL_add_49 (fun H locs hG hS => ?_)
      rw [zi_n i (by omega), zi_n (i + 1) (by omega), zi_n (xs.length - i) (by omega)] at hG
      obtain ⟨G5, eG5⟩ : ∃ z : zg_G, z = zg_up G33 q33 (.inl (E.2.1 3, c33, .inr (.inr (.inr (.inr (va_cpy f33 f33 i (i + 1) (xs.length - i))))))) := ⟨_, rfl⟩
      have hG : zP E G5 H := by rw [eG5]; exact hG
      have hx6 : zx (fun q => q = a ∨ q = dd) G G5 := by rw [eG5]; exact hx4.upn nq33f
      have k7 : G5 a = some (.inr (0, [.ref q33, .int (nI xs.length), .int k33x])) := by rw [eG5, zg_up_ne (hneg33)]; exact hka33
      have k8 : G5 q33 = some (.inl (E.2.1 3, c33, .inr (.inr (.inr (.inr (va_cpy f33 f33 i (i + 1) (xs.length - i))))))) := by rw [eG5]; exact zg_up_self _ _ _
      refine lv_aload hx hb d_AL_add_52 (lv_at hl 0 rfl) ?_
      refine lv_iload_n hx hb d_AL_add_54 rfl (lv_at hl 3 rfl) ?_
      refine lv_aload_n hx hb d_AL_add_55 rfl (lv_at hl 4 rfl) ?_
      refine zg_astqM hx hb hK hG hS 3 k8 rfl ((hy.keepL hL hQ hG0 hx6).any hK hN hG) (vp_in_nI (by omega) (by omega)) d_AL_add_56 (fun H locs hG hS => ?_)
      rw [zi_n i (by omega)] at hG
      obtain ⟨G9, eG9⟩ : ∃ z : zg_G, z = zg_up G5 q33 (.inl (E.2.1 3, c33, .inr (.inr (.inr (.inr (va_up (va_cpy f33 f33 i (i + 1) (xs.length - i)) i (some y))))))) := ⟨_, rfl⟩
      have hG : zP E G9 H := by rw [eG9]; exact hG
      have hx10 : zx (fun q => q = a ∨ q = dd) G G9 := by rw [eG9]; exact hx6.upn nq33f
      have k11 : G9 a = some (.inr (0, [.ref q33, .int (nI xs.length), .int k33x])) := by rw [eG9, zg_up_ne (hneg33)]; exact k7
      have k12 : G9 q33 = some (.inl (E.2.1 3, c33, .inr (.inr (.inr (.inr (va_up (va_cpy f33 f33 i (i + 1) (xs.length - i)) i (some y))))))) := by rw [eG9]; exact zg_up_self _ _ _
      refine lv_aload_n hx hb d_AL_add_57 rfl (lv_at hl 2 rfl) ?_
      refine lv_iload_n hx hb d_AL_add_58 rfl (lv_at hl 1 rfl) ?_
      refine lv_iconst (v := 1) hx hb d_AL_add_59 (by decide) ?_
      refine lv_iadd hx hb d_AL_add_60 ?_
      refine zi_as (y := nI (xs.length + 1)) (nI_add xs.length 1) ?_
      refine zg_put (ci := 0) (v := .int (nI (xs.length + 1))) (ty := .int) (C := "java/util/ArrayList") (T := T_AL) (N := 3) hx hb hts zi_AL t_AL t_AL_ok n_AL hown hK hG hS k11 rfl 1 (by decide) (hts _ w_80) (fun _ h9 => h9) rfl (by decide +kernel) rfl rfl (Nat.le_of_ble_eq_true rfl) d_AL_add_61 (fun H locs hG hS => ?_)
      obtain ⟨G13, eG13⟩ : ∃ z : zg_G, z = zg_up G9 a (.inr (0, [.ref q33, .int (nI (xs.length + 1)), .int k33x])) := ⟨_, rfl⟩
      have hG : zP E G13 H := by rw [eG13]; exact hG
      have hx14 : zx (fun q => q = a ∨ q = dd) G G13 := hx10.tr (by rw [eG13]; exact zx.up (Or.inl rfl))
      have k15 : G13 a = some (.inr (0, [.ref q33, .int (nI (xs.length + 1)), .int k33x])) := by rw [eG13]; exact zg_up_self _ _ _
      have k16 : G13 q33 = some (.inl (E.2.1 3, c33, .inr (.inr (.inr (.inr (va_up (va_cpy f33 f33 i (i + 1) (xs.length - i)) i (some y))))))) := by rw [eG13, zg_up_ne (Ne.symm hneg33)]; exact k12
      exact hret _ _ _ _ _ _ _ (⟨q33, ⟨⟨_, by rw [zf_len hi]; exact k15⟩, Or.inr ⟨c33, _, k16, by omega, by rw [zf_len hi]; omega, hl333, zf_ins hfq33 hi⟩⟩, Or.inr nq33f, hx14⟩) hG hS (by dsimp only; omega) (by dsimp only; omega) d_AL_add_64
  · have hne : a ≠ dd := zg_ne ha hd (by intro h; cases h)
    refine lv_aload_n hx hb d_AL_add_0 rfl (lv_at hl 0 rfl) ?_
    refine lv_iload_n hx hb d_AL_add_1 rfl (lv_at hl 1 rfl) ?_
    have hGo2 := hG
    refine zk_v (va_runV (As := [.int (nI i)]) (rest := []) ⟨hx, hb, hml, hown, hts⟩ (t_AL_rangeCheckForAdd l E G a xs.length i (.ref dd) k ha hi (by omega)) (zcV 1 hts w_224 w_226 wp_3 w_6 w_227 (by decide +kernel) ⟨Nat.le_of_ble_eq_true rfl, Nat.le_of_ble_eq_true rfl⟩) (zc_preV hbase hK hN hQ hG hS ha rfl) rfl rfl hl.1 rfl (lv_room (Nat.le_of_ble_eq_true rfl)) d_AL_add_2 ⟨(by dsimp only; omega), (by dsimp only; omega)⟩) hS (fun G2 H locs hp2 hG hS => ?_)
    have hG : zP E G H := hp2 ▸ hG
    refine lv_aload_n hx hb d_AL_add_5 rfl (lv_at hl 0 rfl) ?_
    refine lv_dup hx hb d_AL_add_6 rfl ?_
    refine zg_get (ci := 0) (C := "java/util/ArrayList") (T := T_AL) (N := 3) hx hb hts zi_AL hown hK hG ha rfl 2 (by decide) (hts _ w_82) (u_same (hts _ w_83)) rfl d_AL_add_7 ?_
    refine lv_iconst (v := 1) hx hb d_AL_add_10 (by decide) ?_
    refine lv_iadd hx hb d_AL_add_11 ?_
    refine zg_put (ci := 0) (v := .int (k + 1)) (ty := .int) (C := "java/util/ArrayList") (T := T_AL) (N := 3) hx hb hts zi_AL t_AL t_AL_ok n_AL hown hK hG hS ha rfl 2 (by decide) (hts _ w_82) (u_same (hts _ w_83)) rfl (by decide +kernel) rfl rfl (Nat.le_of_ble_eq_true rfl) d_AL_add_12 (fun H locs hG hS => ?_)
    obtain ⟨G17, eG17⟩ : ∃ z : zg_G, z = zg_up G a (.inr (0, [.ref dd, .int (nI xs.length), .int (k + 1)])) := ⟨_, rfl⟩
    have hG : zP E G17 H := by rw [eG17]; exact hG
    have hx18 : zx (fun q => q = a ∨ q = dd) G G17 := hx0.tr (by rw [eG17]; exact zx.up (Or.inl rfl))
    have k19 : G17 a = some (.inr (0, [.ref dd, .int (nI xs.length), .int (k + 1)])) := by rw [eG17]; exact zg_up_self _ _ _
    have k20 : G17 dd = some (.inl (E.2.1 3, cap, .inr (.inr (.inr (.inr f))))) := by rw [eG17, zg_up_ne (Ne.symm hne)]; exact hd
    refine lv_aload_n hx hb d_AL_add_15 rfl (lv_at hl 0 rfl) ?_
    refine zg_get (ci := 0) (C := "java/util/ArrayList") (T := T_AL) (N := 3) hx hb hts zi_AL hown hK hG k19 rfl 1 (by decide) (hts _ w_80) (fun _ h9 => h9) rfl d_AL_add_16 ?_
    refine lv_dup hx hb d_AL_add_19 rfl ?_
    refine lv_istore_n (lv' := [(3, .int (nI xs.length)), (0, .ref a), (1, .int (nI i)), (2, .ref y)]) hx hb d_AL_add_20 rfl hl (by decide) rfl (fun ls hl => ?_)
    refine lv_aload_n hx hb d_AL_add_21 rfl (lv_at hl 1 rfl) ?_
    refine zg_get (ci := 0) (C := "java/util/ArrayList") (T := T_AL) (N := 3) hx hb hts zi_AL hown hK hG k19 rfl 0 (by decide) (hts _ w_79) (fun _ h9 => h9) rfl d_AL_add_22 ?_
    refine lv_dup hx hb d_AL_add_25 rfl ?_
    refine lv_astore (lv' := [(4, .ref dd), (3, .int (nI xs.length)), (0, .ref a), (1, .int (nI i)), (2, .ref y)]) hx hb d_AL_add_26 hl (by decide) rfl (fun ls hl => ?_)
    refine zg_alen hx hb hK hG 3 k20 rfl (v := nI cap) rfl d_AL_add_28 ?_
    refine lv_icmp_ne (tgt := 38) hx hb d_AL_add_29 (by decide) (fun c29 => ?_) (fun c29 => ?_)
    · have b29 : ¬ xs.length = cap := fun q => c29 ((nI_eq (a := xs.length) (b := cap) (by omega) (by omega)).mpr q)
      refine lv_aload hx hb d_AL_add_38 (lv_at hl 0 rfl) ?_
      refine lv_iload_n hx hb d_AL_add_40 rfl (lv_at hl 3 rfl) ?_
      refine lv_aload hx hb d_AL_add_41 (lv_at hl 0 rfl) ?_
      refine lv_iload_n hx hb d_AL_add_43 rfl (lv_at hl 3 rfl) ?_
      refine lv_iconst (v := 1) hx hb d_AL_add_44 (by decide) ?_
      refine lv_iadd hx hb d_AL_add_45 ?_
      refine zi_as (y := nI (i + 1)) (nI_add i 1) ?_
      refine lv_iload_n hx hb d_AL_add_46 rfl (lv_at hl 1 rfl) ?_
      refine lv_iload_n hx hb d_AL_add_47 rfl (lv_at hl 3 rfl) ?_
      refine lv_isub hx hb d_AL_add_48 ?_
      refine zi_as (y := nI (xs.length - i)) (zi_sub (a := xs.length) (b := i) (by omega)) ?_
      refine zg_copyM hx hb (hml.trans hl.1.symm) hown (hts _ w_601) (hts _ w_350) (hts _ w_349) (hts _ w_23) hK hG hS 3 3 k20 k20 rfl rfl (nI_pos (by omega)) (nI_pos (by omega)) (nI_pos (by omega)) (by rw [zi_n i (by omega), zi_n (xs.length - i) (by omega)]; omega) (by rw [zi_n (i + 1) (by omega), zi_n (xs.length - i) (by omega)]; omega) (by rw [zi_n i (by omega), zi_n (xs.length - i) (by omega)]; exact fun j hj z hz9 => ((hel z (List.mem_of_getElem? ((hf _).symm.trans hz9))).keepL hL hQ hG0 hx18).any hK hN hG) (Nat.le_of_ble_eq_true rfl) (by show _ ≤ (170 : Nat); decide) d_AL_add_49 (fun H locs hG hS => ?_)
      rw [zi_n i (by omega), zi_n (i + 1) (by omega), zi_n (xs.length - i) (by omega)] at hG
      obtain ⟨G21, eG21⟩ : ∃ z : zg_G, z = zg_up G17 dd (.inl (E.2.1 3, cap, .inr (.inr (.inr (.inr (va_cpy f f i (i + 1) (xs.length - i))))))) := ⟨_, rfl⟩
      have hG : zP E G21 H := by rw [eG21]; exact hG
      have hx22 : zx (fun q => q = a ∨ q = dd) G G21 := hx18.tr (by rw [eG21]; exact zx.up (Or.inr rfl))
      have k23 : G21 a = some (.inr (0, [.ref dd, .int (nI xs.length), .int (k + 1)])) := by rw [eG21, zg_up_ne (hne)]; exact k19
      have k24 : G21 dd = some (.inl (E.2.1 3, cap, .inr (.inr (.inr (.inr (va_cpy f f i (i + 1) (xs.length - i))))))) := by rw [eG21]; exact zg_up_self _ _ _
      refine lv_aload hx hb d_AL_add_52 (lv_at hl 0 rfl) ?_
      refine lv_iload_n hx hb d_AL_add_54 rfl (lv_at hl 3 rfl) ?_
      refine lv_aload_n hx hb d_AL_add_55 rfl (lv_at hl 4 rfl) ?_
      refine zg_astqM hx hb hK hG hS 3 k24 rfl ((hy.keepL hL hQ hG0 hx22).any hK hN hG) (vp_in_nI (by omega) (by omega)) d_AL_add_56 (fun H locs hG hS => ?_)
      rw [zi_n i (by omega)] at hG
      obtain ⟨G25, eG25⟩ : ∃ z : zg_G, z = zg_up G21 dd (.inl (E.2.1 3, cap, .inr (.inr (.inr (.inr (va_up (va_cpy f f i (i + 1) (xs.length - i)) i (some y))))))) := ⟨_, rfl⟩
      have hG : zP E G25 H := by rw [eG25]; exact hG
      have hx26 : zx (fun q => q = a ∨ q = dd) G G25 := hx22.tr (by rw [eG25]; exact zx.up (Or.inr rfl))
      have k27 : G25 a = some (.inr (0, [.ref dd, .int (nI xs.length), .int (k + 1)])) := by rw [eG25, zg_up_ne (hne)]; exact k23
      have k28 : G25 dd = some (.inl (E.2.1 3, cap, .inr (.inr (.inr (.inr (va_up (va_cpy f f i (i + 1) (xs.length - i)) i (some y))))))) := by rw [eG25]; exact zg_up_self _ _ _
      refine lv_aload_n hx hb d_AL_add_57 rfl (lv_at hl 2 rfl) ?_
      refine lv_iload_n hx hb d_AL_add_58 rfl (lv_at hl 1 rfl) ?_
      refine lv_iconst (v := 1) hx hb d_AL_add_59 (by decide) ?_
      refine lv_iadd hx hb d_AL_add_60 ?_
      refine zi_as (y := nI (xs.length + 1)) (nI_add xs.length 1) ?_
      refine zg_put (ci := 0) (v := .int (nI (xs.length + 1))) (ty := .int) (C := "java/util/ArrayList") (T := T_AL) (N := 3) hx hb hts zi_AL t_AL t_AL_ok n_AL hown hK hG hS k27 rfl 1 (by decide) (hts _ w_80) (fun _ h9 => h9) rfl (by decide +kernel) rfl rfl (Nat.le_of_ble_eq_true rfl) d_AL_add_61 (fun H locs hG hS => ?_)
      obtain ⟨G29, eG29⟩ : ∃ z : zg_G, z = zg_up G25 a (.inr (0, [.ref dd, .int (nI (xs.length + 1)), .int (k + 1)])) := ⟨_, rfl⟩
      have hG : zP E G29 H := by rw [eG29]; exact hG
      have hx30 : zx (fun q => q = a ∨ q = dd) G G29 := hx26.tr (by rw [eG29]; exact zx.up (Or.inl rfl))
      have k31 : G29 a = some (.inr (0, [.ref dd, .int (nI (xs.length + 1)), .int (k + 1)])) := by rw [eG29]; exact zg_up_self _ _ _
      have k32 : G29 dd = some (.inl (E.2.1 3, cap, .inr (.inr (.inr (.inr (va_up (va_cpy f f i (i + 1) (xs.length - i)) i (some y))))))) := by rw [eG29, zg_up_ne (Ne.symm hne)]; exact k28
      exact hret _ _ _ _ _ _ _ (⟨dd, ⟨⟨_, by rw [zf_len hi]; exact k31⟩, Or.inr ⟨cap, _, k32, h0, by rw [zf_len hi]; omega, hz, zf_ins hf hi⟩⟩, Or.inl rfl, hx30⟩) hG hS (by dsimp only; omega) (by dsimp only; omega) d_AL_add_64
    · have b29 : xs.length = cap := (nI_eq (a := xs.length) (b := cap) (by omega) (by omega)).mp c29
      refine lv_aload_n hx hb d_AL_add_32 rfl (lv_at hl 2 rfl) ?_
      have hGo33 := hG
      refine zk_q (va_runV (As := []) (rest := []) ⟨hx, hb, hml, hown, hts⟩ (t_AL_grow l E G17 a dd xs (⟨⟨_, k19⟩, Or.inr ⟨cap, f, k20, h0, hc, hz, hf⟩⟩) (fun cap2 f2 h => by rw [k20] at h; cases h; exact b29.symm) hn B hB (fun z hz => (hel z hz).keepL hL hQ hG0 hx18)) (zcV 0 hts w_557 w_559 wp_6 w_6 w_560 (by decide +kernel) ⟨Nat.le_of_ble_eq_true rfl, Nat.le_of_ble_eq_true rfl⟩) (zc_preV hbase hK hN hQ hG hS k19 rfl) rfl rfl hl.1 rfl (lv_room (Nat.le_of_ble_eq_true rfl)) d_AL_add_33 ⟨(by dsimp only; omega), (by dsimp only; omega)⟩) hS (fun r33 G33 H locs hp33 hG hS => ?_)
      obtain ⟨q33, f33, c33, er33, nq33, hl133, hl233, hl333, hx33, ⟨k33x, hka33⟩, hkq33, hfq33⟩ := hp33
      refine zr_some (a := q33) er33 ?_
      have hneg33 : a ≠ q33 := fun h => by rw [← h, k19] at nq33; cases nq33
      have hned33 : q33 ≠ dd := fun h => by rw [h, k20] at nq33; cases nq33
      have nq33f : G q33 = none := zx.fr hx18 nq33 (fun h => h.elim (fun h => hneg33 h.symm) hned33)
      have hx33 : zx (fun q => q = a ∨ q = dd) G G33 := hx18.tr (hx33.w (fun _ z => Or.inl z))
      refine lv_astore (lv' := [(4, .ref q33), (3, .int (nI xs.length)), (0, .ref a), (1, .int (nI i)), (2, .ref y)]) hx hb d_AL_add_36 hl (by decide) rfl (fun ls hl => ?_)
      refine lv_aload hx hb d_AL_add_38 (lv_at hl 0 rfl) ?_
      refine lv_iload_n hx hb d_AL_add_40 rfl (lv_at hl 3 rfl) ?_
      refine lv_aload hx hb d_AL_add_41 (lv_at hl 0 rfl) ?_
      refine lv_iload_n hx hb d_AL_add_43 rfl (lv_at hl 3 rfl) ?_
      refine lv_iconst (v := 1) hx hb d_AL_add_44 (by decide) ?_
      refine lv_iadd hx hb d_AL_add_45 ?_
      refine zi_as (y := nI (i + 1)) (nI_add i 1) ?_
      refine lv_iload_n hx hb d_AL_add_46 rfl (lv_at hl 1 rfl) ?_
      refine lv_iload_n hx hb d_AL_add_47 rfl (lv_at hl 3 rfl) ?_
      refine lv_isub hx hb d_AL_add_48 ?_
      refine zi_as (y := nI (xs.length - i)) (zi_sub (a := xs.length) (b := i) (by omega)) ?_
      refine zg_copyM hx hb (hml.trans hl.1.symm) hown (hts _ w_601) (hts _ w_350) (hts _ w_349) (hts _ w_23) hK hG hS 3 3 hkq33 hkq33 rfl rfl (nI_pos (by omega)) (nI_pos (by omega)) (nI_pos (by omega)) (by rw [zi_n i (by omega), zi_n (xs.length - i) (by omega)]; omega) (by rw [zi_n (i + 1) (by omega), zi_n (xs.length - i) (by omega)]; omega) (by rw [zi_n i (by omega), zi_n (xs.length - i) (by omega)]; exact fun j hj z hz9 => ((hel z (List.mem_of_getElem? ((hfq33 _).symm.trans hz9))).keepL hL hQ hG0 hx33).any hK hN hG) (Nat.le_of_ble_eq_true rfl) (by show _ ≤ (170 : Nat); decide) d_AL_add_49 (fun H locs hG hS => ?_)
      rw [zi_n i (by omega), zi_n (i + 1) (by omega), zi_n (xs.length - i) (by omega)] at hG
      obtain ⟨G34, eG34⟩ : ∃ z : zg_G, z = zg_up G33 q33 (.inl (E.2.1 3, c33, .inr (.inr (.inr (.inr (va_cpy f33 f33 i (i + 1) (xs.length - i))))))) := ⟨_, rfl⟩
      have hG : zP E G34 H := by rw [eG34]; exact hG
      have hx35 : zx (fun q => q = a ∨ q = dd) G G34 := by rw [eG34]; exact hx33.upn nq33f
      have k36 : G34 a = some (.inr (0, [.ref q33, .int (nI xs.length), .int k33x])) := by rw [eG34, zg_up_ne (hneg33)]; exact hka33
      have k37 : G34 q33 = some (.inl (E.2.1 3, c33, .inr (.inr (.inr (.inr (va_cpy f33 f33 i (i + 1) (xs.length - i))))))) := by rw [eG34]; exact zg_up_self _ _ _
      refine lv_aload hx hb d_AL_add_52 (lv_at hl 0 rfl) ?_
      refine lv_iload_n hx hb d_AL_add_54 rfl (lv_at hl 3 rfl) ?_
      refine lv_aload_n hx hb d_AL_add_55 rfl (lv_at hl 4 rfl) ?_
      refine zg_astqM hx hb hK hG hS 3 k37 rfl ((hy.keepL hL hQ hG0 hx35).any hK hN hG) (vp_in_nI (by omega) (by omega)) d_AL_add_56 (fun H locs hG hS => ?_)
      rw [zi_n i (by omega)] at hG
      obtain ⟨G38, eG38⟩ : ∃ z : zg_G, z = zg_up G34 q33 (.inl (E.2.1 3, c33, .inr (.inr (.inr (.inr (va_up (va_cpy f33 f33 i (i + 1) (xs.length - i)) i (some y))))))) := ⟨_, rfl⟩
      have hG : zP E G38 H := by rw [eG38]; exact hG
      have hx39 : zx (fun q => q = a ∨ q = dd) G G38 := by rw [eG38]; exact hx35.upn nq33f
      have k40 : G38 a = some (.inr (0, [.ref q33, .int (nI xs.length), .int k33x])) := by rw [eG38, zg_up_ne (hneg33)]; exact k36
      have k41 : G38 q33 = some (.inl (E.2.1 3, c33, .inr (.inr (.inr (.inr (va_up (va_cpy f33 f33 i (i + 1) (xs.length - i)) i (some y))))))) := by rw [eG38]; exact zg_up_self _ _ _
      refine lv_aload_n hx hb d_AL_add_57 rfl (lv_at hl 2 rfl) ?_
      refine lv_iload_n hx hb d_AL_add_58 rfl (lv_at hl 1 rfl) ?_
      refine lv_iconst (v := 1) hx hb d_AL_add_59 (by decide) ?_
      refine lv_iadd hx hb d_AL_add_60 ?_
      refine zi_as (y := nI (xs.length + 1)) (nI_add xs.length 1) ?_
      refine zg_put (ci := 0) (v := .int (nI (xs.length + 1))) (ty := .int) (C := "java/util/ArrayList") (T := T_AL) (N := 3) hx hb hts zi_AL t_AL t_AL_ok n_AL hown hK hG hS k40 rfl 1 (by decide) (hts _ w_80) (fun _ h9 => h9) rfl (by decide +kernel) rfl rfl (Nat.le_of_ble_eq_true rfl) d_AL_add_61 (fun H locs hG hS => ?_)
      obtain ⟨G42, eG42⟩ : ∃ z : zg_G, z = zg_up G38 a (.inr (0, [.ref q33, .int (nI (xs.length + 1)), .int k33x])) := ⟨_, rfl⟩
      have hG : zP E G42 H := by rw [eG42]; exact hG
      have hx43 : zx (fun q => q = a ∨ q = dd) G G42 := hx39.tr (by rw [eG42]; exact zx.up (Or.inl rfl))
      have k44 : G42 a = some (.inr (0, [.ref q33, .int (nI (xs.length + 1)), .int k33x])) := by rw [eG42]; exact zg_up_self _ _ _
      have k45 : G42 q33 = some (.inl (E.2.1 3, c33, .inr (.inr (.inr (.inr (va_up (va_cpy f33 f33 i (i + 1) (xs.length - i)) i (some y))))))) := by rw [eG42, zg_up_ne (Ne.symm hneg33)]; exact k41
      exact hret _ _ _ _ _ _ _ (⟨q33, ⟨⟨_, by rw [zf_len hi]; exact k44⟩, Or.inr ⟨c33, _, k45, by omega, by rw [zf_len hi]; omega, hl333, zf_ins hfq33 hi⟩⟩, Or.inr nq33f, hx43⟩) hG hS (by dsimp only; omega) (by dsimp only; omega) d_AL_add_64
abbrev rm_AL_fastRemove : Room := { frames := 1, cells := 0, slots := 0, locals := 40 }
set_option maxHeartbeats 4000000 in
set_option maxRecDepth 100000 in
/-- ArrayList.fastRemove(es, i) -/
theorem t_AL_fastRemove (l : Launch) (E : zc_E) (G : zg_G) (a dd : Nat) (xs : List Nat) (k : Int32) (cap : Nat) (f : Nat → Option Nat) (ha : G a = some (.inr (0, [.ref dd, .int (nI xs.length), .int k]))) (hd : G dd = some (.inl (E.2.1 3, cap, .inr (.inr (.inr (.inr f)))))) (h0 : 0 < cap) (hc : xs.length ≤ cap) (hz : cap ≤ 4001) (hf : ∀ j, f j = xs[j]?) (hel : ∀ z ∈ xs, zel G z) (i : Nat) (hi : i < xs.length) : zMv l E y_AL_fastRemove c_AL_fastRemove 4 rm_AL_fastRemove [.ref a, .ref dd, .int (nI i)] G (fun (G2 : zg_G) => zL E G2 a dd (xs.take i ++ xs.drop (i + 1)) ∧ zx (fun q => q = a ∨ q = dd) G G2) := by
  refine zMv.of (by decide) (Nat.le_of_ble_eq_true rfl) ?_
  intro p e s m args below meth c Q hZ hG hret ls hl
  obtain ⟨hx, hb, hr, hts, hown, hlocks, hml, hnm, hbase, hK, hN, hQ⟩ := hZ
  have hl : lv_has ls 4 [(0, .ref a), (1, .ref dd), (2, .int (nI i))] := hl
  have hS : zg_S (zc_b E) s.heap s.heap [] := va_S.rf
  have hG0 := hG
  have hne : a ≠ dd := zg_ne ha hd (by intro h; cases h)
  have hL : zL E G a dd xs := ⟨⟨k, ha⟩, Or.inr ⟨cap, f, hd, h0, hc, hz, hf⟩⟩
  have hx0 : zx (fun q => q = a ∨ q = dd) G G := zx.rf
  refine lv_aload_n hx hb d_AL_fastRemove_0 rfl (lv_at hl 0 rfl) ?_
  refine lv_dup hx hb d_AL_fastRemove_1 rfl ?_
  refine zg_get (ci := 0) (C := "java/util/ArrayList") (T := T_AL) (N := 3) hx hb hts zi_AL hown hK hG ha rfl 2 (by decide) (hts _ w_82) (u_same (hts _ w_83)) rfl d_AL_fastRemove_2 ?_
  refine lv_iconst (v := 1) hx hb d_AL_fastRemove_5 (by decide) ?_
  refine lv_iadd hx hb d_AL_fastRemove_6 ?_
  refine zg_put (ci := 0) (v := .int (k + 1)) (ty := .int) (C := "java/util/ArrayList") (T := T_AL) (N := 3) hx hb hts zi_AL t_AL t_AL_ok n_AL hown hK hG hS ha rfl 2 (by decide) (hts _ w_82) (u_same (hts _ w_83)) rfl (by decide +kernel) rfl rfl (Nat.le_of_ble_eq_true rfl) d_AL_fastRemove_7 (fun H locs hG hS => ?_)
  obtain ⟨G1, eG1⟩ : ∃ z : zg_G, z = zg_up G a (.inr (0, [.ref dd, .int (nI xs.length), .int (k + 1)])) := ⟨_, rfl⟩
  have hG : zP E G1 H := by rw [eG1]; exact hG
  have hx2 : zx (fun q => q = a ∨ q = dd) G G1 := hx0.tr (by rw [eG1]; exact zx.up (Or.inl rfl))
  have k3 : G1 a = some (.inr (0, [.ref dd, .int (nI xs.length), .int (k + 1)])) := by rw [eG1]; exact zg_up_self _ _ _
  have k4 : G1 dd = some (.inl (E.2.1 3, cap, .inr (.inr (.inr (.inr f))))) := by rw [eG1, zg_up_ne (Ne.symm hne)]; exact hd
  refine lv_aload_n hx hb d_AL_fastRemove_10 rfl (lv_at hl 0 rfl) ?_
  refine zg_get (ci := 0) (C := "java/util/ArrayList") (T := T_AL) (N := 3) hx hb hts zi_AL hown hK hG k3 rfl 1 (by decide) (hts _ w_80) (fun _ h9 => h9) rfl d_AL_fastRemove_11 ?_
  refine lv_iconst (v := 1) hx hb d_AL_fastRemove_14 (by decide) ?_
  refine lv_isub hx hb d_AL_fastRemove_15 ?_
  refine zi_as (y := nI (xs.length - 1)) (zi_sub (a := xs.length) (b := 1) (by omega)) ?_
  refine lv_dup hx hb d_AL_fastRemove_16 rfl ?_
  refine lv_istore_n (lv' := [(3, .int (nI (xs.length - 1))), (0, .ref a), (1, .ref dd), (2, .int (nI i))]) hx hb d_AL_fastRemove_17 rfl hl (by decide) rfl (fun ls hl => ?_)
  refine lv_iload_n hx hb d_AL_fastRemove_18 rfl (lv_at hl 3 rfl) ?_
  refine lv_icmp_le (tgt := 34) hx hb d_AL_fastRemove_19 (by decide) (fun c19 => ?_) (fun c19 => ?_)
  · have b19 : (xs.length - 1) ≤ i := (nI_leI (a := (xs.length - 1)) (b := i) (by omega) (by omega)).mp c19
    refine lv_aload_n hx hb d_AL_fastRemove_34 rfl (lv_at hl 2 rfl) ?_
    refine lv_aload_n hx hb d_AL_fastRemove_35 rfl (lv_at hl 1 rfl) ?_
    refine lv_iload_n hx hb d_AL_fastRemove_36 rfl (lv_at hl 0 rfl) ?_
    refine lv_dup_x1 hx hb d_AL_fastRemove_37 rfl rfl ?_
    refine zg_put (ci := 0) (v := .int (nI (xs.length - 1))) (ty := .int) (C := "java/util/ArrayList") (T := T_AL) (N := 3) hx hb hts zi_AL t_AL t_AL_ok n_AL hown hK hG hS k3 rfl 1 (by decide) (hts _ w_80) (fun _ h9 => h9) rfl (by decide +kernel) rfl rfl (Nat.le_of_ble_eq_true rfl) d_AL_fastRemove_38 (fun H locs hG hS => ?_)
    obtain ⟨G5, eG5⟩ : ∃ z : zg_G, z = zg_up G1 a (.inr (0, [.ref dd, .int (nI (xs.length - 1)), .int (k + 1)])) := ⟨_, rfl⟩
    have hG : zP E G5 H := by rw [eG5]; exact hG
    have hx6 : zx (fun q => q = a ∨ q = dd) G G5 := hx2.tr (by rw [eG5]; exact zx.up (Or.inl rfl))
    have k7 : G5 a = some (.inr (0, [.ref dd, .int (nI (xs.length - 1)), .int (k + 1)])) := by rw [eG5]; exact zg_up_self _ _ _
    have k8 : G5 dd = some (.inl (E.2.1 3, cap, .inr (.inr (.inr (.inr f))))) := by rw [eG5, zg_up_ne (Ne.symm hne)]; exact k4
    refine lv_null hx hb d_AL_fastRemove_41 ?_
    refine zg_astqN hx hb hK hG hS 3 k8 rfl (vp_in_nI (by omega) (by omega)) d_AL_fastRemove_42 (fun H locs hG hS => ?_)
    rw [zi_n (xs.length - 1) (by omega)] at hG
    obtain ⟨G9, eG9⟩ : ∃ z : zg_G, z = zg_up G5 dd (.inl (E.2.1 3, cap, .inr (.inr (.inr (.inr (va_up f (xs.length - 1) none)))))) := ⟨_, rfl⟩
    have hG : zP E G9 H := by rw [eG9]; exact hG
    have hx10 : zx (fun q => q = a ∨ q = dd) G G9 := hx6.tr (by rw [eG9]; exact zx.up (Or.inr rfl))
    have k11 : G9 a = some (.inr (0, [.ref dd, .int (nI (xs.length - 1)), .int (k + 1)])) := by rw [eG9, zg_up_ne (hne)]; exact k7
    have k12 : G9 dd = some (.inl (E.2.1 3, cap, .inr (.inr (.inr (.inr (va_up f (xs.length - 1) none)))))) := by rw [eG9]; exact zg_up_self _ _ _
    exact hret _ _ _ _ _ _ _ (⟨⟨⟨_, by rw [zf_elen hi]; exact k11⟩, Or.inr ⟨cap, _, k12, h0, by rw [zf_elen hi]; omega, hz, by first | exact zf_er hf hi | exact zf_er0 hf hi (by omega)⟩⟩, hx10⟩) hG hS (Nat.le_refl _) (Nat.le_refl _) d_AL_fastRemove_43
  · have b19 : ¬ (xs.length - 1) ≤ i := fun q => c19 ((nI_leI (a := (xs.length - 1)) (b := i) (by omega) (by omega)).mpr q)
    refine lv_aload_n hx hb d_AL_fastRemove_22 rfl (lv_at hl 2 rfl) ?_
    refine lv_iload_n hx hb d_AL_fastRemove_23 rfl (lv_at hl 3 rfl) ?_
    refine lv_iconst (v := 1) hx hb d_AL_fastRemove_24 (by decide) ?_
    refine lv_iadd hx hb d_AL_fastRemove_25 ?_
    refine zi_as (y := nI (i + 1)) (nI_add i 1) ?_
    refine lv_aload_n hx hb d_AL_fastRemove_26 rfl (lv_at hl 2 rfl) ?_
    refine lv_iload_n hx hb d_AL_fastRemove_27 rfl (lv_at hl 3 rfl) ?_
    refine lv_iload_n hx hb d_AL_fastRemove_28 rfl (lv_at hl 0 rfl) ?_
    refine lv_iload_n hx hb d_AL_fastRemove_29 rfl (lv_at hl 3 rfl) ?_
    refine lv_isub hx hb d_AL_fastRemove_30 ?_
    refine zi_as (y := nI (xs.length - 1 - i)) (zi_sub (a := xs.length - 1) (b := i) (by omega)) ?_
    refine zg_copyM hx hb (hml.trans hl.1.symm) hown (hts _ w_601) (hts _ w_350) (hts _ w_349) (hts _ w_23) hK hG hS 3 3 k4 k4 rfl rfl (nI_pos (by omega)) (nI_pos (by omega)) (nI_pos (by omega)) (by rw [zi_n (i + 1) (by omega), zi_n (xs.length - 1 - i) (by omega)]; omega) (by rw [zi_n i (by omega), zi_n (xs.length - 1 - i) (by omega)]; omega) (by rw [zi_n (i + 1) (by omega), zi_n (xs.length - 1 - i) (by omega)]; exact fun j hj z hz9 => ((hel z (List.mem_of_getElem? ((hf _).symm.trans hz9))).keepL hL hQ hG0 hx2).any hK hN hG) (Nat.le_of_ble_eq_true rfl) (by show _ ≤ (40 : Nat); decide) d_AL_fastRemove_31 (fun H locs hG hS => ?_)
    rw [zi_n (i + 1) (by omega), zi_n i (by omega), zi_n (xs.length - 1 - i) (by omega)] at hG
    obtain ⟨G13, eG13⟩ : ∃ z : zg_G, z = zg_up G1 dd (.inl (E.2.1 3, cap, .inr (.inr (.inr (.inr (va_cpy f f (i + 1) i (xs.length - 1 - i))))))) := ⟨_, rfl⟩
    have hG : zP E G13 H := by rw [eG13]; exact hG
    have hx14 : zx (fun q => q = a ∨ q = dd) G G13 := hx2.tr (by rw [eG13]; exact zx.up (Or.inr rfl))
    have k15 : G13 a = some (.inr (0, [.ref dd, .int (nI xs.length), .int (k + 1)])) := by rw [eG13, zg_up_ne (hne)]; exact k3
    have k16 : G13 dd = some (.inl (E.2.1 3, cap, .inr (.inr (.inr (.inr (va_cpy f f (i + 1) i (xs.length - 1 - i))))))) := by rw [eG13]; exact zg_up_self _ _ _
    refine lv_aload_n hx hb d_AL_fastRemove_34 rfl (lv_at hl 2 rfl) ?_
    refine lv_aload_n hx hb d_AL_fastRemove_35 rfl (lv_at hl 1 rfl) ?_
    refine lv_iload_n hx hb d_AL_fastRemove_36 rfl (lv_at hl 0 rfl) ?_
    refine lv_dup_x1 hx hb d_AL_fastRemove_37 rfl rfl ?_
    refine zg_put (ci := 0) (v := .int (nI (xs.length - 1))) (ty := .int) (C := "java/util/ArrayList") (T := T_AL) (N := 3) hx hb hts zi_AL t_AL t_AL_ok n_AL hown hK hG hS k15 rfl 1 (by decide) (hts _ w_80) (fun _ h9 => h9) rfl (by decide +kernel) rfl rfl (Nat.le_of_ble_eq_true rfl) d_AL_fastRemove_38 (fun H locs hG hS => ?_)
    obtain ⟨G17, eG17⟩ : ∃ z : zg_G, z = zg_up G13 a (.inr (0, [.ref dd, .int (nI (xs.length - 1)), .int (k + 1)])) := ⟨_, rfl⟩
    have hG : zP E G17 H := by rw [eG17]; exact hG
    have hx18 : zx (fun q => q = a ∨ q = dd) G G17 := hx14.tr (by rw [eG17]; exact zx.up (Or.inl rfl))
    have k19 : G17 a = some (.inr (0, [.ref dd, .int (nI (xs.length - 1)), .int (k + 1)])) := by rw [eG17]; exact zg_up_self _ _ _
    have k20 : G17 dd = some (.inl (E.2.1 3, cap, .inr (.inr (.inr (.inr (va_cpy f f (i + 1) i (xs.length - 1 - i))))))) := by rw [eG17, zg_up_ne (Ne.symm hne)]; exact k16
    refine lv_null hx hb d_AL_fastRemove_41 ?_
    refine zg_astqN hx hb hK hG hS 3 k20 rfl (vp_in_nI (by omega) (by omega)) d_AL_fastRemove_42 (fun H locs hG hS => ?_)
    rw [zi_n (xs.length - 1) (by omega)] at hG
    obtain ⟨G21, eG21⟩ : ∃ z : zg_G, z = zg_up G17 dd (.inl (E.2.1 3, cap, .inr (.inr (.inr (.inr (va_up (va_cpy f f (i + 1) i (xs.length - 1 - i)) (xs.length - 1) none)))))) := ⟨_, rfl⟩
    have hG : zP E G21 H := by rw [eG21]; exact hG
    have hx22 : zx (fun q => q = a ∨ q = dd) G G21 := hx18.tr (by rw [eG21]; exact zx.up (Or.inr rfl))
    have k23 : G21 a = some (.inr (0, [.ref dd, .int (nI (xs.length - 1)), .int (k + 1)])) := by rw [eG21, zg_up_ne (hne)]; exact k19
    have k24 : G21 dd = some (.inl (E.2.1 3, cap, .inr (.inr (.inr (.inr (va_up (va_cpy f f (i + 1) i (xs.length - 1 - i)) (xs.length - 1) none)))))) := by rw [eG21]; exact zg_up_self _ _ _
    exact hret _ _ _ _ _ _ _ (⟨⟨⟨_, by rw [zf_elen hi]; exact k23⟩, Or.inr ⟨cap, _, k24, h0, by rw [zf_elen hi]; omega, hz, by first | exact zf_er hf hi | exact zf_er0 hf hi (by omega)⟩⟩, hx22⟩) hG hS (Nat.le_refl _) (Nat.le_refl _) d_AL_fastRemove_43
abbrev rm_AL_remove : Room := { frames := 2, cells := 0, slots := 0, locals := 70 }
set_option maxHeartbeats 4000000 in
set_option maxRecDepth 100000 in
/-- ArrayList.remove(i) -/
theorem t_AL_remove (l : Launch) (E : zc_E) (G : zg_G) (a dd : Nat) (xs : List Nat) (k : Int32) (cap : Nat) (f : Nat → Option Nat) (ha : G a = some (.inr (0, [.ref dd, .int (nI xs.length), .int k]))) (hd : G dd = some (.inl (E.2.1 3, cap, .inr (.inr (.inr (.inr f)))))) (h0 : 0 < cap) (hc : xs.length ≤ cap) (hz : cap ≤ 4001) (hf : ∀ j, f j = xs[j]?) (hel : ∀ z ∈ xs, zel G z) (i : Nat) (hi : i < xs.length) : zMq l E y_AL_remove c_AL_remove 4 (some (.object "java/lang/Object")) rm_AL_remove [.ref a, .int (nI i)] G (fun (r : Option Nat) (G2 : zg_G) => r = some (xs[i]) ∧ zL E G2 a dd (xs.take i ++ xs.drop (i + 1)) ∧ zx (fun q => q = a ∨ q = dd) G G2) := by
  refine zMq.of (by decide) (Nat.le_of_ble_eq_true rfl) ?_
  intro p e s m args below meth c Q hZ hG hret ls hl
  obtain ⟨hx, hb, hr, hts, hown, hlocks, hml, hnm, hbase, hK, hN, hQ⟩ := hZ
  have hl : lv_has ls 4 [(0, .ref a), (1, .int (nI i))] := hl
  have hS : zg_S (zc_b E) s.heap s.heap [] := va_S.rf
  have hx0 : zx (fun q => q = a ∨ q = dd) G G := zx.rf
  refine lv_iload_n hx hb d_AL_remove_0 rfl (lv_at hl 1 rfl) ?_
  refine lv_aload_n hx hb d_AL_remove_1 rfl (lv_at hl 0 rfl) ?_
  refine zg_get (ci := 0) (C := "java/util/ArrayList") (T := T_AL) (N := 3) hx hb hts zi_AL hown hK hG ha rfl 1 (by decide) (hts _ w_80) (fun _ h9 => h9) rfl d_AL_remove_2 ?_
  refine zk_i (va_runS (As := [.int (nI i), .int (nI xs.length)]) (rest := []) ⟨hx, hb, hml, hown, hts⟩ (t_Ob_checkIndex l E G i xs.length hi (by omega)) (zcS 2 hts w_167 w_168 w_9 w_169 (by decide +kernel) ⟨Nat.le_of_ble_eq_true rfl, Nat.le_of_ble_eq_true rfl⟩) (zc_pre hbase hK hN hQ hG hS) rfl rfl hl.1 rfl (lv_room (Nat.le_of_ble_eq_true rfl)) d_AL_remove_5 ⟨(by decide), (by decide)⟩) hS (fun r5 G5 H locs hp5 hG hS => ?_)
  have hG : zP E G H := hp5.2 ▸ hG
  refine zi_as (y := nI i) hp5.1 ?_
  refine lv_pop hx hb d_AL_remove_8 rfl ?_
  refine lv_aload_n hx hb d_AL_remove_9 rfl (lv_at hl 0 rfl) ?_
  refine zg_get (ci := 0) (C := "java/util/ArrayList") (T := T_AL) (N := 3) hx hb hts zi_AL hown hK hG ha rfl 0 (by decide) (hts _ w_79) (fun _ h9 => h9) rfl d_AL_remove_10 ?_
  refine lv_astore_n (lv' := [(2, .ref dd), (0, .ref a), (1, .int (nI i))]) hx hb d_AL_remove_13 rfl hl (by decide) rfl (fun ls hl => ?_)
  refine lv_aload_n hx hb d_AL_remove_14 rfl (lv_at hl 0 rfl) ?_
  refine lv_iload_n hx hb d_AL_remove_15 rfl (lv_at hl 2 rfl) ?_
  refine zg_aldq hx hb hK hG 3 hd rfl (vp_in_nI (by omega) (by omega)) d_AL_remove_16 ?_
  refine zr_as (y := f i) (by rw [zi_n _ (by omega)]) ?_
  refine zr_some (a := xs[i]) (by rw [hf i, List.getElem?_eq_getElem hi]) ?_
  refine lv_astore_n (lv' := [(3, .ref (xs[i])), (2, .ref dd), (0, .ref a), (1, .int (nI i))]) hx hb d_AL_remove_17 rfl hl (by decide) rfl (fun ls hl => ?_)
  refine lv_aload_n hx hb d_AL_remove_18 rfl (lv_at hl 2 rfl) ?_
  refine lv_aload_n hx hb d_AL_remove_19 rfl (lv_at hl 1 rfl) ?_
  refine lv_iload_n hx hb d_AL_remove_20 rfl (lv_at hl 3 rfl) ?_
  have hGo21 := hG
  refine zk_v (va_runV (As := [.ref dd, .int (nI i)]) (rest := []) ⟨hx, hb, hml, hown, hts⟩ (t_AL_fastRemove l E G a dd xs k cap f ha hd h0 hc hz hf hel i hi) (zcV 2 hts w_967 w_969 wp_12 w_6 w_970 (by decide +kernel) ⟨Nat.le_of_ble_eq_true rfl, Nat.le_of_ble_eq_true rfl⟩) (zc_preV hbase hK hN hQ hG hS ha rfl) rfl rfl hl.1 rfl (lv_room (Nat.le_of_ble_eq_true rfl)) d_AL_remove_21 ⟨(by decide), (by decide)⟩) hS (fun G21 H locs hp21 hG hS => ?_)
  refine lv_aload_n hx hb d_AL_remove_24 rfl (lv_at hl 0 rfl) ?_
  exact hret (some xs[i]) _ _ _ _ _ _ _ _ hr (Or.inl ⟨_, rfl⟩) (⟨rfl, hp21⟩) hG hS (Nat.le_refl _) (Nat.le_refl _) d_AL_remove_25
