theorem zup_none {G : zg_G} {a q : Nat} {e : va_E} (h : zg_up G a e q = none) : G q = none := by
  by_cases z : q = a
  · rw [z, zg_up_self] at h; cases h
  · rw [zg_up_ne z] at h; exact h
theorem zx.no {G G2 : zg_G} {q : Nat} (h : zx z0 G G2) (hq : G2 q = none) : G q = none := by
  cases e : G q with
  | none => rfl
  | some x => rw [h.o e] at hq; cases hq
theorem zL.keep {E : zc_E} {G G2 : zg_G} {x y b ci : Nat} {xs : List Nat} {fs : List Value} (h : zL E G x y xs) (hE : G (E.2.2.2 0) = none) (hx : zx (fun q => q = x ∨ q = y) G G2) (hb : G b = some (.inr (ci, fs))) (hc : ci ≠ 0) : G2 b = some (.inr (ci, fs)) := by
  obtain ⟨⟨k, h1⟩, h2⟩ := h
  refine hx b _ (fun z => ?_) hb
  rcases z with z | z
  · rw [z, h1] at hb; injection hb with hb; injection hb with hb; injection hb with hb _; exact hc hb.symm
  · rcases h2 with ⟨h2, -⟩ | ⟨cap, f, h2, -⟩
    · rw [z, h2, hE] at hb; cases hb
    · rw [z, h2] at hb; cases hb
theorem zZR.z {E : zc_E} {G G2 : zg_G} {r : zRo} {la dd : Nat} {os : List zOt} (h : zZR E G r la dd os) (hx : zx z0 G G2) (hE : G2 (E.2.2.2 0) = none) : zZR E G2 r la dd os := by
  have hk : zk r (fun _ => False) G G2 := zk.z hx
  have hq : ∀ e, G2 (E.2.2.2 0) = some e → False := fun e he => by rw [hE] at he; cases he
  exact ⟨h.1.go hk zro.rf hq id id, fun o ho => (h.2 o ho).go hk zro.rf hq id id id id id (fun _ _ => ⟨id, id⟩)⟩
theorem zZR.upz {E : zc_E} {G : zg_G} {r : zRo} {la dd a : Nat} {os : List zOt} {e : va_E} {x : va_E} (h : zZR E G r la dd os) (ha : G a = some x) (hr : r a = (1, 0)) (hE : G (E.2.2.2 0) = none) : zZR E (zg_up G a e) r la dd os := by
  have hk : zk r (fun k => k = (1, 0)) G (zg_up G a e) := zk.of (S := fun q => q = a) (zx.up rfl) (by rintro q y rfl _; exact hr)
  have hq : ∀ y, zg_up G a e (E.2.2.2 0) = some y → False := fun y hy => by rw [zg_up_ne (fun z => by rw [z, ha] at hE; cases hE), hE] at hy; cases hy
  exact ⟨h.1.go hk zro.rf hq (by simp) (by simp), fun o ho => (h.2 o ho).go hk zro.rf hq (by simp) (by simp) (by simp) (by simp) (by simp) (fun _ _ => ⟨by simp, by simp⟩)⟩
theorem t_Ow_findOrMake_t (l : Launch) {E : zc_E} {G : zg_G} {r : zRo} {o : zOt} (h : zOR E G r o) (hne : 0 < (oX o).length) (hn9 : (oX o).length < 2000) (B : Nat) (hB : 2 * (oX o).length + 10 ≤ B) (t : Int32) : zMq l E y_Ow_findOrMake c_Ow_findOrMake 3 (some (.object "ZoneAnswers$Rrset")) (rm_Ow_findOrMake_f B) [.ref (oA o), .int t] G (fun x G2 => ∃ i, i ≤ (oX o).length ∧ (∀ j, j < i → sT (oS o j) < t) ∧ (i < (oX o).length → ¬ sT (oS o i) < t) ∧ ((i < (oX o).length ∧ sT (oS o i) = t ∧ x = some (sA (oS o i)) ∧ G2 = G) ∨ ((i < (oX o).length → ¬ sT (oS o i) = t) ∧ ∃ (q b d2 : Nat), x = some q ∧ G q = none ∧ G b = none ∧ zL E G2 (oL o) d2 (((oX o).map sA).take i ++ q :: ((oX o).map sA).drop i) ∧ (d2 = oD o ∨ G d2 = none) ∧ zx (fun q => q = oL o ∨ q = oD o) G G2 ∧ G2 q = some (.inr (5, [.int t, .int 0, .ref b])) ∧ G2 b = some (.inr (0, [.ref (E.2.2.2 0), .int 0, .int 0]))))) := by
  have hel := h.els
  obtain ⟨h1, h2, h3, ⟨h4, h5, h6⟩, h7⟩ := h
  obtain ⟨k, cap, f, q1, q2, q3, q4, q5, q6⟩ := h4.un2 (by rw [List.length_map]; exact hne)
  have e9 : ∀ i, i < (oX o).length → ((oX o).map sA).getD i 0 = sA (oS o i) := fun i hi => by rw [List.getD_eq_getElem?_getD, oS_m hi]; rfl
  refine (t_Ow_findOrMake_f l E G (oA o) (oN o) (oL o) (oD o) (va_rf (oC o)) ((oX o).map sA) k cap f h1 q1 q2 q3 q4 q5 q6 (by rw [List.length_map]; exact hn9) B (by rw [List.length_map]; exact hB) hel (fun i => sT (oS o i)) (fun i => sU (oS o i)) (fun i => sL (oS o i)) (fun i hi => by rw [List.length_map] at hi; rw [e9 i hi]; exact (h7 _ (oS_mem hi)).1) t).imp (fun x G' q => ?_)
  obtain ⟨i, a1, a2, a3, a4⟩ := q
  rw [List.length_map] at a1 a3 a4
  refine ⟨i, a1, a2, a3, ?_⟩
  rcases a4 with ⟨b1, b2, b3, b4⟩ | a4
  · exact Or.inl ⟨b1, b2, by rw [b3, e9 i b1], b4⟩
  · exact Or.inr a4
theorem t_Ow_findOrMake_n (l : Launch) {E : zc_E} {G : zg_G} {r : zRo} {o : zOt} {k : Int32} (h : zOR E G r o) (h0 : oX o = []) (hla : G (oL o) = some (.inr (0, [.ref (E.2.2.2 0), .int 0, .int k]))) (hd : oD o = E.2.2.2 0) (t : Int32) : zMq l E y_Ow_findOrMake c_Ow_findOrMake 3 (some (.object "ZoneAnswers$Rrset")) rm_Ow_findOrMake_e [.ref (oA o), .int t] G (fun x G2 => ∃ (q b d2 : Nat), x = some q ∧ G q = none ∧ G b = none ∧ zL E G2 (oL o) d2 (((oX o).map sA).take 0 ++ q :: ((oX o).map sA).drop 0) ∧ (d2 = oD o ∨ G d2 = none) ∧ zx (fun q => q = oL o ∨ q = oD o) G G2 ∧ G2 q = some (.inr (5, [.int t, .int 0, .ref b])) ∧ G2 b = some (.inr (0, [.ref (E.2.2.2 0), .int 0, .int 0]))) := by
  refine (t_Ow_findOrMake_e l E G (oA o) (oN o) (oL o) (va_rf (oC o)) h.1 k hla t).imp (fun x G' q => ?_)
  obtain ⟨q, b, d, k2, cap, f, a1, a2, a3, a4, a5, a6, a7, a8, a9, a10, a11, a12, a13⟩ := q
  refine ⟨q, b, d, a1, a2, a3, ?_, Or.inr a4, a5.w (fun _ z => Or.inl z), a12, a13⟩
  rw [h0]
  exact ⟨⟨k2, a6⟩, Or.inr ⟨cap, f, a7, a8, a9, a10, a11⟩⟩
theorem w_964 : (.instanceMethod ⟨"java/util/ArrayList", "remove", "(I)Ljava/lang/Object;"⟩ : Cond) ∈ zw := zw_at 964 (by decide +kernel) (by decide +kernel)
theorem w_965 : (.selects "java/util/ArrayList" ⟨"java/util/ArrayList", "remove", "(I)Ljava/lang/Object;"⟩ ⟨"java/util/ArrayList", "remove", "(I)Ljava/lang/Object;"⟩ : Cond) ∈ zw := zw_at 965 (by decide +kernel) (by decide +kernel)
theorem w_966 : (.code ⟨"java/util/ArrayList", "remove", "(I)Ljava/lang/Object;"⟩ prog_35_method_29_code 4 (some (.object "java/lang/Object")) : Cond) ∈ zw := zw_at 966 (by decide +kernel) (by decide +kernel)
theorem w_979 : (.methodLink "ZoneAnswers$Owner" 47 ⟨"java/util/ArrayList", "remove", "(I)Ljava/lang/Object;"⟩ : Cond) ∈ zw := zw_at 979 (by decide +kernel) (by decide +kernel)
abbrev c_Ow_drop : ByteArray := prog_5_method_6_code
abbrev y_Ow_drop : MethodName := ⟨"ZoneAnswers$Owner", "drop", "(LZoneAnswers$Rrset;)V"⟩
theorem d_Ow_drop_0 : decode c_Ow_drop 0 = .ok (.iconst 0, 1) := by decide +kernel
theorem d_Ow_drop_1 : decode c_Ow_drop 1 = .ok (.istore_n 2, 1) := by decide +kernel
theorem d_Ow_drop_2 : decode c_Ow_drop 2 = .ok (.iload_n 2, 1) := by decide +kernel
theorem d_Ow_drop_3 : decode c_Ow_drop 3 = .ok (.aload_n 0, 1) := by decide +kernel
theorem d_Ow_drop_4 : decode c_Ow_drop 4 = .ok (.getfield 18, 3) := by decide +kernel
theorem d_Ow_drop_7 : decode c_Ow_drop 7 = .ok (.invokevirtual 26, 3) := by decide +kernel
theorem d_Ow_drop_10 : decode c_Ow_drop 10 = .ok (.if_icmp .ge 31, 3) := by decide +kernel
theorem d_Ow_drop_13 : decode c_Ow_drop 13 = .ok (.aload_n 0, 1) := by decide +kernel
theorem d_Ow_drop_14 : decode c_Ow_drop 14 = .ok (.getfield 18, 3) := by decide +kernel
theorem d_Ow_drop_17 : decode c_Ow_drop 17 = .ok (.iload_n 2, 1) := by decide +kernel
theorem d_Ow_drop_18 : decode c_Ow_drop 18 = .ok (.invokevirtual 30, 3) := by decide +kernel
theorem d_Ow_drop_21 : decode c_Ow_drop 21 = .ok (.aload_n 1, 1) := by decide +kernel
theorem d_Ow_drop_22 : decode c_Ow_drop 22 = .ok (.if_acmp .ne 13, 3) := by decide +kernel
theorem d_Ow_drop_25 : decode c_Ow_drop 25 = .ok (.aload_n 0, 1) := by decide +kernel
theorem d_Ow_drop_26 : decode c_Ow_drop 26 = .ok (.getfield 18, 3) := by decide +kernel
theorem d_Ow_drop_29 : decode c_Ow_drop 29 = .ok (.iload_n 2, 1) := by decide +kernel
theorem d_Ow_drop_30 : decode c_Ow_drop 30 = .ok (.invokevirtual 47, 3) := by decide +kernel
theorem d_Ow_drop_33 : decode c_Ow_drop 33 = .ok (.pop, 1) := by decide +kernel
theorem d_Ow_drop_34 : decode c_Ow_drop 34 = .ok (.return_, 1) := by decide +kernel
theorem d_Ow_drop_35 : decode c_Ow_drop 35 = .ok (.iinc 2 1, 3) := by decide +kernel
theorem d_Ow_drop_38 : decode c_Ow_drop 38 = .ok (.goto (-36), 3) := by decide +kernel
theorem d_Ow_drop_41 : decode c_Ow_drop 41 = .ok (.return_, 1) := by decide +kernel
set_option maxHeartbeats 4000000 in
set_option maxRecDepth 100000 in
/-- Zone.place(name), of a zone with no owners -/
theorem t_Zo_place_z (l : Launch) (E : zc_E) (G : zg_G) (a la : Nat) (tv sv dv : Value) (rc : Int32) (ha : G a = some (.inr (9, [.ref la, tv, sv, dv, .int rc]))) (lv : Value) (k : Int32) (hla : G la = some (.inr (0, [lv, .int 0, .int k]))) (x : Nat) : zMi l E y_Zo_place c_Zo_place 5 (some .int) rm_Zo_place [.ref a, .ref x] G (fun (r : Int32) (G2 : zg_G) => r = nI 0 ∧ G2 = G) := by
  refine zMi.of (by decide) (Nat.le_of_ble_eq_true rfl) ?_
  intro p e s m args below meth c Q hZ hG hret ls hl
  obtain ⟨hx, hb, hr, hts, hown, hlocks, hml, hnm, hbase, hK, hN, hQ⟩ := hZ
  have hl : lv_has ls 5 [(0, .ref a), (1, .ref x)] := hl
  have hS : zg_S (zc_b E) s.heap s.heap [] := va_S.rf
  refine lv_iconst (v := 0) hx hb d_Zo_place_0 (by decide) ?_
  refine lv_istore_n (lv' := [(2, .int 0), (0, .ref a), (1, .ref x)]) hx hb d_Zo_place_1 rfl hl (by decide) rfl (fun ls hl => ?_)
  refine lv_aload_n hx hb d_Zo_place_2 rfl (lv_at hl 1 rfl) ?_
  refine zg_get (ci := 9) (C := "ZoneAnswers$Zone") (T := T_Zo) (N := 5) hx hb hts zi_Zo hown hK hG ha rfl 0 (by decide) (hts _ w_91) (fun _ h9 => h9) rfl d_Zo_place_3 ?_
  refine zk_i (va_runV (As := []) (rest := []) ⟨hx, hb, hml, hown, hts⟩ (t_AL_size l E G la lv 0 k hla) (zcV 0 hts w_159 w_160 w_161 w_6 w_162 (by decide +kernel) ⟨Nat.le_of_ble_eq_true rfl, Nat.le_of_ble_eq_true rfl⟩) (zc_preV hbase hK hN hQ hG hS hla rfl) rfl rfl hl.1 rfl (lv_room (Nat.le_of_ble_eq_true rfl)) d_Zo_place_6 ⟨(by decide), (by decide)⟩) hS (fun r6 G6 H locs hp6 hG hS => ?_)
  have hG : zP E G H := hp6.2 ▸ hG
  refine zi_as (y := 0) hp6.1 ?_
  refine lv_istore_n (lv' := [(3, .int 0), (2, .int 0), (0, .ref a), (1, .ref x)]) hx hb d_Zo_place_9 rfl hl (by decide) rfl (fun ls hl => ?_)
  refine lv_iload_n hx hb d_Zo_place_10 rfl (lv_at hl 1 rfl) ?_
  refine lv_iload_n hx hb d_Zo_place_11 rfl (lv_at hl 0 rfl) ?_
  refine lv_icmp_ge (tgt := 58) hx hb d_Zo_place_12 (by decide) (fun c12 => ?_) (fun c12 => ?_)
  · have b12 : 0 ≤ 0 := (nI_leI (a := 0) (b := 0) (by omega) (by omega)).mp c12
    refine lv_iload_n hx hb d_Zo_place_58 rfl (lv_at hl 1 rfl) ?_
    exact hret _ _ _ _ _ _ _ _ _ hr (rfl) (⟨nI_0.symm, rfl⟩) hG hS (Nat.le_refl _) (Nat.le_refl _) d_Zo_place_59
  · have b12 : ¬ 0 ≤ 0 := fun q => c12 ((nI_leI (a := 0) (b := 0) (by omega) (by omega)).mpr q)
    exact absurd (Nat.le_refl 0) b12
set_option maxHeartbeats 4000000 in
set_option maxRecDepth 100000 in
/-- Zone.isAt(0, name), of a zone with no owners -/
theorem t_Zo_isAt_z (l : Launch) (E : zc_E) (G : zg_G) (a la : Nat) (tv sv dv : Value) (rc : Int32) (ha : G a = some (.inr (9, [.ref la, tv, sv, dv, .int rc]))) (lv : Value) (k : Int32) (hla : G la = some (.inr (0, [lv, .int 0, .int k]))) (x : Nat) : zMi l E y_Zo_isAt c_Zo_isAt 3 (some .boolean) rm_Zo_isAt [.ref a, .int (nI 0), .ref x] G (fun (r : Int32) (G2 : zg_G) => r = 0 ∧ G2 = G) := by
  refine zMi.of (by decide) (Nat.le_of_ble_eq_true rfl) ?_
  intro p e s m args below meth c Q hZ hG hret ls hl
  obtain ⟨hx, hb, hr, hts, hown, hlocks, hml, hnm, hbase, hK, hN, hQ⟩ := hZ
  have hl : lv_has ls 3 [(0, .ref a), (1, .int (nI 0)), (2, .ref x)] := hl
  have hS : zg_S (zc_b E) s.heap s.heap [] := va_S.rf
  refine lv_iload_n hx hb d_Zo_isAt_0 rfl (lv_at hl 1 rfl) ?_
  refine lv_aload_n hx hb d_Zo_isAt_1 rfl (lv_at hl 0 rfl) ?_
  refine zg_get (ci := 9) (C := "ZoneAnswers$Zone") (T := T_Zo) (N := 5) hx hb hts zi_Zo hown hK hG ha rfl 0 (by decide) (hts _ w_91) (fun _ h9 => h9) rfl d_Zo_isAt_2 ?_
  refine zk_i (va_runV (As := []) (rest := [.int (nI 0)]) ⟨hx, hb, hml, hown, hts⟩ (t_AL_size l E G la lv 0 k hla) (zcV 0 hts w_159 w_160 w_161 w_6 w_162 (by decide +kernel) ⟨Nat.le_of_ble_eq_true rfl, Nat.le_of_ble_eq_true rfl⟩) (zc_preV hbase hK hN hQ hG hS hla rfl) rfl rfl hl.1 rfl (lv_room (Nat.le_of_ble_eq_true rfl)) d_Zo_isAt_5 ⟨(by decide), (by decide)⟩) hS (fun r5 G5 H locs hp5 hG hS => ?_)
  have hG : zP E G H := hp5.2 ▸ hG
  refine zi_as (y := 0) hp5.1 ?_
  refine lv_icmp_ge (tgt := 36) hx hb d_Zo_isAt_8 (by decide) (fun c8 => ?_) (fun c8 => ?_)
  · have b8 : 0 ≤ 0 := (nI_leI (a := 0) (b := 0) (by omega) (by omega)).mp c8
    refine lv_iconst (v := 0) hx hb d_Zo_isAt_36 (by decide) ?_
    exact hret _ _ _ _ _ _ _ _ _ hr (rfl) (⟨rfl, rfl⟩) hG hS (Nat.le_refl _) (Nat.le_refl _) d_Zo_isAt_37
  · have b8 : ¬ 0 ≤ 0 := fun q => c8 ((nI_leI (a := 0) (b := 0) (by omega) (by omega)).mpr q)
    exact absurd (Nat.le_refl 0) b8
abbrev rm_Ow_drop : Room := { frames := 6, cells := 0, slots := 0, locals := 160 }
set_option maxHeartbeats 4000000 in
set_option maxRecDepth 100000 in
/-- Owner.drop(set) -/
theorem t_Ow_drop (l : Launch) (E : zc_E) (G : zg_G) (ro : zRo) (o : zOt) (hO : zOR E G ro o) (hol : (oX o).length < 2000) (i : Nat) (hi : i < (oX o).length) (hnn : ∀ j, j < i → sA (oS o j) ≠ sA (oS o i)) : zMv l E y_Ow_drop c_Ow_drop 3 rm_Ow_drop [.ref (oA o), .ref (sA (oS o i))] G (fun (G2 : zg_G) => zL E G2 (oL o) (oD o) (((oX o).map sA).take i ++ ((oX o).map sA).drop (i + 1)) ∧ zx (fun q => q = oL o ∨ q = oD o) G G2) := by
  refine zMv.of (by decide) (Nat.le_of_ble_eq_true rfl) ?_
  intro p e s m args below meth c Q hZ hG hret ls hl
  obtain ⟨hx, hb, hr, hts, hown, hlocks, hml, hnm, hbase, hK, hN, hQ⟩ := hZ
  have hl : lv_has ls 3 [(0, .ref (oA o)), (1, .ref (sA (oS o i)))] := hl
  have hS : zg_S (zc_b E) s.heap s.heap [] := va_S.rf
  obtain ⟨⟨⟨k9, hla⟩, -⟩, -⟩ := id hO.2.2.2.1
  rw [List.length_map] at hla
  refine lv_iconst (v := 0) hx hb d_Ow_drop_0 (by decide) ?_
  refine zi_as (y := nI 0) (nI_0.symm) ?_
  refine lv_istore_n (lv' := [(2, .int (nI 0)), (0, .ref (oA o)), (1, .ref (sA (oS o i)))]) hx hb d_Ow_drop_1 rfl hl (by decide) rfl (fun ls hl => ?_)
  have loop2 : ∀ (N : Nat) (j : Nat) (H : Heap) (locs : List Loc), (i - j) < N → (j ≤ i) → zP E G H → zg_S (zc_b E) s.heap H locs → ∀ (ls : Array Slot), lv_has ls 3 [(0, .ref (oA o)), (1, .ref (sA (oS o i))), (2, .int (nI j))] → W p l e rm_Ow_drop s m args below meth c H locs 0 0 Q (F0 m 2 ls []) := by
    intro N
    induction N with
    | zero =>
      intro j H locs hlt
      exact absurd hlt (Nat.not_lt_zero _)
    | succ N ih =>
      intro j H locs hlt hj hG hS ls hl
      refine lv_iload_n hx hb d_Ow_drop_2 rfl (lv_at hl 2 rfl) ?_
      refine lv_aload_n hx hb d_Ow_drop_3 rfl (lv_at hl 0 rfl) ?_
      refine zg_get (ci := 4) (C := "ZoneAnswers$Owner") (T := T_Ow) (N := 3) hx hb hts zi_Ow hown hK hG hO.1 rfl 1 (by decide) (hts _ w_207) (fun _ h9 => h9) rfl d_Ow_drop_4 ?_
      refine zk_i (va_runV (As := []) (rest := [.int (nI j)]) ⟨hx, hb, hml, hown, hts⟩ (t_AL_size l E G (oL o) (.ref (oD o)) (nI ((oX o).length)) k9 hla) (zcV 0 hts w_606 w_160 w_161 w_6 w_162 (by decide +kernel) ⟨Nat.le_of_ble_eq_true rfl, Nat.le_of_ble_eq_true rfl⟩) (zc_preV hbase hK hN hQ hG hS hla rfl) rfl rfl hl.1 rfl (lv_room (Nat.le_of_ble_eq_true rfl)) d_Ow_drop_7 ⟨(by decide), (by decide)⟩) hS (fun r7 G7 H locs hp7 hG hS => ?_)
      have hG : zP E G H := hp7.2 ▸ hG
      refine zi_as (y := nI ((oX o).length)) hp7.1 ?_
      refine lv_icmp_ge (tgt := 41) hx hb d_Ow_drop_10 (by decide) (fun c10 => ?_) (fun c10 => ?_)
      · have b10 : ((oX o).length) ≤ j := (nI_leI (a := ((oX o).length)) (b := j) (by omega) (by omega)).mp c10
        exact absurd b10 (by omega)
      · have b10 : ¬ ((oX o).length) ≤ j := fun q => c10 ((nI_leI (a := ((oX o).length)) (b := j) (by omega) (by omega)).mpr q)
        refine lv_aload_n hx hb d_Ow_drop_13 rfl (lv_at hl 0 rfl) ?_
        refine zg_get (ci := 4) (C := "ZoneAnswers$Owner") (T := T_Ow) (N := 3) hx hb hts zi_Ow hown hK hG hO.1 rfl 1 (by decide) (hts _ w_207) (fun _ h9 => h9) rfl d_Ow_drop_14 ?_
        refine lv_iload_n hx hb d_Ow_drop_17 rfl (lv_at hl 2 rfl) ?_
        have hGo18 := hG
        refine zk_q (va_runV (As := [.int (nI j)]) (rest := []) ⟨hx, hb, hml, hown, hts⟩ (t_AL_get_u l hO.2.2.2.1.1 j (by rw [List.length_map]; omega)) (zcV 1 hts w_607 w_164 w_165 w_6 w_166 (by decide +kernel) ⟨Nat.le_of_ble_eq_true rfl, Nat.le_of_ble_eq_true rfl⟩) (zc_preV hbase hK hN hQ hG hS hla rfl) rfl rfl hl.1 rfl (lv_room (Nat.le_of_ble_eq_true rfl)) d_Ow_drop_18 ⟨(by decide), (by decide)⟩) hS (fun r18 G18 H locs hp18 hG hS => ?_)
        have hG : zP E G H := hp18.2 ▸ hG
        refine zr_some (a := sA (oS o j)) (hp18.1.trans (oS_m (by omega))) ?_
        refine lv_aload_n hx hb d_Ow_drop_21 rfl (lv_at hl 1 rfl) ?_
        refine lv_acmp_ne (rx := (some (sA (oS o j)))) (ry := (some (sA (oS o i)))) (tgt := 35) hx hb d_Ow_drop_22 (by decide) (fun c22 => ?_) (fun c22 => ?_)
        · refine lv_iinc (v := nI (j + 1)) (lv' := [(2, .int (nI (j + 1))), (0, .ref (oA o)), (1, .ref (sA (oS o i)))]) hx hb d_Ow_drop_35 hl (k := 2) rfl (nI_add j 1) (by decide) rfl (fun ls hl => ?_)
          refine lv_goto (tgt := 2) hx hb d_Ow_drop_38 (by decide) ?_
          exact ih (j + 1) _ _ (by have hz9 : j ≠ i := fun z => c22 (by rw [z]); omega) (by have hz9 : j ≠ i := fun z => c22 (by rw [z]); omega) hG hS ls (lv_sub hl [1, 2, 0] rfl)
        · have ej : j = i := by
            rcases Nat.lt_or_ge j i with q | q
            · exact absurd (Option.some.inj c22) (hnn j q)
            · omega
          refine lv_aload_n hx hb d_Ow_drop_25 rfl (lv_at hl 0 rfl) ?_
          refine zg_get (ci := 4) (C := "ZoneAnswers$Owner") (T := T_Ow) (N := 3) hx hb hts zi_Ow hown hK hG hO.1 rfl 1 (by decide) (hts _ w_207) (fun _ h9 => h9) rfl d_Ow_drop_26 ?_
          refine lv_iload_n hx hb d_Ow_drop_29 rfl (lv_at hl 2 rfl) ?_
          have hGo30 := hG
          refine zk_q (va_runV (As := [.int (nI j)]) (rest := []) ⟨hx, hb, hml, hown, hts⟩ (t_AL_remove_u l hO.2.2.2.1.1 hO.els j (by rw [List.length_map]; omega)) (zcV 1 hts w_979 w_964 w_965 w_6 w_966 (by decide +kernel) ⟨Nat.le_of_ble_eq_true rfl, Nat.le_of_ble_eq_true rfl⟩) (zc_preV hbase hK hN hQ hG hS hla rfl) rfl rfl hl.1 rfl (lv_room (Nat.le_of_ble_eq_true rfl)) d_Ow_drop_30 ⟨(by decide), (by decide)⟩) hS (fun r30 G30 H locs hp30 hG hS => ?_)
          refine zr_some (a := _) hp30.1 ?_
          refine lv_pop hx hb d_Ow_drop_33 rfl ?_
          exact hret _ _ _ _ _ _ _ (by rw [← ej]; exact hp30.2) hG hS (Nat.le_refl _) (Nat.le_refl _) d_Ow_drop_34
  exact loop2 _ 0 _ _ (Nat.lt_succ_self _) (Nat.zero_le _) hG hS ls (lv_sub hl [1, 2, 0] rfl)
