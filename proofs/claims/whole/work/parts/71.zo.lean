
abbrev rm_Ow_findOrMake_f (B : Nat) : Room := { frames := 7, cells := 4, slots := B + 20, locals := 240 }
set_option maxHeartbeats 4000000 in
set_option maxRecDepth 100000 in
/-- Owner.findOrMake(type), of an owner with sets -/
theorem t_Ow_findOrMake_f (l : Launch) (E : zc_E) (G : zg_G) (a na la dd : Nat) (cv : Value) (xs : List Nat) (k : Int32) (cap : Nat) (f : Nat → Option Nat) (ha : G a = some (.inr (4, [.ref na, .ref la, cv]))) (hla : G la = some (.inr (0, [.ref dd, .int (nI xs.length), .int k]))) (hd : G dd = some (.inl (E.2.1 3, cap, .inr (.inr (.inr (.inr f)))))) (h0 : 0 < cap) (hc : xs.length ≤ cap) (hz : cap ≤ 4001) (hf : ∀ j, f j = xs[j]?) (hn9 : xs.length < 2000) (B : Nat) (hB : 2 * xs.length + 10 ≤ B) (hel : ∀ z ∈ xs, zel G z) (ty ti : Nat → Int32) (dx : Nat → Nat) (hrs : ∀ i, i < xs.length → G (xs.getD i 0) = some (.inr (5, [.int (ty i), .int (ti i), .ref (dx i)]))) (t : Int32) : zMq l E y_Ow_findOrMake c_Ow_findOrMake 3 (some (.object "ZoneAnswers$Rrset")) (rm_Ow_findOrMake_f B) [.ref a, .int t] G (fun (r : Option Nat) (G2 : zg_G) => ∃ i, i ≤ xs.length ∧ (∀ j, j < i → ty j < t) ∧ (i < xs.length → ¬ ty i < t) ∧ ((i < xs.length ∧ ty i = t ∧ r = some (xs.getD i 0) ∧ G2 = G) ∨ ((i < xs.length → ¬ ty i = t) ∧ ∃ (q b d2 : Nat), r = some q ∧ G q = none ∧ G b = none ∧ zL E G2 la d2 (xs.take i ++ q :: xs.drop i) ∧ (d2 = dd ∨ G d2 = none) ∧ zx (fun q => q = la ∨ q = dd) G G2 ∧ G2 q = some (.inr (5, [.int t, .int 0, .ref b])) ∧ G2 b = some (.inr (0, [.ref (E.2.2.2 0), .int 0, .int 0]))))) := by
  refine zMq.of (by decide) (Nat.le_of_ble_eq_true rfl) ?_
  intro p e s m args below meth c Q hZ hG hret ls hl
  obtain ⟨hx, hb, hr, hts, hown, hlocks, hml, hnm, hbase, hK, hN, hQ⟩ := hZ
  have hl : lv_has ls 3 [(0, .ref a), (1, .int t)] := hl
  have hS : zg_S (zc_b E) s.heap s.heap [] := va_S.rf
  have hx0 : zx (fun q => q = la ∨ q = dd) G G := zx.rf
  refine lv_iconst (v := 0) hx hb d_Ow_findOrMake_0 (by decide) ?_
  refine zi_as (y := nI 0) (nI_0.symm) ?_
  refine lv_istore_n (lv' := [(2, .int (nI 0)), (0, .ref a), (1, .int t)]) hx hb d_Ow_findOrMake_1 rfl hl (by decide) rfl (fun ls hl => ?_)
  have loop2 : ∀ (N : Nat) (i : Nat) (H : Heap) (locs : List Loc), (xs.length - i) < N → (i ≤ xs.length) → (∀ j, j < i → ty j < t) → zP E G H → zg_S (zc_b E) s.heap H locs → ∀ (ls : Array Slot), lv_has ls 3 [(0, .ref a), (1, .int t), (2, .int (nI i))] → W p l e (rm_Ow_findOrMake_f B) s m args below meth c H locs 0 0 Q (F0 m 2 ls []) := by
    intro N
    induction N with
    | zero =>
      intro i H locs hlt
      exact absurd hlt (Nat.not_lt_zero _)
    | succ N ih =>
      intro i H locs hlt hi hlow hG hS ls hl
      refine lv_iload_n hx hb d_Ow_findOrMake_2 rfl (lv_at hl 2 rfl) ?_
      refine lv_aload_n hx hb d_Ow_findOrMake_3 rfl (lv_at hl 0 rfl) ?_
      refine zg_get (ci := 4) (C := "ZoneAnswers$Owner") (T := T_Ow) (N := 3) hx hb hts zi_Ow hown hK hG ha rfl 1 (by decide) (hts _ w_207) (fun _ h9 => h9) rfl d_Ow_findOrMake_4 ?_
      refine zk_i (va_runV (As := []) (rest := [.int (nI i)]) ⟨hx, hb, hml, hown, hts⟩ (t_AL_size l E G la (.ref dd) (nI xs.length) k hla) (zcV 0 hts w_606 w_160 w_161 w_6 w_162 (by decide +kernel) ⟨Nat.le_of_ble_eq_true rfl, Nat.le_of_ble_eq_true rfl⟩) (zc_preV hbase hK hN hQ hG hS hla rfl) rfl rfl hl.1 rfl (lv_room (Nat.le_of_ble_eq_true rfl)) d_Ow_findOrMake_7 ⟨(by dsimp only; omega), (by dsimp only; omega)⟩) hS (fun r7 G7 H locs hp7 hG hS => ?_)
      have hG : zP E G H := hp7.2 ▸ hG
      refine zi_as (y := nI xs.length) hp7.1 ?_
      refine lv_icmp_ge (tgt := 37) hx hb d_Ow_findOrMake_10 (by decide) (fun c10 => ?_) (fun c10 => ?_)
      · have b10 : xs.length ≤ i := (nI_leI (a := xs.length) (b := i) (by omega) (by omega)).mp c10
        have hupp : i < xs.length → ¬ ty i < t := fun q => absurd q (by omega)
        refine lv_iload_n hx hb d_Ow_findOrMake_37 rfl (lv_at hl 2 rfl) ?_
        refine lv_aload_n hx hb d_Ow_findOrMake_38 rfl (lv_at hl 0 rfl) ?_
        refine zg_get (ci := 4) (C := "ZoneAnswers$Owner") (T := T_Ow) (N := 3) hx hb hts zi_Ow hown hK hG ha rfl 1 (by decide) (hts _ w_207) (fun _ h9 => h9) rfl d_Ow_findOrMake_39 ?_
        refine zk_i (va_runV (As := []) (rest := [.int (nI i)]) ⟨hx, hb, hml, hown, hts⟩ (t_AL_size l E G la (.ref dd) (nI xs.length) k hla) (zcV 0 hts w_606 w_160 w_161 w_6 w_162 (by decide +kernel) ⟨Nat.le_of_ble_eq_true rfl, Nat.le_of_ble_eq_true rfl⟩) (zc_preV hbase hK hN hQ hG hS hla rfl) rfl rfl hl.1 rfl (lv_room (Nat.le_of_ble_eq_true rfl)) d_Ow_findOrMake_42 ⟨(by dsimp only; omega), (by dsimp only; omega)⟩) hS (fun r42 G42 H locs hp42 hG hS => ?_)
        have hG : zP E G H := hp42.2 ▸ hG
        refine zi_as (y := nI xs.length) hp42.1 ?_
        refine lv_icmp_eq (tgt := 66) hx hb d_Ow_findOrMake_45 (by decide) (fun c45 => ?_) (fun c45 => ?_)
        · have b45 : i = xs.length := (nI_eq (a := i) (b := xs.length) (by omega) (by omega)).mp c45
          have hnew : i < xs.length → ¬ ty i = t := fun q => absurd q (by omega)
          refine lv_aload_n hx hb d_Ow_findOrMake_66 rfl (lv_at hl 0 rfl) ?_
          refine zg_get (ci := 4) (C := "ZoneAnswers$Owner") (T := T_Ow) (N := 3) hx hb hts zi_Ow hown hK hG ha rfl 1 (by decide) (hts _ w_207) (fun _ h9 => h9) rfl d_Ow_findOrMake_67 ?_
          refine lv_iload_n hx hb d_Ow_findOrMake_70 rfl (lv_at hl 2 rfl) ?_
          refine zg_new (ci := 5) (fs := [.int 0, .int 0, .null]) (C := "ZoneAnswers$Rrset") (T := T_Rr) (N := 3) hx hb hts zi_Rr t_Rr t_Rr_ok hown (hts _ w_608) (hts _ w_609) (hts _ w_27) hK hG hS hbase rfl (fun j hj => by rcases (show j = 0 ∨ j = 1 ∨ j = 2 by omega) with rfl | rfl | rfl <;> rfl) (by dsimp only; omega) (by dsimp only; omega) d_Ow_findOrMake_71 (fun q71 H n71 hG hS => ?_)
          obtain ⟨G1, eG1⟩ : ∃ z : zg_G, z = zg_up G q71 (.inr (5, [.int 0, .int 0, .null])) := ⟨_, rfl⟩
          have hG : zP E G1 H := by rw [eG1]; exact hG
          have hx2 : zx (fun q => q = la ∨ q = dd) G G1 := hxl.tr (by rw [eG1]; exact zx.nw n71)
          have ne71_a : a ≠ q71 := zg_fr n71 ha
          have k3 : G1 a = some (.inr (4, [.ref na, .ref la, cv])) := by rw [eG1, zg_up_ne (zg_fr n71 ha)]; exact ha
          have ne71_la : la ≠ q71 := zg_fr n71 hla
          have k4 : G1 la = some (.inr (0, [.ref dd, .int (nI xs.length), .int k])) := by rw [eG1, zg_up_ne (zg_fr n71 hla)]; exact hla
          have ne71_dd : dd ≠ q71 := zg_fr n71 hd
          have k5 : G1 dd = some (.inl (E.2.1 3, cap, .inr (.inr (.inr (.inr f))))) := by rw [eG1, zg_up_ne (zg_fr n71 hd)]; exact hd
          have ne71_xs_getD_i_0 : xs.getD i 0 ≠ q71 := zg_fr n71 (hrs i hin)
          have k6 : G1 (xs.getD i 0) = some (.inr (5, [.int (ty i), .int (ti i), .ref (dx i)])) := by rw [eG1, zg_up_ne (zg_fr n71 (hrs i hin))]; exact (hrs i hin)
          have k7 : G1 q71 = some (.inr (5, [.int 0, .int 0, .null])) := by rw [eG1]; exact zg_up_self _ _ _
          refine lv_dup hx hb d_Ow_findOrMake_74 rfl ?_
          refine lv_iload_n hx hb d_Ow_findOrMake_75 rfl (lv_at hl 1 rfl) ?_
          have hGo76 := hG
          refine zk_v (va_runI (As := [.int t]) (rest := [.ref q71, .int (nI i), .ref la]) ⟨hx, hb, hml, hown, hts⟩ (t_Rr_init l E G1 q71 t k7) (zcI 1 hts w_610 w_611 w_27 w_612 rfl (by decide +kernel) ⟨Nat.le_of_ble_eq_true rfl, Nat.le_of_ble_eq_true rfl⟩) (zc_pre hbase hK hN hQ hG hS) rfl rfl hl.1 rfl (lv_room (Nat.le_of_ble_eq_true rfl)) d_Ow_findOrMake_76 ⟨(by dsimp only; omega), (by dsimp only; omega)⟩) hS (fun G76 H locs hp76 hG hS => ?_)
          obtain ⟨bq, nbq, ebq⟩ := hp76
          obtain ⟨G8, eG8⟩ : ∃ z : zg_G, z = zg_up G1 bq (.inr (0, [.ref (E.2.2.2 0), .int 0, .int 0])) := ⟨_, rfl⟩
          rw [← eG8] at ebq
          have nf_bq : G bq = none := zx.fr hx2 nbq (fun h => by rcases h with h | h <;> (have n9 := nbq; rw [h] at n9; first | (rw [k4] at n9; cases n9) | (rw [k5] at n9; cases n9)))
          have ne_bq_a : a ≠ bq := zg_fr nbq k3
          have k9 : G8 a = some (.inr (4, [.ref na, .ref la, cv])) := by rw [eG8, zg_up_ne ne_bq_a]; exact k3
          have ne_bq_la : la ≠ bq := zg_fr nbq k4
          have k10 : G8 la = some (.inr (0, [.ref dd, .int (nI xs.length), .int k])) := by rw [eG8, zg_up_ne ne_bq_la]; exact k4
          have ne_bq_dd : dd ≠ bq := zg_fr nbq k5
          have k11 : G8 dd = some (.inl (E.2.1 3, cap, .inr (.inr (.inr (.inr f))))) := by rw [eG8, zg_up_ne ne_bq_dd]; exact k5
          have ne_bq_xs_getD_i_0 : xs.getD i 0 ≠ bq := zg_fr nbq k6
          have k12 : G8 (xs.getD i 0) = some (.inr (5, [.int (ty i), .int (ti i), .ref (dx i)])) := by rw [eG8, zg_up_ne ne_bq_xs_getD_i_0]; exact k6
          have ne_bq_q71 : q71 ≠ bq := zg_fr nbq k7
          have k13 : G8 q71 = some (.inr (5, [.int 0, .int 0, .null])) := by rw [eG8, zg_up_ne ne_bq_q71]; exact k7
          have k14 : G8 bq = some (.inr (0, [.ref (E.2.2.2 0), .int 0, .int 0])) := by rw [eG8]; exact zg_up_self _ _ _
          have hx15 : zx (fun q => q = la ∨ q = dd) G G8 := hx2.tr (by rw [eG8]; exact zx.nw nbq)
          have hx16 : zx (fun q => q = la ∨ q = dd) G G76 := by rw [ebq]; exact hx15.upn n71
          have k17 : G76 a = some (.inr (4, [.ref na, .ref la, cv])) := by rw [ebq, zg_up_ne (ne71_a)]; exact k9
          have k18 : G76 la = some (.inr (0, [.ref dd, .int (nI xs.length), .int k])) := by rw [ebq, zg_up_ne (ne71_la)]; exact k10
          have k19 : G76 dd = some (.inl (E.2.1 3, cap, .inr (.inr (.inr (.inr f))))) := by rw [ebq, zg_up_ne (ne71_dd)]; exact k11
          have k20 : G76 (xs.getD i 0) = some (.inr (5, [.int (ty i), .int (ti i), .ref (dx i)])) := by rw [ebq, zg_up_ne (ne71_xs_getD_i_0)]; exact k12
          have k21 : G76 q71 = some (.inr (5, [.int t, .int 0, .ref bq])) := by rw [ebq]; exact zg_up_self _ _ _
          have k22 : G76 bq = some (.inr (0, [.ref (E.2.2.2 0), .int 0, .int 0])) := by rw [ebq, zg_up_ne (Ne.symm ne_bq_q71)]; exact k14
          have hGo79 := hG
          refine zk_v (va_runV (As := [.int (nI i), .ref q71]) (rest := []) ⟨hx, hb, hml, hown, hts⟩ (t_AL_add l E G76 la dd xs ⟨⟨k, k18⟩, Or.inr ⟨cap, f, k19, h0, hc, hz, hf⟩⟩ q71 ⟨5, _, k21, Or.inr (Or.inr (Or.inl rfl))⟩ hn9 B hB (fun z hz => by obtain ⟨j, hj, e⟩ := List.getElem_of_mem hz; obtain ⟨ci, fs, q1, q2⟩ := hel z hz; exact ⟨ci, fs, hx16 z _ (fun z9 => z9.elim (zg_ne q1 hla (by rcases q2 with rfl | rfl | rfl | rfl <;> (intro h; cases h))) (zg_ne q1 hd (by intro h; cases h))) q1, q2⟩) i hi) (zcV 2 hts w_636 w_221 w_222 w_6 w_223 (by decide +kernel) ⟨Nat.le_of_ble_eq_true rfl, Nat.le_of_ble_eq_true rfl⟩) (zc_preV hbase hK hN hQ hG hS k18 rfl) rfl rfl hl.1 rfl (lv_room (Nat.le_of_ble_eq_true rfl)) d_Ow_findOrMake_79 ⟨(by dsimp only; omega), (by dsimp only; omega)⟩) hS (fun G79 H locs hp79 hG hS => ?_)
          obtain ⟨d2, hL2, hd2, hx79⟩ := hp79
          have hd3 : d2 = dd ∨ G d2 = none := hd2.imp id (fun z => zx.fr hx16 z (fun h => by rcases h with h | h <;> (have n9 := z; rw [h] at n9; first | (rw [k18] at n9; cases n9) | (rw [k19] at n9; cases n9))))
          obtain ⟨k2, cap2, f2, hl2, hdd2, h02, hc2, hz2, hf2⟩ := hL2.un2 (by rw [zf_len hi]; omega)
          rw [zf_len hi] at hl2 hc2
          have k23 : G79 a = some (.inr (4, [.ref na, .ref la, cv])) := hx79 a _ (fun z => z.elim (zg_ne k17 k18 (by intro h; simp at h)) (zg_ne k17 k19 (by intro h; simp at h))) k17
          have k24 : G79 (xs.getD i 0) = some (.inr (5, [.int (ty i), .int (ti i), .ref (dx i)])) := hx79 (xs.getD i 0) _ (fun z => z.elim (zg_ne k20 k18 (by intro h; simp at h)) (zg_ne k20 k19 (by intro h; simp at h))) k20
          have k25 : G79 q71 = some (.inr (5, [.int t, .int 0, .ref bq])) := hx79 q71 _ (fun z => z.elim (Ne.symm ne71_la) (Ne.symm ne71_dd)) k21
          have k26 : G79 bq = some (.inr (0, [.ref (E.2.2.2 0), .int 0, .int 0])) := hx79 bq _ (fun z => z.elim (Ne.symm ne_bq_la) (Ne.symm ne_bq_dd)) k22
          have hx27 : zx (fun q => q = la ∨ q = dd) G G79 := fun q x hs hq => hx79 q x (fun z => z.elim (fun z => absurd (show (fun q => q = la ∨ q = dd) q from by subst z; exact Or.inl rfl) hs) (fun z => absurd (show (fun q => q = la ∨ q = dd) q from by subst z; exact Or.inr rfl) hs)) (hx16 q x hs hq)
          refine lv_aload_n hx hb d_Ow_findOrMake_82 rfl (lv_at hl 0 rfl) ?_
          refine zg_get (ci := 4) (C := "ZoneAnswers$Owner") (T := T_Ow) (N := 3) hx hb hts zi_Ow hown hK hG k23 rfl 1 (by decide) (hts _ w_207) (fun _ h9 => h9) rfl d_Ow_findOrMake_83 ?_
          refine lv_iload_n hx hb d_Ow_findOrMake_86 rfl (lv_at hl 2 rfl) ?_
          have hGo87 := hG
          refine zk_q (va_runV (As := [.int (nI i)]) (rest := []) ⟨hx, hb, hml, hown, hts⟩ (t_AL_get l E G79 la d2 (xs.length + 1) cap2 k2 f2 hl2 hdd2 hc2 (by omega) i (by omega)) (zcV 1 hts w_607 w_164 w_165 w_6 w_166 (by decide +kernel) ⟨Nat.le_of_ble_eq_true rfl, Nat.le_of_ble_eq_true rfl⟩) (zc_preV hbase hK hN hQ hG hS hl2 rfl) rfl rfl hl.1 rfl (lv_room (Nat.le_of_ble_eq_true rfl)) d_Ow_findOrMake_87 ⟨(by dsimp only; omega), (by dsimp only; omega)⟩) hS (fun r87 G87 H locs hp87 hG hS => ?_)
          have hG : zP E G79 H := hp87.2 ▸ hG
          refine zr_some (a := q71) (hp87.1.trans ((hf2 i).trans (zl_ins hi))) ?_
          refine zg_castY hx hb hown (hts _ w_608) hK hG k25 rfl (zN.at hN (w := .castable "ZoneAnswers$Rrset" "ZoneAnswers$Rrset") (by decide +kernel)) d_Ow_findOrMake_90 ?_
          exact hret (some q71) _ _ _ _ _ _ _ _ hr (Or.inl ⟨_, rfl⟩) (⟨i, hi, hlow, hupp, Or.inr ⟨hnew, q71, bq, d2, rfl, n71, nf_bq, hL2, hd3, hx27, k25, k26⟩⟩) hG hS (by dsimp only; omega) (by dsimp only; omega) d_Ow_findOrMake_93
        · have b45 : ¬ i = xs.length := fun q => c45 ((nI_eq (a := i) (b := xs.length) (by omega) (by omega)).mpr q)
          have hin : i < xs.length := by omega
          refine lv_aload_n hx hb d_Ow_findOrMake_48 rfl (lv_at hl 0 rfl) ?_
          refine zg_get (ci := 4) (C := "ZoneAnswers$Owner") (T := T_Ow) (N := 3) hx hb hts zi_Ow hown hK hG ha rfl 1 (by decide) (hts _ w_207) (fun _ h9 => h9) rfl d_Ow_findOrMake_49 ?_
          refine lv_iload_n hx hb d_Ow_findOrMake_52 rfl (lv_at hl 2 rfl) ?_
          have hGo53 := hG
          refine zk_q (va_runV (As := [.int (nI i)]) (rest := []) ⟨hx, hb, hml, hown, hts⟩ (t_AL_get l E G la dd xs.length cap k f hla hd hc (by omega) i hin) (zcV 1 hts w_607 w_164 w_165 w_6 w_166 (by decide +kernel) ⟨Nat.le_of_ble_eq_true rfl, Nat.le_of_ble_eq_true rfl⟩) (zc_preV hbase hK hN hQ hG hS hla rfl) rfl rfl hl.1 rfl (lv_room (Nat.le_of_ble_eq_true rfl)) d_Ow_findOrMake_53 ⟨(by dsimp only; omega), (by dsimp only; omega)⟩) hS (fun r53 G53 H locs hp53 hG hS => ?_)
          have hG : zP E G H := hp53.2 ▸ hG
          refine zr_some (a := xs.getD i 0) (hp53.1.trans ((hf i).trans (zl_at hin))) ?_
          refine zg_castY hx hb hown (hts _ w_608) hK hG (hrs i hin) rfl (zN.at hN (w := .castable "ZoneAnswers$Rrset" "ZoneAnswers$Rrset") (by decide +kernel)) d_Ow_findOrMake_56 ?_
          refine zg_get (ci := 5) (C := "ZoneAnswers$Rrset") (T := T_Rr) (N := 3) hx hb hts zi_Rr hown hK hG (hrs i hin) rfl 0 (by decide) (hts _ w_617) (fun _ h9 => h9) rfl d_Ow_findOrMake_59 ?_
          refine lv_iload_n hx hb d_Ow_findOrMake_62 rfl (lv_at hl 1 rfl) ?_
          refine lv_icmp_eq (tgt := 82) hx hb d_Ow_findOrMake_63 (by decide) (fun c63 => ?_) (fun c63 => ?_)
          · have heq : ty i = t := c63
            refine lv_aload_n hx hb d_Ow_findOrMake_82 rfl (lv_at hl 0 rfl) ?_
            refine zg_get (ci := 4) (C := "ZoneAnswers$Owner") (T := T_Ow) (N := 3) hx hb hts zi_Ow hown hK hG ha rfl 1 (by decide) (hts _ w_207) (fun _ h9 => h9) rfl d_Ow_findOrMake_83 ?_
            refine lv_iload_n hx hb d_Ow_findOrMake_86 rfl (lv_at hl 2 rfl) ?_
            have hGo87 := hG
            refine zk_q (va_runV (As := [.int (nI i)]) (rest := []) ⟨hx, hb, hml, hown, hts⟩ (t_AL_get l E G la dd xs.length cap k f hla hd hc (by omega) i hin) (zcV 1 hts w_607 w_164 w_165 w_6 w_166 (by decide +kernel) ⟨Nat.le_of_ble_eq_true rfl, Nat.le_of_ble_eq_true rfl⟩) (zc_preV hbase hK hN hQ hG hS hla rfl) rfl rfl hl.1 rfl (lv_room (Nat.le_of_ble_eq_true rfl)) d_Ow_findOrMake_87 ⟨(by dsimp only; omega), (by dsimp only; omega)⟩) hS (fun r87 G87 H locs hp87 hG hS => ?_)
            have hG : zP E G H := hp87.2 ▸ hG
            refine zr_some (a := xs.getD i 0) (hp87.1.trans ((hf i).trans (zl_at hin))) ?_
            refine zg_castY hx hb hown (hts _ w_608) hK hG (hrs i hin) rfl (zN.at hN (w := .castable "ZoneAnswers$Rrset" "ZoneAnswers$Rrset") (by decide +kernel)) d_Ow_findOrMake_90 ?_
            exact hret (some (xs.getD i 0)) _ _ _ _ _ _ _ _ hr (Or.inl ⟨_, rfl⟩) (⟨i, hi, hlow, hupp, Or.inl ⟨hin, heq, rfl, rfl⟩⟩) hG hS (by dsimp only; omega) (by dsimp only; omega) d_Ow_findOrMake_93
          · have hnew : i < xs.length → ¬ ty i = t := fun _ => c63
            refine lv_aload_n hx hb d_Ow_findOrMake_66 rfl (lv_at hl 0 rfl) ?_
            refine zg_get (ci := 4) (C := "ZoneAnswers$Owner") (T := T_Ow) (N := 3) hx hb hts zi_Ow hown hK hG ha rfl 1 (by decide) (hts _ w_207) (fun _ h9 => h9) rfl d_Ow_findOrMake_67 ?_
            refine lv_iload_n hx hb d_Ow_findOrMake_70 rfl (lv_at hl 2 rfl) ?_
            refine zg_new (ci := 5) (fs := [.int 0, .int 0, .null]) (C := "ZoneAnswers$Rrset") (T := T_Rr) (N := 3) hx hb hts zi_Rr t_Rr t_Rr_ok hown (hts _ w_608) (hts _ w_609) (hts _ w_27) hK hG hS hbase rfl (fun j hj => by rcases (show j = 0 ∨ j = 1 ∨ j = 2 by omega) with rfl | rfl | rfl <;> rfl) (by dsimp only; omega) (by dsimp only; omega) d_Ow_findOrMake_71 (fun q71 H n71 hG hS => ?_)
            obtain ⟨G28, eG28⟩ : ∃ z : zg_G, z = zg_up G q71 (.inr (5, [.int 0, .int 0, .null])) := ⟨_, rfl⟩
            have hG : zP E G28 H := by rw [eG28]; exact hG
            have hx29 : zx (fun q => q = la ∨ q = dd) G G28 := hxl.tr (by rw [eG28]; exact zx.nw n71)
            have ne71_a : a ≠ q71 := zg_fr n71 ha
            have k30 : G28 a = some (.inr (4, [.ref na, .ref la, cv])) := by rw [eG28, zg_up_ne (zg_fr n71 ha)]; exact ha
            have ne71_la : la ≠ q71 := zg_fr n71 hla
            have k31 : G28 la = some (.inr (0, [.ref dd, .int (nI xs.length), .int k])) := by rw [eG28, zg_up_ne (zg_fr n71 hla)]; exact hla
            have ne71_dd : dd ≠ q71 := zg_fr n71 hd
            have k32 : G28 dd = some (.inl (E.2.1 3, cap, .inr (.inr (.inr (.inr f))))) := by rw [eG28, zg_up_ne (zg_fr n71 hd)]; exact hd
            have ne71_xs_getD_i_0 : xs.getD i 0 ≠ q71 := zg_fr n71 (hrs i hin)
            have k33 : G28 (xs.getD i 0) = some (.inr (5, [.int (ty i), .int (ti i), .ref (dx i)])) := by rw [eG28, zg_up_ne (zg_fr n71 (hrs i hin))]; exact (hrs i hin)
            have k34 : G28 q71 = some (.inr (5, [.int 0, .int 0, .null])) := by rw [eG28]; exact zg_up_self _ _ _
            refine lv_dup hx hb d_Ow_findOrMake_74 rfl ?_
            refine lv_iload_n hx hb d_Ow_findOrMake_75 rfl (lv_at hl 1 rfl) ?_
            have hGo76 := hG
            refine zk_v (va_runI (As := [.int t]) (rest := [.ref q71, .int (nI i), .ref la]) ⟨hx, hb, hml, hown, hts⟩ (t_Rr_init l E G28 q71 t k34) (zcI 1 hts w_610 w_611 w_27 w_612 rfl (by decide +kernel) ⟨Nat.le_of_ble_eq_true rfl, Nat.le_of_ble_eq_true rfl⟩) (zc_pre hbase hK hN hQ hG hS) rfl rfl hl.1 rfl (lv_room (Nat.le_of_ble_eq_true rfl)) d_Ow_findOrMake_76 ⟨(by dsimp only; omega), (by dsimp only; omega)⟩) hS (fun G76 H locs hp76 hG hS => ?_)
            obtain ⟨bq, nbq, ebq⟩ := hp76
            obtain ⟨G35, eG35⟩ : ∃ z : zg_G, z = zg_up G28 bq (.inr (0, [.ref (E.2.2.2 0), .int 0, .int 0])) := ⟨_, rfl⟩
            rw [← eG35] at ebq
            have nf_bq : G bq = none := zx.fr hx29 nbq (fun h => by rcases h with h | h <;> (have n9 := nbq; rw [h] at n9; first | (rw [k31] at n9; cases n9) | (rw [k32] at n9; cases n9)))
            have ne_bq_a : a ≠ bq := zg_fr nbq k30
            have k36 : G35 a = some (.inr (4, [.ref na, .ref la, cv])) := by rw [eG35, zg_up_ne ne_bq_a]; exact k30
            have ne_bq_la : la ≠ bq := zg_fr nbq k31
            have k37 : G35 la = some (.inr (0, [.ref dd, .int (nI xs.length), .int k])) := by rw [eG35, zg_up_ne ne_bq_la]; exact k31
            have ne_bq_dd : dd ≠ bq := zg_fr nbq k32
            have k38 : G35 dd = some (.inl (E.2.1 3, cap, .inr (.inr (.inr (.inr f))))) := by rw [eG35, zg_up_ne ne_bq_dd]; exact k32
            have ne_bq_xs_getD_i_0 : xs.getD i 0 ≠ bq := zg_fr nbq k33
            have k39 : G35 (xs.getD i 0) = some (.inr (5, [.int (ty i), .int (ti i), .ref (dx i)])) := by rw [eG35, zg_up_ne ne_bq_xs_getD_i_0]; exact k33
            have ne_bq_q71 : q71 ≠ bq := zg_fr nbq k34
            have k40 : G35 q71 = some (.inr (5, [.int 0, .int 0, .null])) := by rw [eG35, zg_up_ne ne_bq_q71]; exact k34
            have k41 : G35 bq = some (.inr (0, [.ref (E.2.2.2 0), .int 0, .int 0])) := by rw [eG35]; exact zg_up_self _ _ _
            have hx42 : zx (fun q => q = la ∨ q = dd) G G35 := hx29.tr (by rw [eG35]; exact zx.nw nbq)
            have hx43 : zx (fun q => q = la ∨ q = dd) G G76 := by rw [ebq]; exact hx42.upn n71
            have k44 : G76 a = some (.inr (4, [.ref na, .ref la, cv])) := by rw [ebq, zg_up_ne (ne71_a)]; exact k36
            have k45 : G76 la = some (.inr (0, [.ref dd, .int (nI xs.length), .int k])) := by rw [ebq, zg_up_ne (ne71_la)]; exact k37
            have k46 : G76 dd = some (.inl (E.2.1 3, cap, .inr (.inr (.inr (.inr f))))) := by rw [ebq, zg_up_ne (ne71_dd)]; exact k38
            have k47 : G76 (xs.getD i 0) = some (.inr (5, [.int (ty i), .int (ti i), .ref (dx i)])) := by rw [ebq, zg_up_ne (ne71_xs_getD_i_0)]; exact k39
            have k48 : G76 q71 = some (.inr (5, [.int t, .int 0, .ref bq])) := by rw [ebq]; exact zg_up_self _ _ _
            have k49 : G76 bq = some (.inr (0, [.ref (E.2.2.2 0), .int 0, .int 0])) := by rw [ebq, zg_up_ne (Ne.symm ne_bq_q71)]; exact k41
            have hGo79 := hG
            refine zk_v (va_runV (As := [.int (nI i), .ref q71]) (rest := []) ⟨hx, hb, hml, hown, hts⟩ (t_AL_add l E G76 la dd xs ⟨⟨k, k45⟩, Or.inr ⟨cap, f, k46, h0, hc, hz, hf⟩⟩ q71 ⟨5, _, k48, Or.inr (Or.inr (Or.inl rfl))⟩ hn9 B hB (fun z hz => by obtain ⟨j, hj, e⟩ := List.getElem_of_mem hz; obtain ⟨ci, fs, q1, q2⟩ := hel z hz; exact ⟨ci, fs, hx43 z _ (fun z9 => z9.elim (zg_ne q1 hla (by rcases q2 with rfl | rfl | rfl | rfl <;> (intro h; cases h))) (zg_ne q1 hd (by intro h; cases h))) q1, q2⟩) i hi) (zcV 2 hts w_636 w_221 w_222 w_6 w_223 (by decide +kernel) ⟨Nat.le_of_ble_eq_true rfl, Nat.le_of_ble_eq_true rfl⟩) (zc_preV hbase hK hN hQ hG hS k45 rfl) rfl rfl hl.1 rfl (lv_room (Nat.le_of_ble_eq_true rfl)) d_Ow_findOrMake_79 ⟨(by dsimp only; omega), (by dsimp only; omega)⟩) hS (fun G79 H locs hp79 hG hS => ?_)
            obtain ⟨d2, hL2, hd2, hx79⟩ := hp79
            have hd3 : d2 = dd ∨ G d2 = none := hd2.imp id (fun z => zx.fr hx43 z (fun h => by rcases h with h | h <;> (have n9 := z; rw [h] at n9; first | (rw [k45] at n9; cases n9) | (rw [k46] at n9; cases n9))))
            obtain ⟨k2, cap2, f2, hl2, hdd2, h02, hc2, hz2, hf2⟩ := hL2.un2 (by rw [zf_len hi]; omega)
            rw [zf_len hi] at hl2 hc2
            have k50 : G79 a = some (.inr (4, [.ref na, .ref la, cv])) := hx79 a _ (fun z => z.elim (zg_ne k44 k45 (by intro h; simp at h)) (zg_ne k44 k46 (by intro h; simp at h))) k44
            have k51 : G79 (xs.getD i 0) = some (.inr (5, [.int (ty i), .int (ti i), .ref (dx i)])) := hx79 (xs.getD i 0) _ (fun z => z.elim (zg_ne k47 k45 (by intro h; simp at h)) (zg_ne k47 k46 (by intro h; simp at h))) k47
            have k52 : G79 q71 = some (.inr (5, [.int t, .int 0, .ref bq])) := hx79 q71 _ (fun z => z.elim (Ne.symm ne71_la) (Ne.symm ne71_dd)) k48
            have k53 : G79 bq = some (.inr (0, [.ref (E.2.2.2 0), .int 0, .int 0])) := hx79 bq _ (fun z => z.elim (Ne.symm ne_bq_la) (Ne.symm ne_bq_dd)) k49
            have hx54 : zx (fun q => q = la ∨ q = dd) G G79 := fun q x hs hq => hx79 q x (fun z => z.elim (fun z => absurd (show (fun q => q = la ∨ q = dd) q from by subst z; exact Or.inl rfl) hs) (fun z => absurd (show (fun q => q = la ∨ q = dd) q from by subst z; exact Or.inr rfl) hs)) (hx43 q x hs hq)
            refine lv_aload_n hx hb d_Ow_findOrMake_82 rfl (lv_at hl 0 rfl) ?_
            refine zg_get (ci := 4) (C := "ZoneAnswers$Owner") (T := T_Ow) (N := 3) hx hb hts zi_Ow hown hK hG k50 rfl 1 (by decide) (hts _ w_207) (fun _ h9 => h9) rfl d_Ow_findOrMake_83 ?_
            refine lv_iload_n hx hb d_Ow_findOrMake_86 rfl (lv_at hl 2 rfl) ?_
            have hGo87 := hG
            refine zk_q (va_runV (As := [.int (nI i)]) (rest := []) ⟨hx, hb, hml, hown, hts⟩ (t_AL_get l E G79 la d2 (xs.length + 1) cap2 k2 f2 hl2 hdd2 hc2 (by omega) i (by omega)) (zcV 1 hts w_607 w_164 w_165 w_6 w_166 (by decide +kernel) ⟨Nat.le_of_ble_eq_true rfl, Nat.le_of_ble_eq_true rfl⟩) (zc_preV hbase hK hN hQ hG hS hl2 rfl) rfl rfl hl.1 rfl (lv_room (Nat.le_of_ble_eq_true rfl)) d_Ow_findOrMake_87 ⟨(by dsimp only; omega), (by dsimp only; omega)⟩) hS (fun r87 G87 H locs hp87 hG hS => ?_)
            have hG : zP E G79 H := hp87.2 ▸ hG
            refine zr_some (a := q71) (hp87.1.trans ((hf2 i).trans (zl_ins hi))) ?_
            refine zg_castY hx hb hown (hts _ w_608) hK hG k52 rfl (zN.at hN (w := .castable "ZoneAnswers$Rrset" "ZoneAnswers$Rrset") (by decide +kernel)) d_Ow_findOrMake_90 ?_
            exact hret (some q71) _ _ _ _ _ _ _ _ hr (Or.inl ⟨_, rfl⟩) (⟨i, hi, hlow, hupp, Or.inr ⟨hnew, q71, bq, d2, rfl, n71, nf_bq, hL2, hd3, hx54, k52, k53⟩⟩) hG hS (by dsimp only; omega) (by dsimp only; omega) d_Ow_findOrMake_93
      · have b10 : ¬ xs.length ≤ i := fun q => c10 ((nI_leI (a := xs.length) (b := i) (by omega) (by omega)).mpr q)
        have hin : i < xs.length := by omega
        refine lv_aload_n hx hb d_Ow_findOrMake_13 rfl (lv_at hl 0 rfl) ?_
        refine zg_get (ci := 4) (C := "ZoneAnswers$Owner") (T := T_Ow) (N := 3) hx hb hts zi_Ow hown hK hG ha rfl 1 (by decide) (hts _ w_207) (fun _ h9 => h9) rfl d_Ow_findOrMake_14 ?_
        refine lv_iload_n hx hb d_Ow_findOrMake_17 rfl (lv_at hl 2 rfl) ?_
        have hGo18 := hG
        refine zk_q (va_runV (As := [.int (nI i)]) (rest := []) ⟨hx, hb, hml, hown, hts⟩ (t_AL_get l E G la dd xs.length cap k f hla hd hc (by omega) i hin) (zcV 1 hts w_607 w_164 w_165 w_6 w_166 (by decide +kernel) ⟨Nat.le_of_ble_eq_true rfl, Nat.le_of_ble_eq_true rfl⟩) (zc_preV hbase hK hN hQ hG hS hla rfl) rfl rfl hl.1 rfl (lv_room (Nat.le_of_ble_eq_true rfl)) d_Ow_findOrMake_18 ⟨(by dsimp only; omega), (by dsimp only; omega)⟩) hS (fun r18 G18 H locs hp18 hG hS => ?_)
        have hG : zP E G H := hp18.2 ▸ hG
        refine zr_some (a := xs.getD i 0) (hp18.1.trans ((hf i).trans (zl_at hin))) ?_
        refine zg_castY hx hb hown (hts _ w_608) hK hG (hrs i hin) rfl (zN.at hN (w := .castable "ZoneAnswers$Rrset" "ZoneAnswers$Rrset") (by decide +kernel)) d_Ow_findOrMake_21 ?_
        refine zg_get (ci := 5) (C := "ZoneAnswers$Rrset") (T := T_Rr) (N := 3) hx hb hts zi_Rr hown hK hG (hrs i hin) rfl 0 (by decide) (hts _ w_617) (fun _ h9 => h9) rfl d_Ow_findOrMake_24 ?_
        refine lv_iload_n hx hb d_Ow_findOrMake_27 rfl (lv_at hl 1 rfl) ?_
        refine lv_icmp_ge (tgt := 37) hx hb d_Ow_findOrMake_28 (by decide) (fun c28 => ?_) (fun c28 => ?_)
        · have hupp : i < xs.length → ¬ ty i < t := fun _ => Int32.not_lt.mpr c28
          refine lv_iload_n hx hb d_Ow_findOrMake_37 rfl (lv_at hl 2 rfl) ?_
          refine lv_aload_n hx hb d_Ow_findOrMake_38 rfl (lv_at hl 0 rfl) ?_
          refine zg_get (ci := 4) (C := "ZoneAnswers$Owner") (T := T_Ow) (N := 3) hx hb hts zi_Ow hown hK hG ha rfl 1 (by decide) (hts _ w_207) (fun _ h9 => h9) rfl d_Ow_findOrMake_39 ?_
          refine zk_i (va_runV (As := []) (rest := [.int (nI i)]) ⟨hx, hb, hml, hown, hts⟩ (t_AL_size l E G la (.ref dd) (nI xs.length) k hla) (zcV 0 hts w_606 w_160 w_161 w_6 w_162 (by decide +kernel) ⟨Nat.le_of_ble_eq_true rfl, Nat.le_of_ble_eq_true rfl⟩) (zc_preV hbase hK hN hQ hG hS hla rfl) rfl rfl hl.1 rfl (lv_room (Nat.le_of_ble_eq_true rfl)) d_Ow_findOrMake_42 ⟨(by dsimp only; omega), (by dsimp only; omega)⟩) hS (fun r42 G42 H locs hp42 hG hS => ?_)
          have hG : zP E G H := hp42.2 ▸ hG
          refine zi_as (y := nI xs.length) hp42.1 ?_
          refine lv_icmp_eq (tgt := 66) hx hb d_Ow_findOrMake_45 (by decide) (fun c45 => ?_) (fun c45 => ?_)
          · have b45 : i = xs.length := (nI_eq (a := i) (b := xs.length) (by omega) (by omega)).mp c45
            have hnew : i < xs.length → ¬ ty i = t := fun q => absurd q (by omega)
            refine lv_aload_n hx hb d_Ow_findOrMake_66 rfl (lv_at hl 0 rfl) ?_
            refine zg_get (ci := 4) (C := "ZoneAnswers$Owner") (T := T_Ow) (N := 3) hx hb hts zi_Ow hown hK hG ha rfl 1 (by decide) (hts _ w_207) (fun _ h9 => h9) rfl d_Ow_findOrMake_67 ?_
            refine lv_iload_n hx hb d_Ow_findOrMake_70 rfl (lv_at hl 2 rfl) ?_
            refine zg_new (ci := 5) (fs := [.int 0, .int 0, .null]) (C := "ZoneAnswers$Rrset") (T := T_Rr) (N := 3) hx hb hts zi_Rr t_Rr t_Rr_ok hown (hts _ w_608) (hts _ w_609) (hts _ w_27) hK hG hS hbase rfl (fun j hj => by rcases (show j = 0 ∨ j = 1 ∨ j = 2 by omega) with rfl | rfl | rfl <;> rfl) (by dsimp only; omega) (by dsimp only; omega) d_Ow_findOrMake_71 (fun q71 H n71 hG hS => ?_)
            obtain ⟨G55, eG55⟩ : ∃ z : zg_G, z = zg_up G q71 (.inr (5, [.int 0, .int 0, .null])) := ⟨_, rfl⟩
            have hG : zP E G55 H := by rw [eG55]; exact hG
            have hx56 : zx (fun q => q = la ∨ q = dd) G G55 := hxl.tr (by rw [eG55]; exact zx.nw n71)
            have ne71_a : a ≠ q71 := zg_fr n71 ha
            have k57 : G55 a = some (.inr (4, [.ref na, .ref la, cv])) := by rw [eG55, zg_up_ne (zg_fr n71 ha)]; exact ha
            have ne71_la : la ≠ q71 := zg_fr n71 hla
            have k58 : G55 la = some (.inr (0, [.ref dd, .int (nI xs.length), .int k])) := by rw [eG55, zg_up_ne (zg_fr n71 hla)]; exact hla
            have ne71_dd : dd ≠ q71 := zg_fr n71 hd
            have k59 : G55 dd = some (.inl (E.2.1 3, cap, .inr (.inr (.inr (.inr f))))) := by rw [eG55, zg_up_ne (zg_fr n71 hd)]; exact hd
            have ne71_xs_getD_i_0 : xs.getD i 0 ≠ q71 := zg_fr n71 (hrs i hin)
            have k60 : G55 (xs.getD i 0) = some (.inr (5, [.int (ty i), .int (ti i), .ref (dx i)])) := by rw [eG55, zg_up_ne (zg_fr n71 (hrs i hin))]; exact (hrs i hin)
            have k61 : G55 q71 = some (.inr (5, [.int 0, .int 0, .null])) := by rw [eG55]; exact zg_up_self _ _ _
            refine lv_dup hx hb d_Ow_findOrMake_74 rfl ?_
            refine lv_iload_n hx hb d_Ow_findOrMake_75 rfl (lv_at hl 1 rfl) ?_
            have hGo76 := hG
            refine zk_v (va_runI (As := [.int t]) (rest := [.ref q71, .int (nI i), .ref la]) ⟨hx, hb, hml, hown, hts⟩ (t_Rr_init l E G55 q71 t k61) (zcI 1 hts w_610 w_611 w_27 w_612 rfl (by decide +kernel) ⟨Nat.le_of_ble_eq_true rfl, Nat.le_of_ble_eq_true rfl⟩) (zc_pre hbase hK hN hQ hG hS) rfl rfl hl.1 rfl (lv_room (Nat.le_of_ble_eq_true rfl)) d_Ow_findOrMake_76 ⟨(by dsimp only; omega), (by dsimp only; omega)⟩) hS (fun G76 H locs hp76 hG hS => ?_)
            obtain ⟨bq, nbq, ebq⟩ := hp76
            obtain ⟨G62, eG62⟩ : ∃ z : zg_G, z = zg_up G55 bq (.inr (0, [.ref (E.2.2.2 0), .int 0, .int 0])) := ⟨_, rfl⟩
            rw [← eG62] at ebq
            have nf_bq : G bq = none := zx.fr hx56 nbq (fun h => by rcases h with h | h <;> (have n9 := nbq; rw [h] at n9; first | (rw [k58] at n9; cases n9) | (rw [k59] at n9; cases n9)))
            have ne_bq_a : a ≠ bq := zg_fr nbq k57
            have k63 : G62 a = some (.inr (4, [.ref na, .ref la, cv])) := by rw [eG62, zg_up_ne ne_bq_a]; exact k57
            have ne_bq_la : la ≠ bq := zg_fr nbq k58
            have k64 : G62 la = some (.inr (0, [.ref dd, .int (nI xs.length), .int k])) := by rw [eG62, zg_up_ne ne_bq_la]; exact k58
            have ne_bq_dd : dd ≠ bq := zg_fr nbq k59
            have k65 : G62 dd = some (.inl (E.2.1 3, cap, .inr (.inr (.inr (.inr f))))) := by rw [eG62, zg_up_ne ne_bq_dd]; exact k59
            have ne_bq_xs_getD_i_0 : xs.getD i 0 ≠ bq := zg_fr nbq k60
            have k66 : G62 (xs.getD i 0) = some (.inr (5, [.int (ty i), .int (ti i), .ref (dx i)])) := by rw [eG62, zg_up_ne ne_bq_xs_getD_i_0]; exact k60
            have ne_bq_q71 : q71 ≠ bq := zg_fr nbq k61
            have k67 : G62 q71 = some (.inr (5, [.int 0, .int 0, .null])) := by rw [eG62, zg_up_ne ne_bq_q71]; exact k61
            have k68 : G62 bq = some (.inr (0, [.ref (E.2.2.2 0), .int 0, .int 0])) := by rw [eG62]; exact zg_up_self _ _ _
            have hx69 : zx (fun q => q = la ∨ q = dd) G G62 := hx56.tr (by rw [eG62]; exact zx.nw nbq)
            have hx70 : zx (fun q => q = la ∨ q = dd) G G76 := by rw [ebq]; exact hx69.upn n71
            have k71 : G76 a = some (.inr (4, [.ref na, .ref la, cv])) := by rw [ebq, zg_up_ne (ne71_a)]; exact k63
            have k72 : G76 la = some (.inr (0, [.ref dd, .int (nI xs.length), .int k])) := by rw [ebq, zg_up_ne (ne71_la)]; exact k64
            have k73 : G76 dd = some (.inl (E.2.1 3, cap, .inr (.inr (.inr (.inr f))))) := by rw [ebq, zg_up_ne (ne71_dd)]; exact k65
            have k74 : G76 (xs.getD i 0) = some (.inr (5, [.int (ty i), .int (ti i), .ref (dx i)])) := by rw [ebq, zg_up_ne (ne71_xs_getD_i_0)]; exact k66
            have k75 : G76 q71 = some (.inr (5, [.int t, .int 0, .ref bq])) := by rw [ebq]; exact zg_up_self _ _ _
            have k76 : G76 bq = some (.inr (0, [.ref (E.2.2.2 0), .int 0, .int 0])) := by rw [ebq, zg_up_ne (Ne.symm ne_bq_q71)]; exact k68
            have hGo79 := hG
            refine zk_v (va_runV (As := [.int (nI i), .ref q71]) (rest := []) ⟨hx, hb, hml, hown, hts⟩ (t_AL_add l E G76 la dd xs ⟨⟨k, k72⟩, Or.inr ⟨cap, f, k73, h0, hc, hz, hf⟩⟩ q71 ⟨5, _, k75, Or.inr (Or.inr (Or.inl rfl))⟩ hn9 B hB (fun z hz => by obtain ⟨j, hj, e⟩ := List.getElem_of_mem hz; obtain ⟨ci, fs, q1, q2⟩ := hel z hz; exact ⟨ci, fs, hx70 z _ (fun z9 => z9.elim (zg_ne q1 hla (by rcases q2 with rfl | rfl | rfl | rfl <;> (intro h; cases h))) (zg_ne q1 hd (by intro h; cases h))) q1, q2⟩) i hi) (zcV 2 hts w_636 w_221 w_222 w_6 w_223 (by decide +kernel) ⟨Nat.le_of_ble_eq_true rfl, Nat.le_of_ble_eq_true rfl⟩) (zc_preV hbase hK hN hQ hG hS k72 rfl) rfl rfl hl.1 rfl (lv_room (Nat.le_of_ble_eq_true rfl)) d_Ow_findOrMake_79 ⟨(by dsimp only; omega), (by dsimp only; omega)⟩) hS (fun G79 H locs hp79 hG hS => ?_)
            obtain ⟨d2, hL2, hd2, hx79⟩ := hp79
            have hd3 : d2 = dd ∨ G d2 = none := hd2.imp id (fun z => zx.fr hx70 z (fun h => by rcases h with h | h <;> (have n9 := z; rw [h] at n9; first | (rw [k72] at n9; cases n9) | (rw [k73] at n9; cases n9))))
            obtain ⟨k2, cap2, f2, hl2, hdd2, h02, hc2, hz2, hf2⟩ := hL2.un2 (by rw [zf_len hi]; omega)
            rw [zf_len hi] at hl2 hc2
            have k77 : G79 a = some (.inr (4, [.ref na, .ref la, cv])) := hx79 a _ (fun z => z.elim (zg_ne k71 k72 (by intro h; simp at h)) (zg_ne k71 k73 (by intro h; simp at h))) k71
            have k78 : G79 (xs.getD i 0) = some (.inr (5, [.int (ty i), .int (ti i), .ref (dx i)])) := hx79 (xs.getD i 0) _ (fun z => z.elim (zg_ne k74 k72 (by intro h; simp at h)) (zg_ne k74 k73 (by intro h; simp at h))) k74
            have k79 : G79 q71 = some (.inr (5, [.int t, .int 0, .ref bq])) := hx79 q71 _ (fun z => z.elim (Ne.symm ne71_la) (Ne.symm ne71_dd)) k75
            have k80 : G79 bq = some (.inr (0, [.ref (E.2.2.2 0), .int 0, .int 0])) := hx79 bq _ (fun z => z.elim (Ne.symm ne_bq_la) (Ne.symm ne_bq_dd)) k76
            have hx81 : zx (fun q => q = la ∨ q = dd) G G79 := fun q x hs hq => hx79 q x (fun z => z.elim (fun z => absurd (show (fun q => q = la ∨ q = dd) q from by subst z; exact Or.inl rfl) hs) (fun z => absurd (show (fun q => q = la ∨ q = dd) q from by subst z; exact Or.inr rfl) hs)) (hx70 q x hs hq)
            refine lv_aload_n hx hb d_Ow_findOrMake_82 rfl (lv_at hl 0 rfl) ?_
            refine zg_get (ci := 4) (C := "ZoneAnswers$Owner") (T := T_Ow) (N := 3) hx hb hts zi_Ow hown hK hG k77 rfl 1 (by decide) (hts _ w_207) (fun _ h9 => h9) rfl d_Ow_findOrMake_83 ?_
            refine lv_iload_n hx hb d_Ow_findOrMake_86 rfl (lv_at hl 2 rfl) ?_
            have hGo87 := hG
            refine zk_q (va_runV (As := [.int (nI i)]) (rest := []) ⟨hx, hb, hml, hown, hts⟩ (t_AL_get l E G79 la d2 (xs.length + 1) cap2 k2 f2 hl2 hdd2 hc2 (by omega) i (by omega)) (zcV 1 hts w_607 w_164 w_165 w_6 w_166 (by decide +kernel) ⟨Nat.le_of_ble_eq_true rfl, Nat.le_of_ble_eq_true rfl⟩) (zc_preV hbase hK hN hQ hG hS hl2 rfl) rfl rfl hl.1 rfl (lv_room (Nat.le_of_ble_eq_true rfl)) d_Ow_findOrMake_87 ⟨(by dsimp only; omega), (by dsimp only; omega)⟩) hS (fun r87 G87 H locs hp87 hG hS => ?_)
            have hG : zP E G79 H := hp87.2 ▸ hG
            refine zr_some (a := q71) (hp87.1.trans ((hf2 i).trans (zl_ins hi))) ?_
            refine zg_castY hx hb hown (hts _ w_608) hK hG k79 rfl (zN.at hN (w := .castable "ZoneAnswers$Rrset" "ZoneAnswers$Rrset") (by decide +kernel)) d_Ow_findOrMake_90 ?_
            exact hret (some q71) _ _ _ _ _ _ _ _ hr (Or.inl ⟨_, rfl⟩) (⟨i, hi, hlow, hupp, Or.inr ⟨hnew, q71, bq, d2, rfl, n71, nf_bq, hL2, hd3, hx81, k79, k80⟩⟩) hG hS (by dsimp only; omega) (by dsimp only; omega) d_Ow_findOrMake_93
          · have b45 : ¬ i = xs.length := fun q => c45 ((nI_eq (a := i) (b := xs.length) (by omega) (by omega)).mpr q)
            have hin : i < xs.length := by omega
            refine lv_aload_n hx hb d_Ow_findOrMake_48 rfl (lv_at hl 0 rfl) ?_
            refine zg_get (ci := 4) (C := "ZoneAnswers$Owner") (T := T_Ow) (N := 3) hx hb hts zi_Ow hown hK hG ha rfl 1 (by decide) (hts _ w_207) (fun _ h9 => h9) rfl d_Ow_findOrMake_49 ?_
            refine lv_iload_n hx hb d_Ow_findOrMake_52 rfl (lv_at hl 2 rfl) ?_
            have hGo53 := hG
            refine zk_q (va_runV (As := [.int (nI i)]) (rest := []) ⟨hx, hb, hml, hown, hts⟩ (t_AL_get l E G la dd xs.length cap k f hla hd hc (by omega) i hin) (zcV 1 hts w_607 w_164 w_165 w_6 w_166 (by decide +kernel) ⟨Nat.le_of_ble_eq_true rfl, Nat.le_of_ble_eq_true rfl⟩) (zc_preV hbase hK hN hQ hG hS hla rfl) rfl rfl hl.1 rfl (lv_room (Nat.le_of_ble_eq_true rfl)) d_Ow_findOrMake_53 ⟨(by dsimp only; omega), (by dsimp only; omega)⟩) hS (fun r53 G53 H locs hp53 hG hS => ?_)
            have hG : zP E G H := hp53.2 ▸ hG
            refine zr_some (a := xs.getD i 0) (hp53.1.trans ((hf i).trans (zl_at hin))) ?_
            refine zg_castY hx hb hown (hts _ w_608) hK hG (hrs i hin) rfl (zN.at hN (w := .castable "ZoneAnswers$Rrset" "ZoneAnswers$Rrset") (by decide +kernel)) d_Ow_findOrMake_56 ?_
            refine zg_get (ci := 5) (C := "ZoneAnswers$Rrset") (T := T_Rr) (N := 3) hx hb hts zi_Rr hown hK hG (hrs i hin) rfl 0 (by decide) (hts _ w_617) (fun _ h9 => h9) rfl d_Ow_findOrMake_59 ?_
            refine lv_iload_n hx hb d_Ow_findOrMake_62 rfl (lv_at hl 1 rfl) ?_
            refine lv_icmp_eq (tgt := 82) hx hb d_Ow_findOrMake_63 (by decide) (fun c63 => ?_) (fun c63 => ?_)
            · have heq : ty i = t := c63
              refine lv_aload_n hx hb d_Ow_findOrMake_82 rfl (lv_at hl 0 rfl) ?_
              refine zg_get (ci := 4) (C := "ZoneAnswers$Owner") (T := T_Ow) (N := 3) hx hb hts zi_Ow hown hK hG ha rfl 1 (by decide) (hts _ w_207) (fun _ h9 => h9) rfl d_Ow_findOrMake_83 ?_
              refine lv_iload_n hx hb d_Ow_findOrMake_86 rfl (lv_at hl 2 rfl) ?_
              have hGo87 := hG
              refine zk_q (va_runV (As := [.int (nI i)]) (rest := []) ⟨hx, hb, hml, hown, hts⟩ (t_AL_get l E G la dd xs.length cap k f hla hd hc (by omega) i hin) (zcV 1 hts w_607 w_164 w_165 w_6 w_166 (by decide +kernel) ⟨Nat.le_of_ble_eq_true rfl, Nat.le_of_ble_eq_true rfl⟩) (zc_preV hbase hK hN hQ hG hS hla rfl) rfl rfl hl.1 rfl (lv_room (Nat.le_of_ble_eq_true rfl)) d_Ow_findOrMake_87 ⟨(by dsimp only; omega), (by dsimp only; omega)⟩) hS (fun r87 G87 H locs hp87 hG hS => ?_)
              have hG : zP E G H := hp87.2 ▸ hG
              refine zr_some (a := xs.getD i 0) (hp87.1.trans ((hf i).trans (zl_at hin))) ?_
              refine zg_castY hx hb hown (hts _ w_608) hK hG (hrs i hin) rfl (zN.at hN (w := .castable "ZoneAnswers$Rrset" "ZoneAnswers$Rrset") (by decide +kernel)) d_Ow_findOrMake_90 ?_
              exact hret (some (xs.getD i 0)) _ _ _ _ _ _ _ _ hr (Or.inl ⟨_, rfl⟩) (⟨i, hi, hlow, hupp, Or.inl ⟨hin, heq, rfl, rfl⟩⟩) hG hS (by dsimp only; omega) (by dsimp only; omega) d_Ow_findOrMake_93
            · have hnew : i < xs.length → ¬ ty i = t := fun _ => c63
              refine lv_aload_n hx hb d_Ow_findOrMake_66 rfl (lv_at hl 0 rfl) ?_
              refine zg_get (ci := 4) (C := "ZoneAnswers$Owner") (T := T_Ow) (N := 3) hx hb hts zi_Ow hown hK hG ha rfl 1 (by decide) (hts _ w_207) (fun _ h9 => h9) rfl d_Ow_findOrMake_67 ?_
              refine lv_iload_n hx hb d_Ow_findOrMake_70 rfl (lv_at hl 2 rfl) ?_
              refine zg_new (ci := 5) (fs := [.int 0, .int 0, .null]) (C := "ZoneAnswers$Rrset") (T := T_Rr) (N := 3) hx hb hts zi_Rr t_Rr t_Rr_ok hown (hts _ w_608) (hts _ w_609) (hts _ w_27) hK hG hS hbase rfl (fun j hj => by rcases (show j = 0 ∨ j = 1 ∨ j = 2 by omega) with rfl | rfl | rfl <;> rfl) (by dsimp only; omega) (by dsimp only; omega) d_Ow_findOrMake_71 (fun q71 H n71 hG hS => ?_)
              obtain ⟨G82, eG82⟩ : ∃ z : zg_G, z = zg_up G q71 (.inr (5, [.int 0, .int 0, .null])) := ⟨_, rfl⟩
              have hG : zP E G82 H := by rw [eG82]; exact hG
              have hx83 : zx (fun q => q = la ∨ q = dd) G G82 := hxl.tr (by rw [eG82]; exact zx.nw n71)
              have ne71_a : a ≠ q71 := zg_fr n71 ha
              have k84 : G82 a = some (.inr (4, [.ref na, .ref la, cv])) := by rw [eG82, zg_up_ne (zg_fr n71 ha)]; exact ha
              have ne71_la : la ≠ q71 := zg_fr n71 hla
              have k85 : G82 la = some (.inr (0, [.ref dd, .int (nI xs.length), .int k])) := by rw [eG82, zg_up_ne (zg_fr n71 hla)]; exact hla
              have ne71_dd : dd ≠ q71 := zg_fr n71 hd
              have k86 : G82 dd = some (.inl (E.2.1 3, cap, .inr (.inr (.inr (.inr f))))) := by rw [eG82, zg_up_ne (zg_fr n71 hd)]; exact hd
              have ne71_xs_getD_i_0 : xs.getD i 0 ≠ q71 := zg_fr n71 (hrs i hin)
              have k87 : G82 (xs.getD i 0) = some (.inr (5, [.int (ty i), .int (ti i), .ref (dx i)])) := by rw [eG82, zg_up_ne (zg_fr n71 (hrs i hin))]; exact (hrs i hin)
              have k88 : G82 q71 = some (.inr (5, [.int 0, .int 0, .null])) := by rw [eG82]; exact zg_up_self _ _ _
              refine lv_dup hx hb d_Ow_findOrMake_74 rfl ?_
              refine lv_iload_n hx hb d_Ow_findOrMake_75 rfl (lv_at hl 1 rfl) ?_
              have hGo76 := hG
              refine zk_v (va_runI (As := [.int t]) (rest := [.ref q71, .int (nI i), .ref la]) ⟨hx, hb, hml, hown, hts⟩ (t_Rr_init l E G82 q71 t k88) (zcI 1 hts w_610 w_611 w_27 w_612 rfl (by decide +kernel) ⟨Nat.le_of_ble_eq_true rfl, Nat.le_of_ble_eq_true rfl⟩) (zc_pre hbase hK hN hQ hG hS) rfl rfl hl.1 rfl (lv_room (Nat.le_of_ble_eq_true rfl)) d_Ow_findOrMake_76 ⟨(by dsimp only; omega), (by dsimp only; omega)⟩) hS (fun G76 H locs hp76 hG hS => ?_)
              obtain ⟨bq, nbq, ebq⟩ := hp76
              obtain ⟨G89, eG89⟩ : ∃ z : zg_G, z = zg_up G82 bq (.inr (0, [.ref (E.2.2.2 0), .int 0, .int 0])) := ⟨_, rfl⟩
              rw [← eG89] at ebq
              have nf_bq : G bq = none := zx.fr hx83 nbq (fun h => by rcases h with h | h <;> (have n9 := nbq; rw [h] at n9; first | (rw [k85] at n9; cases n9) | (rw [k86] at n9; cases n9)))
              have ne_bq_a : a ≠ bq := zg_fr nbq k84
              have k90 : G89 a = some (.inr (4, [.ref na, .ref la, cv])) := by rw [eG89, zg_up_ne ne_bq_a]; exact k84
              have ne_bq_la : la ≠ bq := zg_fr nbq k85
              have k91 : G89 la = some (.inr (0, [.ref dd, .int (nI xs.length), .int k])) := by rw [eG89, zg_up_ne ne_bq_la]; exact k85
              have ne_bq_dd : dd ≠ bq := zg_fr nbq k86
              have k92 : G89 dd = some (.inl (E.2.1 3, cap, .inr (.inr (.inr (.inr f))))) := by rw [eG89, zg_up_ne ne_bq_dd]; exact k86
              have ne_bq_xs_getD_i_0 : xs.getD i 0 ≠ bq := zg_fr nbq k87
              have k93 : G89 (xs.getD i 0) = some (.inr (5, [.int (ty i), .int (ti i), .ref (dx i)])) := by rw [eG89, zg_up_ne ne_bq_xs_getD_i_0]; exact k87
              have ne_bq_q71 : q71 ≠ bq := zg_fr nbq k88
              have k94 : G89 q71 = some (.inr (5, [.int 0, .int 0, .null])) := by rw [eG89, zg_up_ne ne_bq_q71]; exact k88
              have k95 : G89 bq = some (.inr (0, [.ref (E.2.2.2 0), .int 0, .int 0])) := by rw [eG89]; exact zg_up_self _ _ _
              have hx96 : zx (fun q => q = la ∨ q = dd) G G89 := hx83.tr (by rw [eG89]; exact zx.nw nbq)
              have hx97 : zx (fun q => q = la ∨ q = dd) G G76 := by rw [ebq]; exact hx96.upn n71
              have k98 : G76 a = some (.inr (4, [.ref na, .ref la, cv])) := by rw [ebq, zg_up_ne (ne71_a)]; exact k90
              have k99 : G76 la = some (.inr (0, [.ref dd, .int (nI xs.length), .int k])) := by rw [ebq, zg_up_ne (ne71_la)]; exact k91
              have k100 : G76 dd = some (.inl (E.2.1 3, cap, .inr (.inr (.inr (.inr f))))) := by rw [ebq, zg_up_ne (ne71_dd)]; exact k92
              have k101 : G76 (xs.getD i 0) = some (.inr (5, [.int (ty i), .int (ti i), .ref (dx i)])) := by rw [ebq, zg_up_ne (ne71_xs_getD_i_0)]; exact k93
              have k102 : G76 q71 = some (.inr (5, [.int t, .int 0, .ref bq])) := by rw [ebq]; exact zg_up_self _ _ _
              have k103 : G76 bq = some (.inr (0, [.ref (E.2.2.2 0), .int 0, .int 0])) := by rw [ebq, zg_up_ne (Ne.symm ne_bq_q71)]; exact k95
              have hGo79 := hG
              refine zk_v (va_runV (As := [.int (nI i), .ref q71]) (rest := []) ⟨hx, hb, hml, hown, hts⟩ (t_AL_add l E G76 la dd xs ⟨⟨k, k99⟩, Or.inr ⟨cap, f, k100, h0, hc, hz, hf⟩⟩ q71 ⟨5, _, k102, Or.inr (Or.inr (Or.inl rfl))⟩ hn9 B hB (fun z hz => by obtain ⟨j, hj, e⟩ := List.getElem_of_mem hz; obtain ⟨ci, fs, q1, q2⟩ := hel z hz; exact ⟨ci, fs, hx97 z _ (fun z9 => z9.elim (zg_ne q1 hla (by rcases q2 with rfl | rfl | rfl | rfl <;> (intro h; cases h))) (zg_ne q1 hd (by intro h; cases h))) q1, q2⟩) i hi) (zcV 2 hts w_636 w_221 w_222 w_6 w_223 (by decide +kernel) ⟨Nat.le_of_ble_eq_true rfl, Nat.le_of_ble_eq_true rfl⟩) (zc_preV hbase hK hN hQ hG hS k99 rfl) rfl rfl hl.1 rfl (lv_room (Nat.le_of_ble_eq_true rfl)) d_Ow_findOrMake_79 ⟨(by dsimp only; omega), (by dsimp only; omega)⟩) hS (fun G79 H locs hp79 hG hS => ?_)
              obtain ⟨d2, hL2, hd2, hx79⟩ := hp79
              have hd3 : d2 = dd ∨ G d2 = none := hd2.imp id (fun z => zx.fr hx97 z (fun h => by rcases h with h | h <;> (have n9 := z; rw [h] at n9; first | (rw [k99] at n9; cases n9) | (rw [k100] at n9; cases n9))))
              obtain ⟨k2, cap2, f2, hl2, hdd2, h02, hc2, hz2, hf2⟩ := hL2.un2 (by rw [zf_len hi]; omega)
              rw [zf_len hi] at hl2 hc2
              have k104 : G79 a = some (.inr (4, [.ref na, .ref la, cv])) := hx79 a _ (fun z => z.elim (zg_ne k98 k99 (by intro h; simp at h)) (zg_ne k98 k100 (by intro h; simp at h))) k98
              have k105 : G79 (xs.getD i 0) = some (.inr (5, [.int (ty i), .int (ti i), .ref (dx i)])) := hx79 (xs.getD i 0) _ (fun z => z.elim (zg_ne k101 k99 (by intro h; simp at h)) (zg_ne k101 k100 (by intro h; simp at h))) k101
              have k106 : G79 q71 = some (.inr (5, [.int t, .int 0, .ref bq])) := hx79 q71 _ (fun z => z.elim (Ne.symm ne71_la) (Ne.symm ne71_dd)) k102
              have k107 : G79 bq = some (.inr (0, [.ref (E.2.2.2 0), .int 0, .int 0])) := hx79 bq _ (fun z => z.elim (Ne.symm ne_bq_la) (Ne.symm ne_bq_dd)) k103
              have hx108 : zx (fun q => q = la ∨ q = dd) G G79 := fun q x hs hq => hx79 q x (fun z => z.elim (fun z => absurd (show (fun q => q = la ∨ q = dd) q from by subst z; exact Or.inl rfl) hs) (fun z => absurd (show (fun q => q = la ∨ q = dd) q from by subst z; exact Or.inr rfl) hs)) (hx97 q x hs hq)
              refine lv_aload_n hx hb d_Ow_findOrMake_82 rfl (lv_at hl 0 rfl) ?_
              refine zg_get (ci := 4) (C := "ZoneAnswers$Owner") (T := T_Ow) (N := 3) hx hb hts zi_Ow hown hK hG k104 rfl 1 (by decide) (hts _ w_207) (fun _ h9 => h9) rfl d_Ow_findOrMake_83 ?_
              refine lv_iload_n hx hb d_Ow_findOrMake_86 rfl (lv_at hl 2 rfl) ?_
              have hGo87 := hG
              refine zk_q (va_runV (As := [.int (nI i)]) (rest := []) ⟨hx, hb, hml, hown, hts⟩ (t_AL_get l E G79 la d2 (xs.length + 1) cap2 k2 f2 hl2 hdd2 hc2 (by omega) i (by omega)) (zcV 1 hts w_607 w_164 w_165 w_6 w_166 (by decide +kernel) ⟨Nat.le_of_ble_eq_true rfl, Nat.le_of_ble_eq_true rfl⟩) (zc_preV hbase hK hN hQ hG hS hl2 rfl) rfl rfl hl.1 rfl (lv_room (Nat.le_of_ble_eq_true rfl)) d_Ow_findOrMake_87 ⟨(by dsimp only; omega), (by dsimp only; omega)⟩) hS (fun r87 G87 H locs hp87 hG hS => ?_)
              have hG : zP E G79 H := hp87.2 ▸ hG
              refine zr_some (a := q71) (hp87.1.trans ((hf2 i).trans (zl_ins hi))) ?_
              refine zg_castY hx hb hown (hts _ w_608) hK hG k106 rfl (zN.at hN (w := .castable "ZoneAnswers$Rrset" "ZoneAnswers$Rrset") (by decide +kernel)) d_Ow_findOrMake_90 ?_
              exact hret (some q71) _ _ _ _ _ _ _ _ hr (Or.inl ⟨_, rfl⟩) (⟨i, hi, hlow, hupp, Or.inr ⟨hnew, q71, bq, d2, rfl, n71, nf_bq, hL2, hd3, hx108, k106, k107⟩⟩) hG hS (by dsimp only; omega) (by dsimp only; omega) d_Ow_findOrMake_93
        · refine lv_iinc (v := nI (i + 1)) (lv' := [(2, .int (nI (i + 1))), (0, .ref a), (1, .int t)]) hx hb d_Ow_findOrMake_31 hl (k := 2) rfl (nI_add i 1) (by decide) rfl (fun ls hl => ?_)
          refine lv_goto (tgt := 2) hx hb d_Ow_findOrMake_34 (by decide) ?_
          exact ih (i + 1) _ _ (by omega) (by omega) (fun j hj => by rcases Nat.lt_or_ge j i with q | q; exact hlow j q; rw [show j = i by omega]; exact Int32.not_le.mp c28) hG hS ls (lv_sub hl [1, 2, 0] rfl)
  exact loop2 _ 0 _ _ (Nat.lt_succ_self _) (Nat.zero_le _) (fun j h => absurd h (Nat.not_lt_zero j)) hG hS ls (lv_sub hl [1, 2, 0] rfl)
