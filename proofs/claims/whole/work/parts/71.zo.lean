
abbrev rm_Ow_findOrMake_f (B : Nat) : Room := { frames := 7, cells := 4, slots := B + 20, locals := 240 }
set_option maxHeartbeats 4000000 in
set_option maxRecDepth 100000 in
/-- Owner.findOrMake(type), of an owner with sets -/
theorem t_Ow_findOrMake_f (l : Launch) (E : zc_E) (G : zg_G) (a na la dd : Nat) (cv : Value) (xs : List Nat) (k : Int32) (cap : Nat) (f : Nat → Option Nat) (ha : G a = some (.inr (4, [.ref na, .ref la, cv]))) (hla : G la = some (.inr (0, [.ref dd, .int (nI xs.length), .int k]))) (hd : G dd = some (.inl (E.2.1 3, cap, .inr (.inr (.inr (.inr f)))))) (h0 : 0 < cap) (hc : xs.length ≤ cap) (hz : cap ≤ 4001) (hf : ∀ j, f j = xs[j]?) (hn9 : xs.length < 2000) (B : Nat) (hB : 2 * xs.length + 10 ≤ B) (hel : ∀ z ∈ xs, zel G z) (ty ti : Nat → Int32) (dx : Nat → Nat) (hrs : ∀ i, i < xs.length → G (xs.getD i 0) = some (.inr (5, [.int (ty i), .int (ti i), .ref (dx i)]))) (t : Int32) : zMq l E y_Ow_findOrMake c_Ow_findOrMake 3 (some (.object "ZoneAnswers$Rrset")) (rm_Ow_findOrMake_f B) [.ref a, .int t] G (fun (r : Option Nat) (G2 : zg_G) => ∃ i, i ≤ xs.length ∧ (∀ j, j < i → ty j < t) ∧ (i < xs.length → ¬ ty i < t) ∧ ((i < xs.length ∧ ty i = t ∧ r = some (xs.getD i 0) ∧ G2 = G) ∨ ((i < xs.length → ¬ ty i = t) ∧ ∃ (q b d2 : Nat), r = some q ∧ G q = none ∧ G b = none ∧ zL E G2 la d2 (xs.take i ++ q :: xs.drop i) ∧ (d2 = dd ∨ G d2 = none) ∧ zx (fun q => q = la ∨ q = dd) G G2 ∧ G2 q = some (.inr (5, [.int t, .int 0, .ref b])) ∧ G2 b = some (.inr (0, [.ref (E.2.2.2 0), .int 0, .int 0]))))) := by
  refine zMq.of (by decide) (Nat.le_of_ble_eq_true rfl) ?_
  intro p e s m args below meth c Q hZ hG hret ls hl
  obtain ⟨hx, hb, hr, hts, hown, hlocks, hml, hnm, hbase, hK, hN, hQ⟩ := hZ
  have hl : lv_has ls 3 [(0, .ref a), (1, .int t)] := hl
  have hS : zg_S (zc_b E) s.heap s.heap [] := va_S.rf
  have hx0 : zx (fun q => q = la ∨ q = dd) G G := zx.rf
  refine lv_iconst (v := 0) hx hb d_Ow_findOrMake_0 (by decide) ?_
  refine zi_as (y := nI 0) (nI_0.symm) ?_
  refine lv_istore_n (lv' := [(2, .int (nI 0)), (0, .ref a), (1, .int t)]) hx hb d_Ow_findOrMake_1 rfl hl (by decide) rfl (fun ls hl => ?_)
  have loop2 : ∀ (N : Nat) (i : Nat) (H : Heap) (locs : List Loc), (xs.length - i) < N → (i ≤ xs.length) → (∀ j, j < i → ty j < t) → zP E G H → zg_S (zc_b E) s.heap H locs → ∀ (ls : Array Slot), lv_has ls 3 [(0, .ref a), (1, .int t), (2, .int (nI i))] → W p l e (rm_Ow_findOrMake_f B) s m args below meth c H locs 0 0 Q (F0 m 2 ls []) := by
    intro N
    induction N with
    | zero =>
      intro i H locs hlt
      exact absurd hlt (Nat.not_lt_zero _)
    | succ N ih =>
      intro i H locs hlt hi hlow hG hS ls hl
      refine lv_iload_n hx hb d_Ow_findOrMake_2 rfl (lv_at hl 2 rfl) ?_
      refine lv_aload_n hx hb d_Ow_findOrMake_3 rfl (lv_at hl 0 rfl) ?_
      refine zg_get (ci := 4) (C := "ZoneAnswers$Owner") (T := T_Ow) (N := 3) hx hb hts zi_Ow hown hK hG ha rfl 1 (by decide) (hts _ w_207) (fun _ h9 => h9) rfl d_Ow_findOrMake_4 ?_
      refine zk_i (va_runV (As := []) (rest := [.int (nI i)]) ⟨hx, hb, hml, hown, hts⟩ (t_AL_size l E G la (.ref dd) (nI xs.length) k hla) (zcV 0 hts w_606 w_160 w_161 w_6 w_162 (by decide +kernel) ⟨Nat.le_of_ble_eq_true rfl, Nat.le_of_ble_eq_true rfl⟩) (zc_preV hbase hK hN hQ hG hS hla rfl) rfl rfl hl.1 rfl (lv_room (Nat.le_of_ble_eq_true rfl)) d_Ow_findOrMake_7 ⟨(by dsimp only; omega), (by dsimp only; omega)⟩) hS (fun r7 G7 H locs hp7 hG hS => ?_)
      have hG : zP E G H := hp7.2 ▸ hG
      refine zi_as (y := nI xs.length) hp7.1 ?_
      refine lv_icmp_ge (tgt := 37) hx hb d_Ow_findOrMake_10 (by decide) (fun c10 => ?_) (fun c10 => ?_)
      · have b10 : xs.length ≤ i := (nI_leI (a := xs.length) (b := i) (by omega) (by omega)).mp c10
        have hupp : i < xs.length → ¬ ty i < t := fun q => absurd q (by omega)
        refine lv_iload_n hx hb d_Ow_findOrMake_37 rfl (lv_at hl 2 rfl) ?_
        refine lv_aload_n hx hb d_Ow_findOrMake_38 rfl (lv_at hl 0 rfl) ?_
        refine zg_get (ci := 4) (C := "ZoneAnswers$Owner") (T := T_Ow) (N := 3) hx hb hts zi_Ow hown hK hG ha rfl 1 (by decide) (hts _ w_207) (fun _ h9 => h9) rfl d_Ow_findOrMake_39 ?_
        refine zk_i (va_runV (As := []) (rest := [.int (nI i)]) ⟨hx, hb, hml, hown, hts⟩ (t_AL_size l E G la (.ref dd) (nI xs.length) k hla) (zcV 0 hts w_606 w_160 w_161 w_6 w_162 (by decide +kernel) ⟨Nat.le_of_ble_eq_true rfl, Nat.le_of_ble_eq_true rfl⟩) (zc_preV hbase hK hN hQ hG hS hla rfl) rfl rfl hl.1 rfl (lv_room (Nat.le_of_ble_eq_true rfl)) d_Ow_findOrMake_42 ⟨(by dsimp only; omega), (by dsimp only; omega)⟩) hS (fun r42 G42 H locs hp42 hG hS => ?_)
        have hG : zP E G H := hp42.2 ▸ hG
        refine zi_as (y := nI xs.length) hp42.1 ?_
        refine lv_icmp_eq (tgt := 66) hx hb d_Ow_findOrMake_45 (by decide) (fun c45 => ?_) (fun c45 => ?_)
        · have b45 : i = xs.length := (nI_eq (a := i) (b := xs.length) (by omega) (by omega)).mp c45
          have hnew : i < xs.length → ¬ ty i = t := fun q => absurd q (by omega)
          refine lv_aload_n hx hb d_Ow_findOrMake_66 rfl (lv_at hl 0 rfl) ?_
          refine zg_get (ci := 4) (C := "ZoneAnswers$Owner") (T := T_Ow) (N := 3) hx hb hts zi_Ow hown hK hG ha rfl 1 (by decide) (hts _ w_207) (fun _ h9 => h9) rfl d_Ow_findOrMake_67 ?_
          refine lv_iload_n hx hb d_Ow_findOrMake_70 rfl (lv_at hl 2 rfl) ?_
          refine zg_new (ci := 5) (fs := [.int 0, .int 0, .null]) (C := "ZoneAnswers$Rrset") (T := T_Rr) (N := 3) hx hb hts zi_Rr t_Rr t_Rr_ok hown (hts _ w_608) (hts _ w_609) (hts _ w_27) hK hG hS hbase rfl (fun j hj => by rcases (show j = 0 ∨ j = 1 ∨ j = 2 by omega) with rfl | rfl | rfl <;> rfl) (by dsimp only; omega) (by dsimp only; omega) d_Ow_findOrMake_71 (fun q71 H n71 hG hS => ?_)
          obtain ⟨G1, eG1⟩ : ∃ z : zg_G, z = zg_up G q71 (.inr (5, [.int 0, .int 0, .null])) := ⟨_, rfl⟩
          have hG : zP E G1 H := by rw [eG1]; exact hG
          have hx2 : zx (fun q => q = la ∨ q = dd) G G1 := hx0.tr (by rw [eG1]; exact zx.nw n71)
          have ne71_a : a ≠ q71 := zg_fr n71 ha
          have k3 : G1 a = some (.inr (4, [.ref na, .ref la, cv])) := by rw [eG1, zg_up_ne (zg_fr n71 ha)]; exact ha
          have ne71_la : la ≠ q71 := zg_fr n71 hla
          have k4 : G1 la = some (.inr (0, [.ref dd, .int (nI xs.length), .int k])) := by rw [eG1, zg_up_ne (zg_fr n71 hla)]; exact hla
          have ne71_dd : dd ≠ q71 := zg_fr n71 hd
          have k5 : G1 dd = some (.inl (E.2.1 3, cap, .inr (.inr (.inr (.inr f))))) := by rw [eG1, zg_up_ne (zg_fr n71 hd)]; exact hd
          have k6 : G1 q71 = some (.inr (5, [.int 0, .int 0, .null])) := by rw [eG1]; exact zg_up_self _ _ _
          refine lv_dup hx hb d_Ow_findOrMake_74 rfl ?_
          refine lv_iload_n hx hb d_Ow_findOrMake_75 rfl (lv_at hl 1 rfl) ?_
          have hGo76 := hG
          refine zk_v (va_runI (As := [.int t]) (rest := [.ref q71, .int (nI i), .ref la]) ⟨hx, hb, hml, hown, hts⟩ (t_Rr_init l E G1 q71 t k6) (zcI 1 hts w_610 w_611 w_27 w_612 rfl (by decide +kernel) ⟨Nat.le_of_ble_eq_true rfl, Nat.le_of_ble_eq_true rfl⟩) (zc_pre hbase hK hN hQ hG hS) rfl rfl hl.1 rfl (lv_room (Nat.le_of_ble_eq_true rfl)) d_Ow_findOrMake_76 ⟨(by dsimp only; omega), (by dsimp only; omega)⟩) hS (fun G76 H locs hp76 hG hS => ?_)
          obtain ⟨bq, nbq, ebq⟩ := hp76
          obtain ⟨Gu7, eGu7⟩ : ∃ z : zg_G, z = zg_up G1 bq (.inr (0, [.ref (E.2.2.2 0), .int 0, .int 0])) := ⟨_, rfl⟩
          rw [← eGu7] at ebq
          have nf_bq : G bq = none := zx.fr hx2 nbq (fun h => by rcases h with h | h <;> (have n9 := nbq; rw [h] at n9; first | (rw [k4] at n9; cases n9) | (rw [k5] at n9; cases n9)))
          have ne_bq_a : a ≠ bq := zg_fr nbq k3
          have k8 : Gu7 a = some (.inr (4, [.ref na, .ref la, cv])) := by rw [eGu7, zg_up_ne ne_bq_a]; exact k3
          have ne_bq_la : la ≠ bq := zg_fr nbq k4
          have k9 : Gu7 la = some (.inr (0, [.ref dd, .int (nI xs.length), .int k])) := by rw [eGu7, zg_up_ne ne_bq_la]; exact k4
          have ne_bq_dd : dd ≠ bq := zg_fr nbq k5
          have k10 : Gu7 dd = some (.inl (E.2.1 3, cap, .inr (.inr (.inr (.inr f))))) := by rw [eGu7, zg_up_ne ne_bq_dd]; exact k5
          have ne_bq_q71 : q71 ≠ bq := zg_fr nbq k6
          have k11 : Gu7 q71 = some (.inr (5, [.int 0, .int 0, .null])) := by rw [eGu7, zg_up_ne ne_bq_q71]; exact k6
          have k12 : Gu7 bq = some (.inr (0, [.ref (E.2.2.2 0), .int 0, .int 0])) := by rw [eGu7]; exact zg_up_self _ _ _
          have hx13 : zx (fun q => q = la ∨ q = dd) G Gu7 := hx2.tr (by rw [eGu7]; exact zx.nw nbq)
          have hx14 : zx (fun q => q = la ∨ q = dd) G G76 := by rw [ebq]; exact hx13.upn n71
          have k15 : G76 a = some (.inr (4, [.ref na, .ref la, cv])) := by rw [ebq, zg_up_ne (ne71_a)]; exact k8
          have k16 : G76 la = some (.inr (0, [.ref dd, .int (nI xs.length), .int k])) := by rw [ebq, zg_up_ne (ne71_la)]; exact k9
          have k17 : G76 dd = some (.inl (E.2.1 3, cap, .inr (.inr (.inr (.inr f))))) := by rw [ebq, zg_up_ne (ne71_dd)]; exact k10
          have k18 : G76 q71 = some (.inr (5, [.int t, .int 0, .ref bq])) := by rw [ebq]; exact zg_up_self _ _ _
          have k19 : G76 bq = some (.inr (0, [.ref (E.2.2.2 0), .int 0, .int 0])) := by rw [ebq, zg_up_ne (Ne.symm ne_bq_q71)]; exact k12
          have hGo79 := hG
          refine zk_v (va_runV (As := [.int (nI i), .ref q71]) (rest := []) ⟨hx, hb, hml, hown, hts⟩ (t_AL_add l E G76 la dd xs ⟨⟨k, k16⟩, Or.inr ⟨cap, f, k17, h0, hc, hz, hf⟩⟩ q71 ⟨5, _, k18, Or.inr (Or.inr (Or.inl rfl))⟩ hn9 B hB (fun z hz => by obtain ⟨j, hj, e⟩ := List.getElem_of_mem hz; obtain ⟨ci, fs, q1, q2⟩ := hel z hz; exact ⟨ci, fs, hx14 z _ (fun z9 => z9.elim (zg_ne q1 hla (by rcases q2 with rfl | rfl | rfl | rfl <;> (intro h; cases h))) (zg_ne q1 hd (by intro h; cases h))) q1, q2⟩) i hi) (zcV 2 hts w_636 w_221 w_222 w_6 w_223 (by decide +kernel) ⟨Nat.le_of_ble_eq_true rfl, Nat.le_of_ble_eq_true rfl⟩) (zc_preV hbase hK hN hQ hG hS k16 rfl) rfl rfl hl.1 rfl (lv_room (Nat.le_of_ble_eq_true rfl)) d_Ow_findOrMake_79 ⟨(by dsimp only; omega), (by dsimp only; omega)⟩) hS (fun G79 H locs hp79 hG hS => ?_)
          obtain ⟨d2, hL2, hd2, hx79⟩ := hp79
          have hd3 : d2 = dd ∨ G d2 = none := hd2.imp id (fun z => zx.fr hx14 z (fun h => by rcases h with h | h <;> (have n9 := z; rw [h] at n9; first | (rw [k16] at n9; cases n9) | (rw [k17] at n9; cases n9))))
          obtain ⟨k2, cap2, f2, hl2, hdd2, h02, hc2, hz2, hf2⟩ := hL2.un2 (by rw [zf_len hi]; omega)
          rw [zf_len hi] at hl2 hc2
          have k20 : G79 a = some (.inr (4, [.ref na, .ref la, cv])) := hx79 a _ (fun z => z.elim (zg_ne k15 k16 (by intro h; simp at h)) (zg_ne k15 k17 (by intro h; simp at h))) k15
          have k21 : G79 q71 = some (.inr (5, [.int t, .int 0, .ref bq])) := hx79 q71 _ (fun z => z.elim (Ne.symm ne71_la) (Ne.symm ne71_dd)) k18
          have k22 : G79 bq = some (.inr (0, [.ref (E.2.2.2 0), .int 0, .int 0])) := hx79 bq _ (fun z => z.elim (Ne.symm ne_bq_la) (Ne.symm ne_bq_dd)) k19
          have hx23 : zx (fun q => q = la ∨ q = dd) G G79 := fun q x hs hq => hx79 q x (fun z => z.elim (fun z => absurd (show (fun q => q = la ∨ q = dd) q from by subst z; exact Or.inl rfl) hs) (fun z => absurd (show (fun q => q = la ∨ q = dd) q from by subst z; exact Or.inr rfl) hs)) (hx14 q x hs hq)
          refine lv_aload_n hx hb d_Ow_findOrMake_82 rfl (lv_at hl 0 rfl) ?_
          refine zg_get (ci := 4) (C := "ZoneAnswers$Owner") (T := T_Ow) (N := 3) hx hb hts zi_Ow hown hK hG k20 rfl 1 (by decide) (hts _ w_207) (fun _ h9 => h9) rfl d_Ow_findOrMake_83 ?_
          refine lv_iload_n hx hb d_Ow_findOrMake_86 rfl (lv_at hl 2 rfl) ?_
          have hGo87 := hG
          refine zk_q (va_runV (As := [.int (nI i)]) (rest := []) ⟨hx, hb, hml, hown, hts⟩ (t_AL_get l E G79 la d2 (xs.length + 1) cap2 k2 f2 hl2 hdd2 hc2 (by omega) i (by omega)) (zcV 1 hts w_607 w_164 w_165 w_6 w_166 (by decide +kernel) ⟨Nat.le_of_ble_eq_true rfl, Nat.le_of_ble_eq_true rfl⟩) (zc_preV hbase hK hN hQ hG hS hl2 rfl) rfl rfl hl.1 rfl (lv_room (Nat.le_of_ble_eq_true rfl)) d_Ow_findOrMake_87 ⟨(by dsimp only; omega), (by dsimp only; omega)⟩) hS (fun r87 G87 H locs hp87 hG hS => ?_)
          have hG : zP E G79 H := hp87.2 ▸ hG
          refine zr_some (a := q71) (hp87.1.trans ((hf2 i).trans (zl_ins hi))) ?_
          refine zg_castY hx hb hown (hts _ w_608) hK hG k21 rfl (zN.at hN (w := .castable "ZoneAnswers$Rrset" "ZoneAnswers$Rrset") (by decide +kernel)) d_Ow_findOrMake_90 ?_
          exact hret (some q71) _ _ _ _ _ _ _ _ hr (Or.inl ⟨_, rfl⟩) (⟨i, hi, hlow, hupp, Or.inr ⟨hnew, q71, bq, d2, rfl, n71, nf_bq, hL2, hd3, hx23, k21, k22⟩⟩) hG hS (by dsimp only; omega) (by dsimp only; omega) d_Ow_findOrMake_93
        · have b45 : ¬ i = xs.length := fun q => c45 ((nI_eq (a := i) (b := xs.length) (by omega) (by omega)).mpr q)
          have hin : i < xs.length := by omega
          refine lv_aload_n hx hb d_Ow_findOrMake_48 rfl (lv_at hl 0 rfl) ?_
          refine zg_get (ci := 4) (C := "ZoneAnswers$Owner") (T := T_Ow) (N := 3) hx hb hts zi_Ow hown hK hG ha rfl 1 (by decide) (hts _ w_207) (fun _ h9 => h9) rfl d_Ow_findOrMake_49 ?_
          refine lv_iload_n hx hb d_Ow_findOrMake_52 rfl (lv_at hl 2 rfl) ?_
          have hGo53 := hG
          refine zk_q (va_runV (As := [.int (nI i)]) (rest := []) ⟨hx, hb, hml, hown, hts⟩ (t_AL_get l E G la dd xs.length cap k f hla hd hc (by omega) i hin) (zcV 1 hts w_607 w_164 w_165 w_6 w_166 (by decide +kernel) ⟨Nat.le_of_ble_eq_true rfl, Nat.le_of_ble_eq_true rfl⟩) (zc_preV hbase hK hN hQ hG hS hla rfl) rfl rfl hl.1 rfl (lv_room (Nat.le_of_ble_eq_true rfl)) d_Ow_findOrMake_53 ⟨(by dsimp only; omega), (by dsimp only; omega)⟩) hS (fun r53 G53 H locs hp53 hG hS => ?_)
          have hG : zP E G H := hp53.2 ▸ hG
          refine zr_some (a := xs.getD i 0) (hp53.1.trans ((hf i).trans (zl_at hin))) ?_
          refine zg_castY hx hb hown (hts _ w_608) hK hG (hrs i hin) rfl (zN.at hN (w := .castable "ZoneAnswers$Rrset" "ZoneAnswers$Rrset") (by decide +kernel)) d_Ow_findOrMake_56 ?_
          refine zg_get (ci := 5) (C := "ZoneAnswers$Rrset") (T := T_Rr) (N := 3) hx hb hts zi_Rr hown hK hG (hrs i hin) rfl 0 (by decide) (hts _ w_617) (fun _ h9 => h9) rfl d_Ow_findOrMake_59 ?_
          refine lv_iload_n hx hb d_Ow_findOrMake_62 rfl (lv_at hl 1 rfl) ?_
          refine lv_icmp_eq (tgt := 82) hx hb d_Ow_findOrMake_63 (by decide) (fun c63 => ?_) (fun c63 => ?_)
          · have heq : ty i = t := c63
            refine lv_aload_n hx hb d_Ow_findOrMake_82 rfl (lv_at hl 0 rfl) ?_
            refine zg_get (ci := 4) (C := "ZoneAnswers$Owner") (T := T_Ow) (N := 3) hx hb hts zi_Ow hown hK hG ha rfl 1 (by decide) (hts _ w_207) (fun _ h9 => h9) rfl d_Ow_findOrMake_83 ?_
            refine lv_iload_n hx hb d_Ow_findOrMake_86 rfl (lv_at hl 2 rfl) ?_
            have hGo87 := hG
            refine zk_q (va_runV (As := [.int (nI i)]) (rest := []) ⟨hx, hb, hml, hown, hts⟩ (t_AL_get l E G la dd xs.length cap k f hla hd hc (by omega) i hin) (zcV 1 hts w_607 w_164 w_165 w_6 w_166 (by decide +kernel) ⟨Nat.le_of_ble_eq_true rfl, Nat.le_of_ble_eq_true rfl⟩) (zc_preV hbase hK hN hQ hG hS hla rfl) rfl rfl hl.1 rfl (lv_room (Nat.le_of_ble_eq_true rfl)) d_Ow_findOrMake_87 ⟨(by dsimp only; omega), (by dsimp only; omega)⟩) hS (fun r87 G87 H locs hp87 hG hS => ?_)
            have hG : zP E G H := hp87.2 ▸ hG
            refine zr_some (a := xs.getD i 0) (hp87.1.trans ((hf i).trans (zl_at hin))) ?_
            refine zg_castY hx hb hown (hts _ w_608) hK hG (hrs i hin) rfl (zN.at hN (w := .castable "ZoneAnswers$Rrset" "ZoneAnswers$Rrset") (by decide +kernel)) d_Ow_findOrMake_90 ?_
            exact hret (some (xs.getD i 0)) _ _ _ _ _ _ _ _ hr (Or.inl ⟨_, rfl⟩) (⟨i, hi, hlow, hupp, Or.inl ⟨hin, heq, rfl, rfl⟩⟩) hG hS (by dsimp only; omega) (by dsimp only; omega) d_Ow_findOrMake_93
          · have hnew : i < xs.length → ¬ ty i = t := fun _ => c63
            refine lv_aload_n hx hb d_Ow_findOrMake_66 rfl (lv_at hl 0 rfl) ?_
            refine zg_get (ci := 4) (C := "ZoneAnswers$Owner") (T := T_Ow) (N := 3) hx hb hts zi_Ow hown hK hG ha rfl 1 (by decide) (hts _ w_207) (fun _ h9 => h9) rfl d_Ow_findOrMake_67 ?_
            refine lv_iload_n hx hb d_Ow_findOrMake_70 rfl (lv_at hl 2 rfl) ?_
            refine zg_new (ci := 5) (fs := [.int 0, .int 0, .null]) (C := "ZoneAnswers$Rrset") (T := T_Rr) (N := 3) hx hb hts zi_Rr t_Rr t_Rr_ok hown (hts _ w_608) (hts _ w_609) (hts _ w_27) hK hG hS hbase rfl (fun j hj => by rcases (show j = 0 ∨ j = 1 ∨ j = 2 by omega) with rfl | rfl | rfl <;> rfl) (by dsimp only; omega) (by dsimp only; omega) d_Ow_findOrMake_71 (fun q71 H n71 hG hS => ?_)
            obtain ⟨G24, eG24⟩ : ∃ z : zg_G, z = zg_up G q71 (.inr (5, [.int 0, .int 0, .null])) := ⟨_, rfl⟩
            have hG : zP E G24 H := by rw [eG24]; exact hG
            have hx25 : zx (fun q => q = la ∨ q = dd) G G24 := hx0.tr (by rw [eG24]; exact zx.nw n71)
            have ne71_a : a ≠ q71 := zg_fr n71 ha
            have k26 : G24 a = some (.inr (4, [.ref na, .ref la, cv])) := by rw [eG24, zg_up_ne (zg_fr n71 ha)]; exact ha
            have ne71_la : la ≠ q71 := zg_fr n71 hla
            have k27 : G24 la = some (.inr (0, [.ref dd, .int (nI xs.length), .int k])) := by rw [eG24, zg_up_ne (zg_fr n71 hla)]; exact hla
            have ne71_dd : dd ≠ q71 := zg_fr n71 hd
            have k28 : G24 dd = some (.inl (E.2.1 3, cap, .inr (.inr (.inr (.inr f))))) := by rw [eG24, zg_up_ne (zg_fr n71 hd)]; exact hd
            have k29 : G24 q71 = some (.inr (5, [.int 0, .int 0, .null])) := by rw [eG24]; exact zg_up_self _ _ _
            refine lv_dup hx hb d_Ow_findOrMake_74 rfl ?_
            refine lv_iload_n hx hb d_Ow_findOrMake_75 rfl (lv_at hl 1 rfl) ?_
            have hGo76 := hG
            refine zk_v (va_runI (As := [.int t]) (rest := [.ref q71, .int (nI i), .ref la]) ⟨hx, hb, hml, hown, hts⟩ (t_Rr_init l E G24 q71 t k29) (zcI 1 hts w_610 w_611 w_27 w_612 rfl (by decide +kernel) ⟨Nat.le_of_ble_eq_true rfl, Nat.le_of_ble_eq_true rfl⟩) (zc_pre hbase hK hN hQ hG hS) rfl rfl hl.1 rfl (lv_room (Nat.le_of_ble_eq_true rfl)) d_Ow_findOrMake_76 ⟨(by dsimp only; omega), (by dsimp only; omega)⟩) hS (fun G76 H locs hp76 hG hS => ?_)
            obtain ⟨bq, nbq, ebq⟩ := hp76
            obtain ⟨Gu30, eGu30⟩ : ∃ z : zg_G, z = zg_up G24 bq (.inr (0, [.ref (E.2.2.2 0), .int 0, .int 0])) := ⟨_, rfl⟩
            rw [← eGu30] at ebq
            have nf_bq : G bq = none := zx.fr hx25 nbq (fun h => by rcases h with h | h <;> (have n9 := nbq; rw [h] at n9; first | (rw [k27] at n9; cases n9) | (rw [k28] at n9; cases n9)))
            have ne_bq_a : a ≠ bq := zg_fr nbq k26
            have k31 : Gu30 a = some (.inr (4, [.ref na, .ref la, cv])) := by rw [eGu30, zg_up_ne ne_bq_a]; exact k26
            have ne_bq_la : la ≠ bq := zg_fr nbq k27
            have k32 : Gu30 la = some (.inr (0, [.ref dd, .int (nI xs.length), .int k])) := by rw [eGu30, zg_up_ne ne_bq_la]; exact k27
            have ne_bq_dd : dd ≠ bq := zg_fr nbq k28
            have k33 : Gu30 dd = some (.inl (E.2.1 3, cap, .inr (.inr (.inr (.inr f))))) := by rw [eGu30, zg_up_ne ne_bq_dd]; exact k28
            have ne_bq_q71 : q71 ≠ bq := zg_fr nbq k29
            have k34 : Gu30 q71 = some (.inr (5, [.int 0, .int 0, .null])) := by rw [eGu30, zg_up_ne ne_bq_q71]; exact k29
            have k35 : Gu30 bq = some (.inr (0, [.ref (E.2.2.2 0), .int 0, .int 0])) := by rw [eGu30]; exact zg_up_self _ _ _
            have hx36 : zx (fun q => q = la ∨ q = dd) G Gu30 := hx25.tr (by rw [eGu30]; exact zx.nw nbq)
            have hx37 : zx (fun q => q = la ∨ q = dd) G G76 := by rw [ebq]; exact hx36.upn n71
            have k38 : G76 a = some (.inr (4, [.ref na, .ref la, cv])) := by rw [ebq, zg_up_ne (ne71_a)]; exact k31
            have k39 : G76 la = some (.inr (0, [.ref dd, .int (nI xs.length), .int k])) := by rw [ebq, zg_up_ne (ne71_la)]; exact k32
            have k40 : G76 dd = some (.inl (E.2.1 3, cap, .inr (.inr (.inr (.inr f))))) := by rw [ebq, zg_up_ne (ne71_dd)]; exact k33
            have k41 : G76 q71 = some (.inr (5, [.int t, .int 0, .ref bq])) := by rw [ebq]; exact zg_up_self _ _ _
            have k42 : G76 bq = some (.inr (0, [.ref (E.2.2.2 0), .int 0, .int 0])) := by rw [ebq, zg_up_ne (Ne.symm ne_bq_q71)]; exact k35
            have hGo79 := hG
            refine zk_v (va_runV (As := [.int (nI i), .ref q71]) (rest := []) ⟨hx, hb, hml, hown, hts⟩ (t_AL_add l E G76 la dd xs ⟨⟨k, k39⟩, Or.inr ⟨cap, f, k40, h0, hc, hz, hf⟩⟩ q71 ⟨5, _, k41, Or.inr (Or.inr (Or.inl rfl))⟩ hn9 B hB (fun z hz => by obtain ⟨j, hj, e⟩ := List.getElem_of_mem hz; obtain ⟨ci, fs, q1, q2⟩ := hel z hz; exact ⟨ci, fs, hx37 z _ (fun z9 => z9.elim (zg_ne q1 hla (by rcases q2 with rfl | rfl | rfl | rfl <;> (intro h; cases h))) (zg_ne q1 hd (by intro h; cases h))) q1, q2⟩) i hi) (zcV 2 hts w_636 w_221 w_222 w_6 w_223 (by decide +kernel) ⟨Nat.le_of_ble_eq_true rfl, Nat.le_of_ble_eq_true rfl⟩) (zc_preV hbase hK hN hQ hG hS k39 rfl) rfl rfl hl.1 rfl (lv_room (Nat.le_of_ble_eq_true rfl)) d_Ow_findOrMake_79 ⟨(by dsimp only; omega), (by dsimp only; omega)⟩) hS (fun G79 H locs hp79 hG hS => ?_)
            obtain ⟨d2, hL2, hd2, hx79⟩ := hp79
            have hd3 : d2 = dd ∨ G d2 = none := hd2.imp id (fun z => zx.fr hx37 z (fun h => by rcases h with h | h <;> (have n9 := z; rw [h] at n9; first | (rw [k39] at n9; cases n9) | (rw [k40] at n9; cases n9))))
            obtain ⟨k2, cap2, f2, hl2, hdd2, h02, hc2, hz2, hf2⟩ := hL2.un2 (by rw [zf_len hi]; omega)
            rw [zf_len hi] at hl2 hc2
            have k43 : G79 a = some (.inr (4, [.ref na, .ref la, cv])) := hx79 a _ (fun z => z.elim (zg_ne k38 k39 (by intro h; simp at h)) (zg_ne k38 k40 (by intro h; simp at h))) k38
            have k44 : G79 q71 = some (.inr (5, [.int t, .int 0, .ref bq])) := hx79 q71 _ (fun z => z.elim (Ne.symm ne71_la) (Ne.symm ne71_dd)) k41
            have k45 : G79 bq = some (.inr (0, [.ref (E.2.2.2 0), .int 0, .int 0])) := hx79 bq _ (fun z => z.elim (Ne.symm ne_bq_la) (Ne.symm ne_bq_dd)) k42
            have hx46 : zx (fun q => q = la ∨ q = dd) G G79 := fun q x hs hq => hx79 q x (fun z => z.elim (fun z => absurd (show (fun q => q = la ∨ q = dd) q from by subst z; exact Or.inl rfl) hs) (fun z => absurd (show (fun q => q = la ∨ q = dd) q from by subst z; exact Or.inr rfl) hs)) (hx37 q x hs hq)
            refine lv_aload_n hx hb d_Ow_findOrMake_82 rfl (lv_at hl 0 rfl) ?_
            refine zg_get (ci := 4) (C := "ZoneAnswers$Owner") (T := T_Ow) (N := 3) hx hb hts zi_Ow hown hK hG k43 rfl 1 (by decide) (hts _ w_207) (fun _ h9 => h9) rfl d_Ow_findOrMake_83 ?_
            refine lv_iload_n hx hb d_Ow_findOrMake_86 rfl (lv_at hl 2 rfl) ?_
            have hGo87 := hG
            refine zk_q (va_runV (As := [.int (nI i)]) (rest := []) ⟨hx, hb, hml, hown, hts⟩ (t_AL_get l E G79 la d2 (xs.length + 1) cap2 k2 f2 hl2 hdd2 hc2 (by omega) i (by omega)) (zcV 1 hts w_607 w_164 w_165 w_6 w_166 (by decide +kernel) ⟨Nat.le_of_ble_eq_true rfl, Nat.le_of_ble_eq_true rfl⟩) (zc_preV hbase hK hN hQ hG hS hl2 rfl) rfl rfl hl.1 rfl (lv_room (Nat.le_of_ble_eq_true rfl)) d_Ow_findOrMake_87 ⟨(by dsimp only; omega), (by dsimp only; omega)⟩) hS (fun r87 G87 H locs hp87 hG hS => ?_)
            have hG : zP E G79 H := hp87.2 ▸ hG
            refine zr_some (a := q71) (hp87.1.trans ((hf2 i).trans (zl_ins hi))) ?_
            refine zg_castY hx hb hown (hts _ w_608) hK hG k44 rfl (zN.at hN (w := .castable "ZoneAnswers$Rrset" "ZoneAnswers$Rrset") (by decide +kernel)) d_Ow_findOrMake_90 ?_
            exact hret (some q71) _ _ _ _ _ _ _ _ hr (Or.inl ⟨_, rfl⟩) (⟨i, hi, hlow, hupp, Or.inr ⟨hnew, q71, bq, d2, rfl, n71, nf_bq, hL2, hd3, hx46, k44, k45⟩⟩) hG hS (by dsimp only; omega) (by dsimp only; omega) d_Ow_findOrMake_93
      · have b10 : ¬ xs.length ≤ i := fun q => c10 ((nI_leI (a := xs.length) (b := i) (by omega) (by omega)).mpr q)
        have hin : i < xs.length := by omega
        refine lv_aload_n hx hb d_Ow_findOrMake_13 rfl (lv_at hl 0 rfl) ?_
        refine zg_get (ci := 4) (C := "ZoneAnswers$Owner") (T := T_Ow) (N := 3) hx hb hts zi_Ow hown hK hG ha rfl 1 (by decide) (hts _ w_207) (fun _ h9 => h9) rfl d_Ow_findOrMake_14 ?_
        refine lv_iload_n hx hb d_Ow_findOrMake_17 rfl (lv_at hl 2 rfl) ?_
        have hGo18 := hG
        refine zk_q (va_runV (As := [.int (nI i)]) (rest := []) ⟨hx, hb, hml, hown, hts⟩ (t_AL_get l E G la dd xs.length cap k f hla hd hc (by omega) i hin) (zcV 1 hts w_607 w_164 w_165 w_6 w_166 (by decide +kernel) ⟨Nat.le_of_ble_eq_true rfl, Nat.le_of_ble_eq_true rfl⟩) (zc_preV hbase hK hN hQ hG hS hla rfl) rfl rfl hl.1 rfl (lv_room (Nat.le_of_ble_eq_true rfl)) d_Ow_findOrMake_18 ⟨(by dsimp only; omega), (by dsimp only; omega)⟩) hS (fun r18 G18 H locs hp18 hG hS => ?_)
        have hG : zP E G H := hp18.2 ▸ hG
        refine zr_some (a := xs.getD i 0) (hp18.1.trans ((hf i).trans (zl_at hin))) ?_
        refine zg_castY hx hb hown (hts _ w_608) hK hG (hrs i hin) rfl (zN.at hN (w := .castable "ZoneAnswers$Rrset" "ZoneAnswers$Rrset") (by decide +kernel)) d_Ow_findOrMake_21 ?_
        refine zg_get (ci := 5) (C := "ZoneAnswers$Rrset") (T := T_Rr) (N := 3) hx hb hts zi_Rr hown hK hG (hrs i hin) rfl 0 (by decide) (hts _ w_617) (fun _ h9 => h9) rfl d_Ow_findOrMake_24 ?_
        refine lv_iload_n hx hb d_Ow_findOrMake_27 rfl (lv_at hl 1 rfl) ?_
        refine lv_icmp_ge (tgt := 37) hx hb d_Ow_findOrMake_28 (by decide) (fun c28 => ?_) (fun c28 => ?_)
        · have hupp : i < xs.length → ¬ ty i < t := fun _ => Int32.not_lt.mpr c28
          refine lv_iload_n hx hb d_Ow_findOrMake_37 rfl (lv_at hl 2 rfl) ?_
          refine lv_aload_n hx hb d_Ow_findOrMake_38 rfl (lv_at hl 0 rfl) ?_
          refine zg_get (ci := 4) (C := "ZoneAnswers$Owner") (T := T_Ow) (N := 3) hx hb hts zi_Ow hown hK hG ha rfl 1 (by decide) (hts _ w_207) (fun _ h9 => h9) rfl d_Ow_findOrMake_39 ?_
          refine zk_i (va_runV (As := []) (rest := [.int (nI i)]) ⟨hx, hb, hml, hown, hts⟩ (t_AL_size l E G la (.ref dd) (nI xs.length) k hla) (zcV 0 hts w_606 w_160 w_161 w_6 w_162 (by decide +kernel) ⟨Nat.le_of_ble_eq_true rfl, Nat.le_of_ble_eq_true rfl⟩) (zc_preV hbase hK hN hQ hG hS hla rfl) rfl rfl hl.1 rfl (lv_room (Nat.le_of_ble_eq_true rfl)) d_Ow_findOrMake_42 ⟨(by dsimp only; omega), (by dsimp only; omega)⟩) hS (fun r42 G42 H locs hp42 hG hS => ?_)
          have hG : zP E G H := hp42.2 ▸ hG
          refine zi_as (y := nI xs.length) hp42.1 ?_
          refine lv_icmp_eq (tgt := 66) hx hb d_Ow_findOrMake_45 (by decide) (fun c45 => ?_) (fun c45 => ?_)
          · have b45 : i = xs.length := (nI_eq (a := i) (b := xs.length) (by omega) (by omega)).mp c45
            have hnew : i < xs.length → ¬ ty i = t := fun q => absurd q (by omega)
            refine lv_aload_n hx hb d_Ow_findOrMake_66 rfl (lv_at hl 0 rfl) ?_
            refine zg_get (ci := 4) (C := "ZoneAnswers$Owner") (T := T_Ow) (N := 3) hx hb hts zi_Ow hown hK hG ha rfl 1 (by decide) (hts _ w_207) (fun _ h9 => h9) rfl d_Ow_findOrMake_67 ?_
            refine lv_iload_n hx hb d_Ow_findOrMake_70 rfl (lv_at hl 2 rfl) ?_
            refine zg_new (ci := 5) (fs := [.int 0, .int 0, .null]) (C := "ZoneAnswers$Rrset") (T := T_Rr) (N := 3) hx hb hts zi_Rr t_Rr t_Rr_ok hown (hts _ w_608) (hts _ w_609) (hts _ w_27) hK hG hS hbase rfl (fun j hj => by rcases (show j = 0 ∨ j = 1 ∨ j = 2 by omega) with rfl | rfl | rfl <;> rfl) (by dsimp only; omega) (by dsimp only; omega) d_Ow_findOrMake_71 (fun q71 H n71 hG hS => ?_)
            obtain ⟨G47, eG47⟩ : ∃ z : zg_G, z = zg_up G q71 (.inr (5, [.int 0, .int 0, .null])) := ⟨_, rfl⟩
            have hG : zP E G47 H := by rw [eG47]; exact hG
            have hx48 : zx (fun q => q = la ∨ q = dd) G G47 := hx0.tr (by rw [eG47]; exact zx.nw n71)
            have ne71_a : a ≠ q71 := zg_fr n71 ha
            have k49 : G47 a = some (.inr (4, [.ref na, .ref la, cv])) := by rw [eG47, zg_up_ne (zg_fr n71 ha)]; exact ha
            have ne71_la : la ≠ q71 := zg_fr n71 hla
            have k50 : G47 la = some (.inr (0, [.ref dd, .int (nI xs.length), .int k])) := by rw [eG47, zg_up_ne (zg_fr n71 hla)]; exact hla
            have ne71_dd : dd ≠ q71 := zg_fr n71 hd
            have k51 : G47 dd = some (.inl (E.2.1 3, cap, .inr (.inr (.inr (.inr f))))) := by rw [eG47, zg_up_ne (zg_fr n71 hd)]; exact hd
            have k52 : G47 q71 = some (.inr (5, [.int 0, .int 0, .null])) := by rw [eG47]; exact zg_up_self _ _ _
            refine lv_dup hx hb d_Ow_findOrMake_74 rfl ?_
            refine lv_iload_n hx hb d_Ow_findOrMake_75 rfl (lv_at hl 1 rfl) ?_
            have hGo76 := hG
            refine zk_v (va_runI (As := [.int t]) (rest := [.ref q71, .int (nI i), .ref la]) ⟨hx, hb, hml, hown, hts⟩ (t_Rr_init l E G47 q71 t k52) (zcI 1 hts w_610 w_611 w_27 w_612 rfl (by decide +kernel) ⟨Nat.le_of_ble_eq_true rfl, Nat.le_of_ble_eq_true rfl⟩) (zc_pre hbase hK hN hQ hG hS) rfl rfl hl.1 rfl (lv_room (Nat.le_of_ble_eq_true rfl)) d_Ow_findOrMake_76 ⟨(by dsimp only; omega), (by dsimp only; omega)⟩) hS (fun G76 H locs hp76 hG hS => ?_)
            obtain ⟨bq, nbq, ebq⟩ := hp76
            obtain ⟨Gu53, eGu53⟩ : ∃ z : zg_G, z = zg_up G47 bq (.inr (0, [.ref (E.2.2.2 0), .int 0, .int 0])) := ⟨_, rfl⟩
            rw [← eGu53] at ebq
            have nf_bq : G bq = none := zx.fr hx48 nbq (fun h => by rcases h with h | h <;> (have n9 := nbq; rw [h] at n9; first | (rw [k50] at n9; cases n9) | (rw [k51] at n9; cases n9)))
            have ne_bq_a : a ≠ bq := zg_fr nbq k49
            have k54 : Gu53 a = some (.inr (4, [.ref na, .ref la, cv])) := by rw [eGu53, zg_up_ne ne_bq_a]; exact k49
            have ne_bq_la : la ≠ bq := zg_fr nbq k50
            have k55 : Gu53 la = some (.inr (0, [.ref dd, .int (nI xs.length), .int k])) := by rw [eGu53, zg_up_ne ne_bq_la]; exact k50
            have ne_bq_dd : dd ≠ bq := zg_fr nbq k51
            have k56 : Gu53 dd = some (.inl (E.2.1 3, cap, .inr (.inr (.inr (.inr f))))) := by rw [eGu53, zg_up_ne ne_bq_dd]; exact k51
            have ne_bq_q71 : q71 ≠ bq := zg_fr nbq k52
            have k57 : Gu53 q71 = some (.inr (5, [.int 0, .int 0, .null])) := by rw [eGu53, zg_up_ne ne_bq_q71]; exact k52
            have k58 : Gu53 bq = some (.inr (0, [.ref (E.2.2.2 0), .int 0, .int 0])) := by rw [eGu53]; exact zg_up_self _ _ _
            have hx59 : zx (fun q => q = la ∨ q = dd) G Gu53 := hx48.tr (by rw [eGu53]; exact zx.nw nbq)
            have hx60 : zx (fun q => q = la ∨ q = dd) G G76 := by rw [ebq]; exact hx59.upn n71
            have k61 : G76 a = some (.inr (4, [.ref na, .ref la, cv])) := by rw [ebq, zg_up_ne (ne71_a)]; exact k54
            have k62 : G76 la = some (.inr (0, [.ref dd, .int (nI xs.length), .int k])) := by rw [ebq, zg_up_ne (ne71_la)]; exact k55
            have k63 : G76 dd = some (.inl (E.2.1 3, cap, .inr (.inr (.inr (.inr f))))) := by rw [ebq, zg_up_ne (ne71_dd)]; exact k56
            have k64 : G76 q71 = some (.inr (5, [.int t, .int 0, .ref bq])) := by rw [ebq]; exact zg_up_self _ _ _
            have k65 : G76 bq = some (.inr (0, [.ref (E.2.2.2 0), .int 0, .int 0])) := by rw [ebq, zg_up_ne (Ne.symm ne_bq_q71)]; exact k58
            have hGo79 := hG
            refine zk_v (va_runV (As := [.int (nI i), .ref q71]) (rest := []) ⟨hx, hb, hml, hown, hts⟩ (t_AL_add l E G76 la dd xs ⟨⟨k, k62⟩, Or.inr ⟨cap, f, k63, h0, hc, hz, hf⟩⟩ q71 ⟨5, _, k64, Or.inr (Or.inr (Or.inl rfl))⟩ hn9 B hB (fun z hz => by obtain ⟨j, hj, e⟩ := List.getElem_of_mem hz; obtain ⟨ci, fs, q1, q2⟩ := hel z hz; exact ⟨ci, fs, hx60 z _ (fun z9 => z9.elim (zg_ne q1 hla (by rcases q2 with rfl | rfl | rfl | rfl <;> (intro h; cases h))) (zg_ne q1 hd (by intro h; cases h))) q1, q2⟩) i hi) (zcV 2 hts w_636 w_221 w_222 w_6 w_223 (by decide +kernel) ⟨Nat.le_of_ble_eq_true rfl, Nat.le_of_ble_eq_true rfl⟩) (zc_preV hbase hK hN hQ hG hS k62 rfl) rfl rfl hl.1 rfl (lv_room (Nat.le_of_ble_eq_true rfl)) d_Ow_findOrMake_79 ⟨(by dsimp only; omega), (by dsimp only; omega)⟩) hS (fun G79 H locs hp79 hG hS => ?_)
            obtain ⟨d2, hL2, hd2, hx79⟩ := hp79
            have hd3 : d2 = dd ∨ G d2 = none := hd2.imp id (fun z => zx.fr hx60 z (fun h => by rcases h with h | h <;> (have n9 := z; rw [h] at n9; first | (rw [k62] at n9; cases n9) | (rw [k63] at n9; cases n9))))
            obtain ⟨k2, cap2, f2, hl2, hdd2, h02, hc2, hz2, hf2⟩ := hL2.un2 (by rw [zf_len hi]; omega)
            rw [zf_len hi] at hl2 hc2
            have k66 : G79 a = some (.inr (4, [.ref na, .ref la, cv])) := hx79 a _ (fun z => z.elim (zg_ne k61 k62 (by intro h; simp at h)) (zg_ne k61 k63 (by intro h; simp at h))) k61
            have k67 : G79 q71 = some (.inr (5, [.int t, .int 0, .ref bq])) := hx79 q71 _ (fun z => z.elim (Ne.symm ne71_la) (Ne.symm ne71_dd)) k64
            have k68 : G79 bq = some (.inr (0, [.ref (E.2.2.2 0), .int 0, .int 0])) := hx79 bq _ (fun z => z.elim (Ne.symm ne_bq_la) (Ne.symm ne_bq_dd)) k65
            have hx69 : zx (fun q => q = la ∨ q = dd) G G79 := fun q x hs hq => hx79 q x (fun z => z.elim (fun z => absurd (show (fun q => q = la ∨ q = dd) q from by subst z; exact Or.inl rfl) hs) (fun z => absurd (show (fun q => q = la ∨ q = dd) q from by subst z; exact Or.inr rfl) hs)) (hx60 q x hs hq)
            refine lv_aload_n hx hb d_Ow_findOrMake_82 rfl (lv_at hl 0 rfl) ?_
            refine zg_get (ci := 4) (C := "ZoneAnswers$Owner") (T := T_Ow) (N := 3) hx hb hts zi_Ow hown hK hG k66 rfl 1 (by decide) (hts _ w_207) (fun _ h9 => h9) rfl d_Ow_findOrMake_83 ?_
            refine lv_iload_n hx hb d_Ow_findOrMake_86 rfl (lv_at hl 2 rfl) ?_
            have hGo87 := hG
            refine zk_q (va_runV (As := [.int (nI i)]) (rest := []) ⟨hx, hb, hml, hown, hts⟩ (t_AL_get l E G79 la d2 (xs.length + 1) cap2 k2 f2 hl2 hdd2 hc2 (by omega) i (by omega)) (zcV 1 hts w_607 w_164 w_165 w_6 w_166 (by decide +kernel) ⟨Nat.le_of_ble_eq_true rfl, Nat.le_of_ble_eq_true rfl⟩) (zc_preV hbase hK hN hQ hG hS hl2 rfl) rfl rfl hl.1 rfl (lv_room (Nat.le_of_ble_eq_true rfl)) d_Ow_findOrMake_87 ⟨(by dsimp only; omega), (by dsimp only; omega)⟩) hS (fun r87 G87 H locs hp87 hG hS => ?_)
            have hG : zP E G79 H := hp87.2 ▸ hG
            refine zr_some (a := q71) (hp87.1.trans ((hf2 i).trans (zl_ins hi))) ?_
            refine zg_castY hx hb hown (hts _ w_608) hK hG k67 rfl (zN.at hN (w := .castable "ZoneAnswers$Rrset" "ZoneAnswers$Rrset") (by decide +kernel)) d_Ow_findOrMake_90 ?_
            exact hret (some q71) _ _ _ _ _ _ _ _ hr (Or.inl ⟨_, rfl⟩) (⟨i, hi, hlow, hupp, Or.inr ⟨hnew, q71, bq, d2, rfl, n71, nf_bq, hL2, hd3, hx69, k67, k68⟩⟩) hG hS (by dsimp only; omega) (by dsimp only; omega) d_Ow_findOrMake_93
          · have b45 : ¬ i = xs.length := fun q => c45 ((nI_eq (a := i) (b := xs.length) (by omega) (by omega)).mpr q)
            have hin : i < xs.length := by omega
            refine lv_aload_n hx hb d_Ow_findOrMake_48 rfl (lv_at hl 0 rfl) ?_
            refine zg_get (ci := 4) (C := "ZoneAnswers$Owner") (T := T_Ow) (N := 3) hx hb hts zi_Ow hown hK hG ha rfl 1 (by decide) (hts _ w_207) (fun _ h9 => h9) rfl d_Ow_findOrMake_49 ?_
            refine lv_iload_n hx hb d_Ow_findOrMake_52 rfl (lv_at hl 2 rfl) ?_
            have hGo53 := hG
            refine zk_q (va_runV (As := [.int (nI i)]) (rest := []) ⟨hx, hb, hml, hown, hts⟩ (t_AL_get l E G la dd xs.length cap k f hla hd hc (by omega) i hin) (zcV 1 hts w_607 w_164 w_165 w_6 w_166 (by decide +kernel) ⟨Nat.le_of_ble_eq_true rfl, Nat.le_of_ble_eq_true rfl⟩) (zc_preV hbase hK hN hQ hG hS hla rfl) rfl rfl hl.1 rfl (lv_room (Nat.le_of_ble_eq_true rfl)) d_Ow_findOrMake_53 ⟨(by dsimp only; omega), (by dsimp only; omega)⟩) hS (fun r53 G53 H locs hp53 hG hS => ?_)
            have hG : zP E G H := hp53.2 ▸ hG
            refine zr_some (a := xs.getD i 0) (hp53.1.trans ((hf i).trans (zl_at hin))) ?_
            refine zg_castY hx hb hown (hts _ w_608) hK hG (hrs i hin) rfl (zN.at hN (w := .castable "ZoneAnswers$Rrset" "ZoneAnswers$Rrset") (by decide +kernel)) d_Ow_findOrMake_56 ?_
            refine zg_get (ci := 5) (C := "ZoneAnswers$Rrset") (T := T_Rr) (N := 3) hx hb hts zi_Rr hown hK hG (hrs i hin) rfl 0 (by decide) (hts _ w_617) (fun _ h9 => h9) rfl d_Ow_findOrMake_59 ?_
            refine lv_iload_n hx hb d_Ow_findOrMake_62 rfl (lv_at hl 1 rfl) ?_
            refine lv_icmp_eq (tgt := 82) hx hb d_Ow_findOrMake_63 (by decide) (fun c63 => ?_) (fun c63 => ?_)
            · have heq : ty i = t := c63
              refine lv_aload_n hx hb d_Ow_findOrMake_82 rfl (lv_at hl 0 rfl) ?_
              refine zg_get (ci := 4) (C := "ZoneAnswers$Owner") (T := T_Ow) (N := 3) hx hb hts zi_Ow hown hK hG ha rfl 1 (by decide) (hts _ w_207) (fun _ h9 => h9) rfl d_Ow_findOrMake_83 ?_
              refine lv_iload_n hx hb d_Ow_findOrMake_86 rfl (lv_at hl 2 rfl) ?_
              have hGo87 := hG
              refine zk_q (va_runV (As := [.int (nI i)]) (rest := []) ⟨hx, hb, hml, hown, hts⟩ (t_AL_get l E G la dd xs.length cap k f hla hd hc (by omega) i hin) (zcV 1 hts w_607 w_164 w_165 w_6 w_166 (by decide +kernel) ⟨Nat.le_of_ble_eq_true rfl, Nat.le_of_ble_eq_true rfl⟩) (zc_preV hbase hK hN hQ hG hS hla rfl) rfl rfl hl.1 rfl (lv_room (Nat.le_of_ble_eq_true rfl)) d_Ow_findOrMake_87 ⟨(by dsimp only; omega), (by dsimp only; omega)⟩) hS (fun r87 G87 H locs hp87 hG hS => ?_)
              have hG : zP E G H := hp87.2 ▸ hG
              refine zr_some (a := xs.getD i 0) (hp87.1.trans ((hf i).trans (zl_at hin))) ?_
              refine zg_castY hx hb hown (hts _ w_608) hK hG (hrs i hin) rfl (zN.at hN (w := .castable "ZoneAnswers$Rrset" "ZoneAnswers$Rrset") (by decide +kernel)) d_Ow_findOrMake_90 ?_
              exact hret (some (xs.getD i 0)) _ _ _ _ _ _ _ _ hr (Or.inl ⟨_, rfl⟩) (⟨i, hi, hlow, hupp, Or.inl ⟨hin, heq, rfl, rfl⟩⟩) hG hS (by dsimp only; omega) (by dsimp only; omega) d_Ow_findOrMake_93
            · have hnew : i < xs.length → ¬ ty i = t := fun _ => c63
              refine lv_aload_n hx hb d_Ow_findOrMake_66 rfl (lv_at hl 0 rfl) ?_
              refine zg_get (ci := 4) (C := "ZoneAnswers$Owner") (T := T_Ow) (N := 3) hx hb hts zi_Ow hown hK hG ha rfl 1 (by decide) (hts _ w_207) (fun _ h9 => h9) rfl d_Ow_findOrMake_67 ?_
              refine lv_iload_n hx hb d_Ow_findOrMake_70 rfl (lv_at hl 2 rfl) ?_
              refine zg_new (ci := 5) (fs := [.int 0, .int 0, .null]) (C := "ZoneAnswers$Rrset") (T := T_Rr) (N := 3) hx hb hts zi_Rr t_Rr t_Rr_ok hown (hts _ w_608) (hts _ w_609) (hts _ w_27) hK hG hS hbase rfl (fun j hj => by rcases (show j = 0 ∨ j = 1 ∨ j = 2 by omega) with rfl | rfl | rfl <;> rfl) (by dsimp only; omega) (by dsimp only; omega) d_Ow_findOrMake_71 (fun q71 H n71 hG hS => ?_)
              obtain ⟨G70, eG70⟩ : ∃ z : zg_G, z = zg_up G q71 (.inr (5, [.int 0, .int 0, .null])) := ⟨_, rfl⟩
              have hG : zP E G70 H := by rw [eG70]; exact hG
              have hx71 : zx (fun q => q = la ∨ q = dd) G G70 := hx0.tr (by rw [eG70]; exact zx.nw n71)
              have ne71_a : a ≠ q71 := zg_fr n71 ha
              have k72 : G70 a = some (.inr (4, [.ref na, .ref la, cv])) := by rw [eG70, zg_up_ne (zg_fr n71 ha)]; exact ha
              have ne71_la : la ≠ q71 := zg_fr n71 hla
              have k73 : G70 la = some (.inr (0, [.ref dd, .int (nI xs.length), .int k])) := by rw [eG70, zg_up_ne (zg_fr n71 hla)]; exact hla
              have ne71_dd : dd ≠ q71 := zg_fr n71 hd
              have k74 : G70 dd = some (.inl (E.2.1 3, cap, .inr (.inr (.inr (.inr f))))) := by rw [eG70, zg_up_ne (zg_fr n71 hd)]; exact hd
              have k75 : G70 q71 = some (.inr (5, [.int 0, .int 0, .null])) := by rw [eG70]; exact zg_up_self _ _ _
              refine lv_dup hx hb d_Ow_findOrMake_74 rfl ?_
              refine lv_iload_n hx hb d_Ow_findOrMake_75 rfl (lv_at hl 1 rfl) ?_
              have hGo76 := hG
              refine zk_v (va_runI (As := [.int t]) (rest := [.ref q71, .int (nI i), .ref la]) ⟨hx, hb, hml, hown, hts⟩ (t_Rr_init l E G70 q71 t k75) (zcI 1 hts w_610 w_611 w_27 w_612 rfl (by decide +kernel) ⟨Nat.le_of_ble_eq_true rfl, Nat.le_of_ble_eq_true rfl⟩) (zc_pre hbase hK hN hQ hG hS) rfl rfl hl.1 rfl (lv_room (Nat.le_of_ble_eq_true rfl)) d_Ow_findOrMake_76 ⟨(by dsimp only; omega), (by dsimp only; omega)⟩) hS (fun G76 H locs hp76 hG hS => ?_)
              obtain ⟨bq, nbq, ebq⟩ := hp76
              obtain ⟨Gu76, eGu76⟩ : ∃ z : zg_G, z = zg_up G70 bq (.inr (0, [.ref (E.2.2.2 0), .int 0, .int 0])) := ⟨_, rfl⟩
              rw [← eGu76] at ebq
              have nf_bq : G bq = none := zx.fr hx71 nbq (fun h => by rcases h with h | h <;> (have n9 := nbq; rw [h] at n9; first | (rw [k73] at n9; cases n9) | (rw [k74] at n9; cases n9)))
              have ne_bq_a : a ≠ bq := zg_fr nbq k72
              have k77 : Gu76 a = some (.inr (4, [.ref na, .ref la, cv])) := by rw [eGu76, zg_up_ne ne_bq_a]; exact k72
              have ne_bq_la : la ≠ bq := zg_fr nbq k73
              have k78 : Gu76 la = some (.inr (0, [.ref dd, .int (nI xs.length), .int k])) := by rw [eGu76, zg_up_ne ne_bq_la]; exact k73
              have ne_bq_dd : dd ≠ bq := zg_fr nbq k74
              have k79 : Gu76 dd = some (.inl (E.2.1 3, cap, .inr (.inr (.inr (.inr f))))) := by rw [eGu76, zg_up_ne ne_bq_dd]; exact k74
              have ne_bq_q71 : q71 ≠ bq := zg_fr nbq k75
              have k80 : Gu76 q71 = some (.inr (5, [.int 0, .int 0, .null])) := by rw [eGu76, zg_up_ne ne_bq_q71]; exact k75
              have k81 : Gu76 bq = some (.inr (0, [.ref (E.2.2.2 0), .int 0, .int 0])) := by rw [eGu76]; exact zg_up_self _ _ _
              have hx82 : zx (fun q => q = la ∨ q = dd) G Gu76 := hx71.tr (by rw [eGu76]; exact zx.nw nbq)
              have hx83 : zx (fun q => q = la ∨ q = dd) G G76 := by rw [ebq]; exact hx82.upn n71
              have k84 : G76 a = some (.inr (4, [.ref na, .ref la, cv])) := by rw [ebq, zg_up_ne (ne71_a)]; exact k77
              have k85 : G76 la = some (.inr (0, [.ref dd, .int (nI xs.length), .int k])) := by rw [ebq, zg_up_ne (ne71_la)]; exact k78
              have k86 : G76 dd = some (.inl (E.2.1 3, cap, .inr (.inr (.inr (.inr f))))) := by rw [ebq, zg_up_ne (ne71_dd)]; exact k79
              have k87 : G76 q71 = some (.inr (5, [.int t, .int 0, .ref bq])) := by rw [ebq]; exact zg_up_self _ _ _
              have k88 : G76 bq = some (.inr (0, [.ref (E.2.2.2 0), .int 0, .int 0])) := by rw [ebq, zg_up_ne (Ne.symm ne_bq_q71)]; exact k81
              have hGo79 := hG
              refine zk_v (va_runV (As := [.int (nI i), .ref q71]) (rest := []) ⟨hx, hb, hml, hown, hts⟩ (t_AL_add l E G76 la dd xs ⟨⟨k, k85⟩, Or.inr ⟨cap, f, k86, h0, hc, hz, hf⟩⟩ q71 ⟨5, _, k87, Or.inr (Or.inr (Or.inl rfl))⟩ hn9 B hB (fun z hz => by obtain ⟨j, hj, e⟩ := List.getElem_of_mem hz; obtain ⟨ci, fs, q1, q2⟩ := hel z hz; exact ⟨ci, fs, hx83 z _ (fun z9 => z9.elim (zg_ne q1 hla (by rcases q2 with rfl | rfl | rfl | rfl <;> (intro h; cases h))) (zg_ne q1 hd (by intro h; cases h))) q1, q2⟩) i hi) (zcV 2 hts w_636 w_221 w_222 w_6 w_223 (by decide +kernel) ⟨Nat.le_of_ble_eq_true rfl, Nat.le_of_ble_eq_true rfl⟩) (zc_preV hbase hK hN hQ hG hS k85 rfl) rfl rfl hl.1 rfl (lv_room (Nat.le_of_ble_eq_true rfl)) d_Ow_findOrMake_79 ⟨(by dsimp only; omega), (by dsimp only; omega)⟩) hS (fun G79 H locs hp79 hG hS => ?_)
              obtain ⟨d2, hL2, hd2, hx79⟩ := hp79
              have hd3 : d2 = dd ∨ G d2 = none := hd2.imp id (fun z => zx.fr hx83 z (fun h => by rcases h with h | h <;> (have n9 := z; rw [h] at n9; first | (rw [k85] at n9; cases n9) | (rw [k86] at n9; cases n9))))
              obtain ⟨k2, cap2, f2, hl2, hdd2, h02, hc2, hz2, hf2⟩ := hL2.un2 (by rw [zf_len hi]; omega)
              rw [zf_len hi] at hl2 hc2
              have k89 : G79 a = some (.inr (4, [.ref na, .ref la, cv])) := hx79 a _ (fun z => z.elim (zg_ne k84 k85 (by intro h; simp at h)) (zg_ne k84 k86 (by intro h; simp at h))) k84
              have k90 : G79 q71 = some (.inr (5, [.int t, .int 0, .ref bq])) := hx79 q71 _ (fun z => z.elim (Ne.symm ne71_la) (Ne.symm ne71_dd)) k87
              have k91 : G79 bq = some (.inr (0, [.ref (E.2.2.2 0), .int 0, .int 0])) := hx79 bq _ (fun z => z.elim (Ne.symm ne_bq_la) (Ne.symm ne_bq_dd)) k88
              have hx92 : zx (fun q => q = la ∨ q = dd) G G79 := fun q x hs hq => hx79 q x (fun z => z.elim (fun z => absurd (show (fun q => q = la ∨ q = dd) q from by subst z; exact Or.inl rfl) hs) (fun z => absurd (show (fun q => q = la ∨ q = dd) q from by subst z; exact Or.inr rfl) hs)) (hx83 q x hs hq)
              refine lv_aload_n hx hb d_Ow_findOrMake_82 rfl (lv_at hl 0 rfl) ?_
              refine zg_get (ci := 4) (C := "ZoneAnswers$Owner") (T := T_Ow) (N := 3) hx hb hts zi_Ow hown hK hG k89 rfl 1 (by decide) (hts _ w_207) (fun _ h9 => h9) rfl d_Ow_findOrMake_83 ?_
              refine lv_iload_n hx hb d_Ow_findOrMake_86 rfl (lv_at hl 2 rfl) ?_
              have hGo87 := hG
              refine zk_q (va_runV (As := [.int (nI i)]) (rest := []) ⟨hx, hb, hml, hown, hts⟩ (t_AL_get l E G79 la d2 (xs.length + 1) cap2 k2 f2 hl2 hdd2 hc2 (by omega) i (by omega)) (zcV 1 hts w_607 w_164 w_165 w_6 w_166 (by decide +kernel) ⟨Nat.le_of_ble_eq_true rfl, Nat.le_of_ble_eq_true rfl⟩) (zc_preV hbase hK hN hQ hG hS hl2 rfl) rfl rfl hl.1 rfl (lv_room (Nat.le_of_ble_eq_true rfl)) d_Ow_findOrMake_87 ⟨(by dsimp only; omega), (by dsimp only; omega)⟩) hS (fun r87 G87 H locs hp87 hG hS => ?_)
              have hG : zP E G79 H := hp87.2 ▸ hG
              refine zr_some (a := q71) (hp87.1.trans ((hf2 i).trans (zl_ins hi))) ?_
              refine zg_castY hx hb hown (hts _ w_608) hK hG k90 rfl (zN.at hN (w := .castable "ZoneAnswers$Rrset" "ZoneAnswers$Rrset") (by decide +kernel)) d_Ow_findOrMake_90 ?_
              exact hret (some q71) _ _ _ _ _ _ _ _ hr (Or.inl ⟨_, rfl⟩) (⟨i, hi, hlow, hupp, Or.inr ⟨hnew, q71, bq, d2, rfl, n71, nf_bq, hL2, hd3, hx92, k90, k91⟩⟩) hG hS (by dsimp only; omega) (by dsimp only; omega) d_Ow_findOrMake_93
        · refine lv_iinc (v := nI (i + 1)) (lv' := [(2, .int (nI (i + 1))), (0, .ref a), (1, .int t)]) hx hb d_Ow_findOrMake_31 hl (k := 2) rfl (nI_add i 1) (by decide) rfl (fun ls hl => ?_)
          refine lv_goto (tgt := 2) hx hb d_Ow_findOrMake_34 (by decide) ?_
          exact ih (i + 1) _ _ (by omega) (by omega) (fun j hj => by rcases Nat.lt_or_ge j i with q | q; exact hlow j q; rw [show j = i by omega]; exact Int32.not_le.mp c28) hG hS ls (lv_sub hl [1, 2, 0] rfl)
  exact loop2 _ 0 _ _ (Nat.lt_succ_self _) (Nat.zero_le _) (fun j h => absurd h (Nat.not_lt_zero j)) hG hS ls (lv_sub hl [1, 2, 0] rfl)
