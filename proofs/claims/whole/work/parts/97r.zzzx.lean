/-! THE REFERENCE BETWEEN TWO CALLS -/
/-- the reference between two calls: nothing said of the answers' marks -/
def rO (E : zc_E) (G : zg_G) (ro : zRo) (a c1 c2 : Nat) (lo : np_N) (rs : List zRt) (W : zW) (tp : List Int32) (th : Int32) : Prop := ∃ co se v19 v20, (se = 0 ∨ se = 1) ∧ rSt E G ro a c1 c2 lo rs W [] False (0, 0, [], []) th tp co se v19 v20
theorem rSt.o {E : zc_E} {G : zg_G} {ro : zRo} {a c1 c2 : Nat} {lo : np_N} {rs : List zRt} {W : zW} {qp : Prop} {nq : Nat × Int32 × np_N × zWs} {th co se : Int32} {tp : List Int32} {v19 v20 : Value} (hs : rSt E G ro a c1 c2 lo rs W [] qp nq th tp co se v19 v20) (hse : se = 0 ∨ se = 1) : rO E G ro a c1 c2 lo rs W tp th := ⟨co, se, v19, v20, hse, hs.q0⟩
/-- the tape cut short -/
theorem rSt.tk {E : zc_E} {G : zg_G} {ro : zRo} {a c1 c2 : Nat} {lo : np_N} {rs : List zRt} {W : zW} {px : List Int32} {qp : Prop} {nq : Nat × Int32 × np_N × zWs} {th co se : Int32} {tp : List Int32} {v19 v20 : Value} (hs : rSt E G ro a c1 c2 lo rs W px qp nq th tp co se v19 v20) {h : Nat → Nat} (n : Nat) (hn : n ≤ tp.length) (x1 x2 th2 : Int32) (he : G a = some (.inr (11, [.int x1, .ref (h 1), .int x2, .ref (h 3), .ref (h 4), .int (nI rs.length), .ref (h 6), .ref (h 7), .ref (h 8), .ref (h 9), .ref (h 10), .ref (h 11), .ref (h 12), .int (nI (wln W)), .int co, .ref (h 15), .int (nI (rPw W + px.length)), .int se, .ref (h 18), v19, v20]))) : rSt E (zg_up G a (.inr (11, [.int th2, .ref (h 1), .int (nI n), .ref (h 3), .ref (h 4), .int (nI rs.length), .ref (h 6), .ref (h 7), .ref (h 8), .ref (h 9), .ref (h 10), .ref (h 11), .ref (h 12), .int (nI (wln W)), .int co, .ref (h 15), .int (nI (rPw W + px.length)), .int se, .ref (h 18), v19, v20]))) ro a c1 c2 lo rs W px qp nq th2 (tp.take n) co se v19 v20 ∧ zfr ro zKr G ro (zg_up G a (.inr (11, [.int th2, .ref (h 1), .int (nI n), .ref (h 3), .ref (h 4), .int (nI rs.length), .ref (h 6), .ref (h 7), .ref (h 8), .ref (h 9), .ref (h 10), .ref (h 11), .ref (h 12), .int (nI (wln W)), .int co, .ref (h 15), .int (nI (rPw W + px.length)), .int se, .ref (h 18), v19, v20]))) := by
  obtain ⟨k, rfl, e1, e2, hc⟩ := hs
  have q := hc.cell (th2 := th2) (co2 := co) (se2 := se) (w19 := v19) (w20 := v20) n hn
  have ha := hc.1
  rw [he] at ha
  have e := (Prod.mk.inj (Sum.inr.inj (Option.some.inj ha))).2
  simp only [List.cons.injEq, Value.ref.injEq, Value.int.injEq, and_true, true_and] at e
  obtain ⟨-, k1, -, k3, k4, k6, k7, k8, k9, k10, k11, k12, k15, k18⟩ := e
  rw [k1, k3, k4, k6, k7, k8, k9, k10, k11, k12, k15, k18]
  exact ⟨⟨k, rfl, e1, e2, q.1⟩, q.2⟩
theorem rco_sz {lo : np_N} {rs : List zRt} {x : np_N} (h : vco (rVf rs) lo x = some x) : zcut lo rs (x.drop 0) := by
  obtain ⟨c1, c2, c3, c4⟩ := rct_c (vco_s h).1
  rw [Nat.sub_self] at c4; exact c4
theorem rco_selfy {lo : np_N} {rs : List zRt} {x : np_N} (_ : rGd lo rs) (hlo : lo <:+ x) (hna : ¬ vaw (rVf rs) lo x) (h : zcut lo rs (x.drop 0)) : vco (rVf rs) lo x = some x := by
  rw [List.drop_zero] at h
  obtain ⟨h1, h2⟩ := zcut_V.mp h
  have hc : isCt (rVf rs) lo x x := ⟨List.suffix_refl _, by
    rcases Nat.lt_or_ge lo.length x.length with q | q
    · exact q
    · exact absurd (hlo.eq_of_length (Nat.le_antisymm hlo.length_le q)).symm h1, h2⟩
  obtain ⟨d, hd⟩ := isCo_ex _ _ (Nat.le_refl _) hc
  by_cases e : d = x
  · rw [← e] at hd ⊢; exact vco_y hd
  · exact absurd ⟨d, vco_y hd, e⟩ hna

abbrev rm_Mo_state (n0 : Nat) : Room := { frames := 8, cells := 1, slots := 255, locals := 200 }
set_option maxHeartbeats 4000000 in
set_option maxRecDepth 100000 in
/-- state(), of the reference -/
theorem t_Mo_state (l : Launch) (E : zc_E) (G : zg_G) (a c1 c2 : Nat) (ro : zRo) (lo : np_N) (rs : List zRt) (Wz : zW) (th co se : Int32) (hse : se = 0 ∨ se = 1) (tp : List Int32) (v19 v20 : Value) (hst : rSt E G ro a c1 c2 lo rs Wz [] False (0, 0, [], []) th tp co se v19 v20) : zMi l E y_Mo_state c_Mo_state 2 (some .int) (rm_Mo_state tp.length) [.ref a] G (fun (r : Int32) (G2 : zg_G) => ((¬ ∃ ls, zTn tp ls) ∧ r = 0 ∧ ∃ r2, rO E G2 r2 a c1 c2 lo rs Wz tp 1 ∧ zfr ro zKr G r2 G2) ∨ (∃ r2 ls, zTn tp ls ∧ r = vstt (rVf rs) lo (np_low ls) ∧ rO E G2 r2 a c1 c2 lo rs Wz ([]) 0 ∧ zfr ro zKr G r2 G2)) := by
  refine zMi.of (by decide) (Nat.le_of_ble_eq_true rfl) ?_
  intro p e s m args below meth c Q hZ hG hret ls hl
  obtain ⟨hx, hb, hr, hts, hown, hlocks, hml, hnm, hbase, hK, hN, hQ⟩ := hZ
  have hl : lv_has ls 2 [(0, .ref a)] := hl
  have hS : zg_S (zc_b E) s.heap s.heap [] := va_S.rf
  obtain ⟨h, eh0, eh1, eh2, hc⟩ := id hst
  obtain ⟨ra, rb, ⟨fm, rt1, rt2, rt3, rt4⟩, rtl, ⟨fo, rn1, rn2, rn3, rn4, rn5⟩, rr, rg, ras⟩ := id hc
  rw [eh0] at ra
  obtain ⟨⟨fr, rm4, hfr⟩, hn2, hRs⟩ := id rr.1
  refine lv_aload_n hx hb d_Mo_state_0 rfl (lv_at hl 0 rfl) ?_
  refine lv_iconst (v := 0) hx hb d_Mo_state_1 (by decide) ?_
  refine zg_put (ci := 11) (v := .int 0) (ty := .int) (C := "ZoneAnswersModel") (T := T_Mo) (N := 21) hx hb hts zi_Mo t_Mo t_Mo_ok n_Mo hown hK hG hS ra rfl 0 (by decide) (hts _ w_1281) (fun _ h9 => h9) rfl (by decide +kernel) rfl rfl (Nat.le_of_ble_eq_true rfl) d_Mo_state_2 (fun H locs hG hS => ?_)
  obtain ⟨G1, eG1⟩ : ∃ z : zg_G, z = zg_up G a (.inr (11, [.int 0, .ref (h 1), .int (nI tp.length), .ref (h 3), .ref (h 4), .int (nI rs.length), .ref (h 6), .ref (h 7), .ref (h 8), .ref (h 9), .ref (h 10), .ref (h 11), .ref (h 12), .int (nI (wln Wz)), .int co, .ref (h 15), .int (nI (rPw Wz + ([] : List Int32).length)), .int se, .ref (h 18), v19, v20])) := ⟨_, rfl⟩
  have hG : zP E G1 H := by rw [eG1]; exact hG
  have k2 : G1 a = some (.inr (11, [.int 0, .ref (h 1), .int (nI tp.length), .ref (h 3), .ref (h 4), .int (nI rs.length), .ref (h 6), .ref (h 7), .ref (h 8), .ref (h 9), .ref (h 10), .ref (h 11), .ref (h 12), .int (nI (wln Wz)), .int co, .ref (h 15), .int (nI (rPw Wz + ([] : List Int32).length)), .int se, .ref (h 18), v19, v20])) := by rw [eG1]; exact zg_up_self _ _ _
  have k3 : G1 (h 4) = some (.inl (E.2.1 4, 2000, .inr (.inr (.inr (.inr fr))))) := by rw [eG1, zg_up_ne (zg_ne rm4 ra (by intro h; simp at h))]; exact rm4
  have k4 : G1 (h 3) = some (.inl (E.2.1 0, np_len lo, .inl fo)) := by rw [eG1, zg_up_ne (zg_ne rn1 ra (by intro h; simp at h))]; exact rn1
  have k5 : G1 (h 1) = some (.inl (E.2.1 0, 65536, .inl fm)) := by rw [eG1, zg_up_ne (zg_ne rt1 ra (by intro h; simp at h))]; exact rt1
  obtain ⟨hst1, hs1⟩ := rSt.set hst 0 co se v19 v20 ra
  rw [← eG1] at hst1 hs1
  have hf1 := hs1
  obtain ⟨h1, eh01, eh11, eh21, hc1⟩ := id hst1
  obtain ⟨ra1, rb1, ⟨fm1, rt11, rt21, rt31, rt41⟩, rtl1, ⟨fo1, rn11, rn21, rn31, rn41, rn51⟩, rr1, rg1, ras1⟩ := id hc1
  rw [eh01] at ra1
  obtain ⟨⟨fr1, rm41, hfr1⟩, hn21, hRs1⟩ := id rr1.1
  refine lv_aload_n hx hb d_Mo_state_5 rfl (lv_at hl 0 rfl) ?_
  have hGo6 := hG
  refine zk_q (va_runV (As := []) (rest := []) ⟨hx, hb, hml, hown, hts⟩ (t_Mo_whole l E G1 a c1 c2 ro lo rs Wz [] False (0, 0, [], []) 0 co se tp v19 v20 hst1) (zcV 0 hts w_1433 w_1435 wp_34 w_30 w_1436 (by decide +kernel) ⟨Nat.le_of_ble_eq_true rfl, Nat.le_of_ble_eq_true rfl⟩) (zc_preV hbase hK hN hQ hG hS ra1 rfl) rfl rfl hl.1 rfl (lv_room (Nat.le_of_ble_eq_true rfl)) d_Mo_state_6 ⟨(by dsimp only; omega), (by dsimp only; omega)⟩) hS (fun r6 G6 H locs hp6 hG hS => ?_)
  rcases hp6 with ⟨ro2, ls9, q9, hTn, er6, hst2, hnm2, hz2⟩ | ⟨hnT, er6, eg6⟩
  · refine zr_some (a := q9) er6 ?_
    have hf2 := hf1.tr (hz2.w (K2 := zKr) (fun _ z => z.elim))
    obtain ⟨h2, eh02, eh12, eh22, hc2⟩ := id hst2
    obtain ⟨ra2, rb2, ⟨fm2, rt12, rt22, rt32, rt42⟩, rtl2, ⟨fo2, rn12, rn22, rn32, rn42, rn52⟩, rr2, rg2, ras2⟩ := id hc2
    rw [eh02] at ra2
    obtain ⟨⟨fr2, rm42, hfr2⟩, hn22, hRs2⟩ := id rr2.1
    obtain ⟨f_q92, n1_q92, n2_q92, n3_q92, n4_q92, n5_q92⟩ := id hnm2
    have sm_q92 := n3_q92.2
    refine lv_astore_n (lv' := [(1, .ref q9), (0, .ref a)]) hx hb d_Mo_state_9 rfl hl (by decide) rfl (fun ls hl => ?_)
    refine lv_aload_n hx hb d_Mo_state_10 rfl (lv_at hl 0 rfl) ?_
    refine lv_ifnonnull (tgt := 20) hx hb d_Mo_state_11 (by decide) ?_
    refine lv_aload_n hx hb d_Mo_state_20 rfl (lv_at hl 1 rfl) ?_
    refine lv_iconst (v := 0) hx hb d_Mo_state_21 (by decide) ?_
    refine zi_as (y := nI 0) (nI_0.symm) ?_
    refine zg_put (ci := 11) (v := .int (nI 0)) (ty := .int) (C := "ZoneAnswersModel") (T := T_Mo) (N := 21) hx hb hts zi_Mo t_Mo t_Mo_ok n_Mo hown hK hG hS ra2 rfl 2 (by decide) (hts _ w_1283) (fun _ h9 => h9) rfl (by decide +kernel) rfl rfl (Nat.le_of_ble_eq_true rfl) d_Mo_state_22 (fun H locs hG hS => ?_)
    obtain ⟨G306, eG306⟩ : ∃ z : zg_G, z = zg_up G6 a (.inr (11, [.int 0, .ref (h2 1), .int (nI 0), .ref (h2 3), .ref (h2 4), .int (nI rs.length), .ref (h2 6), .ref (h2 7), .ref (h2 8), .ref (h2 9), .ref (h2 10), .ref (h2 11), .ref (h2 12), .int (nI (wln Wz)), .int co, .ref (h2 15), .int (nI (rPw Wz + ([] : List Int32).length)), .int se, .ref (h2 18), v19, v20])) := ⟨_, rfl⟩
    have hG : zP E G306 H := by rw [eG306]; exact hG
    have k307 : G306 a = some (.inr (11, [.int 0, .ref (h2 1), .int (nI 0), .ref (h2 3), .ref (h2 4), .int (nI rs.length), .ref (h2 6), .ref (h2 7), .ref (h2 8), .ref (h2 9), .ref (h2 10), .ref (h2 11), .ref (h2 12), .int (nI (wln Wz)), .int co, .ref (h2 15), .int (nI (rPw Wz + ([] : List Int32).length)), .int se, .ref (h2 18), v19, v20])) := by rw [eG306]; exact zg_up_self _ _ _
    have k308 : G306 (h2 4) = some (.inl (E.2.1 4, 2000, .inr (.inr (.inr (.inr fr2))))) := by rw [eG306, zg_up_ne (zg_ne rm42 ra2 (by intro h; simp at h))]; exact rm42
    have k309 : G306 (h2 3) = some (.inl (E.2.1 0, np_len lo, .inl fo2)) := by rw [eG306, zg_up_ne (zg_ne rn12 ra2 (by intro h; simp at h))]; exact rn12
    have k310 : G306 (h2 1) = some (.inl (E.2.1 0, 65536, .inl fm2)) := by rw [eG306, zg_up_ne (zg_ne rt12 ra2 (by intro h; simp at h))]; exact rt12
    have k311 : G306 q9 = some (.inl (E.2.1 0, np_len (np_low ls9), .inl f_q92)) := by rw [eG306, zg_up_ne (zg_ne n1_q92 ra2 (by intro h; simp at h))]; exact n1_q92
    obtain ⟨hst3, hs3⟩ := rSt.tk hst2 0 (Nat.zero_le _) _ _ 0 ra2
    rw [← eG306, List.take_zero] at hst3
    rw [← eG306] at hs3
    have hf3 := hf2.tr hs3
    have hn_q93 := hnm2.fr hs3 zKr_0
    obtain ⟨h3, eh03, eh13, eh23, hc3⟩ := id hst3
    obtain ⟨ra3, rb3, ⟨fm3, rt13, rt23, rt33, rt43⟩, rtl3, ⟨fo3, rn13, rn23, rn33, rn43, rn53⟩, rr3, rg3, ras3⟩ := id hc3
    rw [eh03] at ra3
    obtain ⟨⟨fr3, rm43, hfr3⟩, hn23, hRs3⟩ := id rr3.1
    obtain ⟨f_q93, n1_q93, n2_q93, n3_q93, n4_q93, n5_q93⟩ := id hn_q93
    have sm_q93 := n3_q93.2
    refine lv_aload_n hx hb d_Mo_state_25 rfl (lv_at hl 0 rfl) ?_
    refine lv_aload_n hx hb d_Mo_state_26 rfl (lv_at hl 1 rfl) ?_
    refine zg_get (ci := 11) (C := "ZoneAnswersModel") (T := T_Mo) (N := 21) hx hb hts zi_Mo hown hK hG ra3 rfl 3 (by decide) (hts _ w_1284) (fun _ h9 => h9) rfl d_Mo_state_27 ?_
    refine zk_i (va_runS (As := [.ref q9, .ref (h3 3)]) (rest := []) ⟨hx, hb, hml, hown, hts⟩ (t_Ns_below l E G306 q9 (np_low ls9) f_q93 n1_q93 n2_q93 n3_q93 (h3 3) lo fo3 rn13 rn23 rn33) (zcS 2 hts w_1392 w_1393 w_33 w_1394 (by decide +kernel) ⟨Nat.le_of_ble_eq_true rfl, Nat.le_of_ble_eq_true rfl⟩) (zc_pre hbase hK hN hQ hG hS) rfl rfl hl.1 rfl (lv_room (Nat.le_of_ble_eq_true rfl)) d_Mo_state_30 ⟨(by dsimp only; omega), (by dsimp only; omega)⟩) hS (fun r30 G30 H locs hp30 hG hS => ?_)
    have hG : zP E G306 H := hp30.2 ▸ hG
    refine lv_if_ne (tgt := 38) hx hb d_Mo_state_33 (by decide) (fun c33 => ?_) (fun c33 => ?_)
    · have hbe := hp30.1.nz c33
      refine lv_aload_n hx hb d_Mo_state_38 rfl (lv_at hl 1 rfl) ?_
      refine lv_aload_n hx hb d_Mo_state_39 rfl (lv_at hl 0 rfl) ?_
      refine lv_iconst (v := 0) hx hb d_Mo_state_40 (by decide) ?_
      refine zi_as (y := nI (np_pos (np_low ls9) 0)) (by rw [np_pos0]; rfl) ?_
      refine zk_i (va_runV (As := [.ref q9, .int (nI (np_pos (np_low ls9) 0))]) (rest := []) ⟨hx, hb, hml, hown, hts⟩ (t_Mo_there_s l hst3 0 q9 (np_low ls9) hn_q93 (Nat.zero_le _)) (zcV 2 hts w_1540 w_1542 wp_52 w_30 w_1543 (by decide +kernel) ⟨Nat.le_of_ble_eq_true rfl, Nat.le_of_ble_eq_true rfl⟩) (zc_preV hbase hK hN hQ hG hS ra3 rfl) rfl rfl hl.1 rfl (lv_room (Nat.le_of_ble_eq_true rfl)) d_Mo_state_41 ⟨(by dsimp only; omega), (by dsimp only; omega)⟩) hS (fun r41 G41 H locs hp41 hG hS => ?_)
      have hG : zP E G306 H := hp41.2 ▸ hG
      refine lv_if_ne (tgt := 49) hx hb d_Mo_state_44 (by decide) (fun c44 => ?_) (fun c44 => ?_)
      · have hth9 : vth (rVf rs) (np_low ls9) := (hp41.1.nz c44).2.2
        refine lv_aload_n hx hb d_Mo_state_49 rfl (lv_at hl 1 rfl) ?_
        refine lv_aload_n hx hb d_Mo_state_50 rfl (lv_at hl 0 rfl) ?_
        refine zk_i (va_runV (As := [.ref q9]) (rest := []) ⟨hx, hb, hml, hown, hts⟩ (t_Mo_any_s l hst3 q9 (np_low ls9) hn_q93) (zcV 1 hts w_1413 w_1415 wp_31 w_30 w_1416 (by decide +kernel) ⟨Nat.le_of_ble_eq_true rfl, Nat.le_of_ble_eq_true rfl⟩) (zc_preV hbase hK hN hQ hG hS ra3 rfl) rfl rfl hl.1 rfl (lv_room (Nat.le_of_ble_eq_true rfl)) d_Mo_state_51 ⟨(by dsimp only; omega), (by dsimp only; omega)⟩) hS (fun r51 G51 H locs hp51 hG hS => ?_)
        have hG : zP E G306 H := hp51.2 ▸ hG
        refine lv_if_ne (tgt := 59) hx hb d_Mo_state_54 (by decide) (fun c54 => ?_) (fun c54 => ?_)
        · have hvD := hp51.1.nz c54
          refine lv_aload_n hx hb d_Mo_state_59 rfl (lv_at hl 1 rfl) ?_
          refine lv_aload_n hx hb d_Mo_state_60 rfl (lv_at hl 0 rfl) ?_
          refine zk_i (va_runV (As := [.ref q9]) (rest := []) ⟨hx, hb, hml, hown, hts⟩ (t_Mo_away_s l hst3 q9 (np_low ls9) hn_q93) (zcV 1 hts w_1512 w_1514 wp_46 w_30 w_1515 (by decide +kernel) ⟨Nat.le_of_ble_eq_true rfl, Nat.le_of_ble_eq_true rfl⟩) (zc_preV hbase hK hN hQ hG hS ra3 rfl) rfl rfl hl.1 rfl (lv_room (Nat.le_of_ble_eq_true rfl)) d_Mo_state_61 ⟨(by dsimp only; omega), (by dsimp only; omega)⟩) hS (fun r61 G61 H locs hp61 hG hS => ?_)
          have hG : zP E G306 H := hp61.2 ▸ hG
          refine lv_if_eq (tgt := 69) hx hb d_Mo_state_64 (by decide) (fun c64 => ?_) (fun c64 => ?_)
          · have hga := hp61.1.z c64
            refine lv_aload_n hx hb d_Mo_state_69 rfl (lv_at hl 1 rfl) ?_
            refine lv_aload_n hx hb d_Mo_state_70 rfl (lv_at hl 0 rfl) ?_
            refine lv_iconst (v := 0) hx hb d_Mo_state_71 (by decide) ?_
            refine zi_as (y := nI (np_pos (np_low ls9) 0)) (by rw [np_pos0]; rfl) ?_
            refine zk_i (va_runV (As := [.ref q9, .int (nI (np_pos (np_low ls9) 0))]) (rest := []) ⟨hx, hb, hml, hown, hts⟩ (t_Mo_cut_s l hst3 0 q9 (np_low ls9) hn_q93 (Nat.zero_le _)) (zcV 2 hts w_1467 w_1469 wp_38 w_30 w_1470 (by decide +kernel) ⟨Nat.le_of_ble_eq_true rfl, Nat.le_of_ble_eq_true rfl⟩) (zc_preV hbase hK hN hQ hG hS ra3 rfl) rfl rfl hl.1 rfl (lv_room (Nat.le_of_ble_eq_true rfl)) d_Mo_state_72 ⟨(by dsimp only; omega), (by dsimp only; omega)⟩) hS (fun r72 G72 H locs hp72 hG hS => ?_)
            have hG : zP E G306 H := hp72.2 ▸ hG
            refine lv_if_eq (tgt := 82) hx hb d_Mo_state_75 (by decide) (fun c75 => ?_) (fun c75 => ?_)
            · have hev : vstt (rVf rs) lo (np_low ls9) = 3 := by unfold vstt; rw [zif_n (fun z => z hbe), zif_n (fun z => z hth9), zif_n (fun z => z hvD), zif_n hga, zif_n (fun z => hp72.1.z c75 (rco_sz z))]
              refine lv_iconst (v := 3) hx hb d_Mo_state_82 (by decide) ?_
              exact hret _ _ _ _ _ _ _ _ _ hr (rfl) (Or.inr ⟨ro2, ls9, hTn, hev.symm, hst3.o hse, hf3⟩) hG hS (by dsimp only; omega) (by dsimp only; omega) d_Mo_state_83
            · have hev : vstt (rVf rs) lo (np_low ls9) = 4 := by unfold vstt; rw [zif_n (fun z => z hbe), zif_n (fun z => z hth9), zif_n (fun z => z hvD), zif_n hga, zif_y (rco_selfy hst3.gd hbe hga (hp72.1.nz c75))]
              refine lv_iconst (v := 4) hx hb d_Mo_state_78 (by decide) ?_
              refine lv_goto (tgt := 83) hx hb d_Mo_state_79 (by decide) ?_
              exact hret _ _ _ _ _ _ _ _ _ hr (rfl) (Or.inr ⟨ro2, ls9, hTn, hev.symm, hst3.o hse, hf3⟩) hG hS (by dsimp only; omega) (by dsimp only; omega) d_Mo_state_83
          · have hev : vstt (rVf rs) lo (np_low ls9) = 5 := by unfold vstt; rw [zif_n (fun z => z hbe), zif_n (fun z => z hth9), zif_n (fun z => z hvD), zif_y (hp61.1.nz c64)]
            refine lv_iconst (v := 5) hx hb d_Mo_state_67 (by decide) ?_
            exact hret _ _ _ _ _ _ _ _ _ hr (rfl) (Or.inr ⟨ro2, ls9, hTn, hev.symm, hst3.o hse, hf3⟩) hG hS (by dsimp only; omega) (by dsimp only; omega) d_Mo_state_68
        · have hev : vstt (rVf rs) lo (np_low ls9) = 2 := by unfold vstt; rw [zif_n (fun z => z hbe), zif_n (fun z => z hth9), zif_y (hp51.1.z c54)]
          refine lv_iconst (v := 2) hx hb d_Mo_state_57 (by decide) ?_
          exact hret _ _ _ _ _ _ _ _ _ hr (rfl) (Or.inr ⟨ro2, ls9, hTn, hev.symm, hst3.o hse, hf3⟩) hG hS (by dsimp only; omega) (by dsimp only; omega) d_Mo_state_58
      · have hev : vstt (rVf rs) lo (np_low ls9) = 1 := by unfold vstt; rw [zif_n (fun z => z hbe), zif_y (fun (z : vth (rVf rs) (np_low ls9)) => hp41.1.z c44 ⟨hbe, np_len_suf hbe, z⟩)]
        refine lv_iconst (v := 1) hx hb d_Mo_state_47 (by decide) ?_
        exact hret _ _ _ _ _ _ _ _ _ hr (rfl) (Or.inr ⟨ro2, ls9, hTn, hev.symm, hst3.o hse, hf3⟩) hG hS (by dsimp only; omega) (by dsimp only; omega) d_Mo_state_48
    · have hev : vstt (rVf rs) lo (np_low ls9) = 0 := by unfold vstt; rw [zif_y (hp30.1.z c33)]
      refine lv_iconst (v := 0) hx hb d_Mo_state_36 (by decide) ?_
      exact hret _ _ _ _ _ _ _ _ _ hr (rfl) (Or.inr ⟨ro2, ls9, hTn, hev.symm, hst3.o hse, hf3⟩) hG hS (by dsimp only; omega) (by dsimp only; omega) d_Mo_state_37
  · have hG : zP E G1 H := eg6 ▸ hG
    refine zr_none er6 ?_
    refine lv_astore_nN (lv' := [(1, .null), (0, .ref a)]) hx hb d_Mo_state_9 rfl hl (by decide) rfl (fun ls hl => ?_)
    refine lv_aload_nN hx hb d_Mo_state_10 rfl (lv_at hl 0 rfl) ?_
    refine lv_ifnonnullN hx hb d_Mo_state_11 ?_
    refine lv_aload_n hx hb d_Mo_state_14 rfl (lv_at hl 1 rfl) ?_
    refine lv_iconst (v := 1) hx hb d_Mo_state_15 (by decide) ?_
    have hGo16 := hG
    refine zk_i (va_runV (As := [.int 1]) (rest := []) ⟨hx, hb, hml, hown, hts⟩ (t_Mo_fail l E G1 a (h1 1) (h1 3) (h1 4) (h1 6) (h1 7) (h1 8) (h1 9) (h1 10) (h1 11) (h1 12) (h1 15) (h1 18) 0 (nI tp.length) (nI rs.length) (nI (wln Wz)) co (nI (rPw Wz + ([] : List Int32).length)) se v19 v20 ra1 1) (zcV 1 hts w_1354 w_1356 wp_26 w_30 w_1357 (by decide +kernel) ⟨Nat.le_of_ble_eq_true rfl, Nat.le_of_ble_eq_true rfl⟩) (zc_preV hbase hK hN hQ hG hS ra1 rfl) rfl rfl hl.1 rfl (lv_room (Nat.le_of_ble_eq_true rfl)) d_Mo_state_16 ⟨(by dsimp only; omega), (by dsimp only; omega)⟩) hS (fun r16 G16 H locs hp16 hG hS => ?_)
    refine zi_as (y := 0) hp16.1 ?_
    obtain ⟨hstf, hsf⟩ := rSt.set hst1 1 co se v19 v20 ra1
    rw [← hp16.2] at hstf hsf
    have hff := hf1.tr hsf
    exact hret _ _ _ _ _ _ _ _ _ hr (rfl) (Or.inl ⟨hnT, rfl, ro, hstf.o hse, hff⟩) hG hS (by dsimp only; omega) (by dsimp only; omega) d_Mo_state_19
