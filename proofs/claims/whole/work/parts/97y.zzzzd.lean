/-! THE REFERENCE TAKES ALL AWAY -/
/-- what is left when the records behind i have been looked at -/
def rTk (rs : List zRt) (x : np_N) (t : Int32) (i : Nat) : List zRt := rs.take (i + 1) ++ (rs.drop (i + 1)).filter (fun e => decide (¬ (rM e = x ∧ ¬ zkt t (rT e) = true)))
theorem rTk_0 {rs : List zRt} {x : np_N} {t : Int32} {i : Nat} (h : i + 1 = rs.length) : rTk rs x t i = rs := by
  unfold rTk
  rw [h, List.drop_length, List.take_length]; exact List.append_nil _
theorem rTk_re {rs : List zRt} {x : np_N} {t : Int32} {i : Nat} (hi : i < rs.length) : i < (rTk rs x t i).length ∧ re (rTk rs x t i) i = re rs i := by
  have hl : (rs.take (i + 1)).length = i + 1 := by rw [List.length_take]; omega
  unfold rTk re
  refine ⟨by rw [List.length_append]; omega, ?_⟩
  rw [List.getD_eq_getElem?_getD, List.getD_eq_getElem?_getD, List.getElem?_append_left (by omega), List.getElem?_take_of_lt (by omega)]
theorem rTk_sp {rs : List zRt} {x : np_N} {t : Int32} {i : Nat} (hi : i < rs.length) : rTk rs x t i = rs.take i ++ re rs i :: (rs.drop (i + 1)).filter (fun e => decide (¬ (rM e = x ∧ ¬ zkt t (rT e) = true))) := by
  unfold rTk
  rw [List.take_add_one, List.getElem?_eq_getElem hi, ← re_at hi, List.append_assoc]; rfl
theorem rTk_pr {rs : List zRt} {x : np_N} {t : Int32} {i : Nat} (hi : i < rs.length) (h0 : 0 < i) : rTk rs x t (i - 1) = rs.take i ++ (re rs i :: rs.drop (i + 1)).filter (fun e => decide (¬ (rM e = x ∧ ¬ zkt t (rT e) = true))) := by
  unfold rTk
  rw [show i - 1 + 1 = i by omega, re_at hi, ← List.drop_eq_getElem_cons hi]
theorem rTk_y {rs : List zRt} {x : np_N} {t : Int32} {i : Nat} (hi : i < rs.length) (h0 : 0 < i) (h : rM (re rs i) = x ∧ ¬ zkt t (rT (re rs i)) = true) : zdr (rTk rs x t i) i = rTk rs x t (i - 1) := by
  rw [rTk_sp hi, rTk_pr hi h0, List.filter_cons, if_neg (by rw [decide_eq_false (fun z => z h)]; decide)]
  have q := zdr_app (rs.take i) ((rs.drop (i + 1)).filter (fun e => decide (¬ (rM e = x ∧ ¬ zkt t (rT e) = true)))) (re rs i)
  rw [List.length_take, Nat.min_eq_left (by omega)] at q
  exact q
theorem rTk_n {rs : List zRt} {x : np_N} {t : Int32} {i : Nat} (hi : i < rs.length) (h0 : 0 < i) (h : ¬ (rM (re rs i) = x ∧ ¬ zkt t (rT (re rs i)) = true)) : rTk rs x t i = rTk rs x t (i - 1) := by
  rw [rTk_sp hi, rTk_pr hi h0, List.filter_cons, if_pos (decide_eq_true h)]
theorem rTk_e {rs : List zRt} {x : np_N} {t : Int32} {lo : np_N} (hg : rGd lo rs) (ht : zall t) : rTk rs x t 0 = rs.filter (fun e => decide (¬ (rM e = x ∧ ¬ zkt t (rT e) = true))) := by
  have hp := hg.1
  have hk : ¬ (rM (re rs 0) = x ∧ ¬ zkt t (rT (re rs 0)) = true) := fun z => z.2 (by
    rw [hg.2.2.1]
    unfold zkt
    have h6 : ¬ (6 : Int32) = t := fun e => by
      rcases ht with q | q
      · rw [q] at e; exact absurd e (by decide)
      · exact q.2.2 (Or.inl e.symm)
    rw [decide_eq_false h6]; simp)
  have e := rTk_sp (x := x) (t := t) hp
  rw [e]
  conv => rhs; rw [rs_split hp, List.filter_append, List.filter_cons, if_pos (decide_eq_true hk)]
  rfl
theorem rVf_kp {rs : List zRt} {x : np_N} {t : Int32} : rVf (rs.filter (fun e => decide (¬ (rM e = x ∧ ¬ zkt t (rT e) = true)))) = vta (rVf rs) x t := by
  funext y u
  unfold vta rVf
  rw [List.filter_filter]
  by_cases z : y = x ∧ ¬ zkt t u = true
  · rw [if_pos z, List.filter_eq_nil_iff.mpr (fun e _ he => ?_)]
    · rfl
    · have he := of_decide_eq_true (Bool.and_eq_true_iff.mp he).1
      have hk := of_decide_eq_true (Bool.and_eq_true_iff.mp (by assumption)).2
      exact hk ⟨he.1.trans z.1, by rw [he.2]; exact z.2⟩
  · rw [if_neg z]
    congr 1
    refine List.filter_congr (fun e _ => ?_)
    by_cases w : rM e = y ∧ rT e = u
    · rw [decide_eq_true w, decide_eq_true (show ¬ (rM e = x ∧ ¬ zkt t (rT e) = true) from fun q => z ⟨w.1.symm.trans q.1, by rw [← w.2]; exact q.2⟩)]; rfl
    · rw [decide_eq_false w]; rfl
theorem fil_2 {α : Type} (p : α → Prop) [DecidablePred p] (l : List α) : (l.filter (fun e => decide (p e))).length + (l.filter (fun e => decide (¬ p e))).length = l.length := by
  induction l with
  | nil => rfl
  | cons a l ih =>
    by_cases z : p a
    · rw [List.filter_cons, List.filter_cons, if_pos (decide_eq_true z), if_neg (by rw [decide_eq_false (fun q => q z)]; decide), List.length_cons, List.length_cons]; omega
    · rw [List.filter_cons, List.filter_cons, if_neg (by rw [decide_eq_false z]; decide), if_pos (decide_eq_true z), List.length_cons, List.length_cons]; omega
theorem rgone (rs : List zRt) (x : np_N) (t : Int32) : ∀ i, i ≤ rs.length → isCnt (gone (rVf (rs.take i)) x t) ((rs.take i).filter (fun e => decide (rM e = x ∧ ¬ zkt t (rT e) = true))).length
  | 0, _ => ⟨[], List.nodup_nil, fun q => ⟨fun z => absurd z List.not_mem_nil, fun z => absurd z.2 (Nat.not_lt_zero _)⟩, rfl⟩
  | i + 1, hi => by
    obtain ⟨L, h1, h2, h3⟩ := rgone rs x t i (by omega)
    have ht : rs.take (i + 1) = rs.take i ++ [re rs i] := by rw [List.take_add_one, List.getElem?_eq_getElem (by omega), ← re_at (by omega)]; rfl
    have hv : ∀ u, (rVf (rs.take (i + 1)) x u).length = (rVf (rs.take i) x u).length + (if rM (re rs i) = x ∧ rT (re rs i) = u then 1 else 0) := fun u => by
      rw [ht, rVf_app, rVf_cons, List.length_append]
      split <;> rfl
    rw [ht, List.filter_append, List.length_append, ← ht]
    by_cases z : rM (re rs i) = x ∧ ¬ zkt t (rT (re rs i)) = true
    · refine ⟨(rT (re rs i), (rVf (rs.take i) x (rT (re rs i))).length) :: L, List.nodup_cons.mpr ⟨fun w => Nat.lt_irrefl _ ((h2 _).mp w).2, h1⟩, fun q => ?_, ?_⟩
      · rw [List.mem_cons, h2]
        unfold gone
        rw [hv]
        constructor
        · rintro (w | w)
          · rw [w]; exact ⟨z.2, by rw [if_pos ⟨z.1, rfl⟩]; exact Nat.lt_succ_self _⟩
          · exact ⟨w.1, by omega⟩
        · rintro ⟨w1, w2⟩
          by_cases y : q.2 < (rVf (rs.take i) x q.1).length
          · exact Or.inr ⟨w1, y⟩
          · refine Or.inl ?_
            by_cases c : rM (re rs i) = x ∧ rT (re rs i) = q.1
            · rw [if_pos c] at w2
              rw [c.2]
              exact Prod.ext rfl (by show q.2 = _; omega)
            · rw [if_neg c] at w2; omega
      · rw [List.length_cons, h3, List.filter_cons, if_pos (decide_eq_true z)]; rfl
    · refine ⟨L, h1, fun q => ?_, ?_⟩
      · rw [h2]
        unfold gone
        rw [hv]
        constructor
        · rintro ⟨w1, w2⟩; exact ⟨w1, by omega⟩
        · rintro ⟨w1, w2⟩
          rw [if_neg (fun c => z ⟨c.1, by rw [c.2]; exact w1⟩)] at w2
          exact ⟨w1, w2⟩
      · rw [h3, List.filter_cons, if_neg (by rw [decide_eq_false z]; decide)]; rfl
theorem rgone_all {rs : List zRt} {x : np_N} {t : Int32} {n : Nat} (h : n + (rs.filter (fun e => decide (¬ (rM e = x ∧ ¬ zkt t (rT e) = true)))).length = rs.length) : isCnt (gone (rVf rs) x t) n := by
  have q := rgone rs x t rs.length (Nat.le_refl _)
  rw [List.take_length] at q
  have e := fil_2 (fun e : zRt => rM e = x ∧ ¬ zkt t (rT e) = true) rs
  rw [show n = (rs.filter (fun e => decide (rM e = x ∧ ¬ zkt t (rT e) = true))).length by omega]
  exact q
theorem zkt_f {t u : Int32} (h : u = t ∨ (t = 255 ∧ ¬ u = 6)) : ¬ zkt t u = true := by
  unfold zkt
  rcases h with h | ⟨h, h2⟩
  · rw [decide_eq_true h]; simp
  · rw [decide_eq_true h, decide_eq_false h2]; simp
theorem zkt_t {t u : Int32} (h : ¬ u = t) (h2 : ¬ t = 255 ∨ u = 6) : zkt t u = true := by
  unfold zkt
  rw [decide_eq_false h]
  rcases h2 with h2 | h2
  · rw [decide_eq_false h2]; simp
  · rw [decide_eq_true h2]; simp

abbrev rm_Mo_takeAll (n0 : Nat) : Room := { frames := 6, cells := 1, slots := 255, locals := 160 }
set_option maxHeartbeats 4000000 in
set_option maxRecDepth 100000 in
/-- takeAll(t), of the reference -/
theorem t_Mo_takeAll (l : Launch) (E : zc_E) (G : zg_G) (a c1 c2 : Nat) (ro : zRo) (lo : np_N) (rs : List zRt) (Wz : zW) (th co se : Int32) (hse : se = 0 ∨ se = 1) (tp : List Int32) (v19 v20 : Value) (hst : rSt E G ro a c1 c2 lo rs Wz [] False (0, 0, [], []) th tp co se v19 v20) (t : Int32) : zMi l E y_Mo_takeAll c_Mo_takeAll 5 (some .int) (rm_Mo_takeAll tp.length) [.ref a, .int t] G (fun (r : Int32) (G2 : zg_G) => (∃ r2 rs2 ls n, zTn tp ls ∧ lo <:+ np_low ls ∧ zall t ∧ rVf rs2 = vta (rVf rs) (np_low ls) t ∧ isCnt (gone (rVf rs) (np_low ls) t) n ∧ r = nI n ∧ n + rs2.length = rs.length ∧ rNu rs2 ≤ rNu rs ∧ rO E G2 r2 a c1 c2 lo rs2 Wz ([]) 0 ∧ zfr ro zKr G r2 G2) ∨ ((¬ ∃ ls, zTn tp ls ∧ lo <:+ np_low ls ∧ zall t) ∧ r = 0 ∧ ∃ r2, rO E G2 r2 a c1 c2 lo rs Wz tp 1 ∧ zfr ro zKr G r2 G2)) := by
  refine zMi.of (by decide) (Nat.le_of_ble_eq_true rfl) ?_
  intro p e s m args below meth c Q hZ hG hret ls hl
  obtain ⟨hx, hb, hr, hts, hown, hlocks, hml, hnm, hbase, hK, hN, hQ⟩ := hZ
  have hl : lv_has ls 5 [(0, .ref a), (1, .int t)] := hl
  have hS : zg_S (zc_b E) s.heap s.heap [] := va_S.rf
  obtain ⟨h, eh0, eh1, eh2, hc⟩ := id hst
  obtain ⟨ra, rb, ⟨fm, rt1, rt2, rt3, rt4⟩, rtl, ⟨fo, rn1, rn2, rn3, rn4, rn5⟩, rr, rg, ras⟩ := id hc
  rw [eh0] at ra
  obtain ⟨⟨fr, rm4, hfr⟩, hn2, hRs⟩ := id rr.1
  refine lv_aload_n hx hb d_Mo_takeAll_0 rfl (lv_at hl 0 rfl) ?_
  refine lv_iconst (v := 0) hx hb d_Mo_takeAll_1 (by decide) ?_
  refine zg_put (ci := 11) (v := .int 0) (ty := .int) (C := "ZoneAnswersModel") (T := T_Mo) (N := 21) hx hb hts zi_Mo t_Mo t_Mo_ok n_Mo hown hK hG hS ra rfl 0 (by decide) (hts _ w_1281) (fun _ h9 => h9) rfl (by decide +kernel) rfl rfl (Nat.le_of_ble_eq_true rfl) d_Mo_takeAll_2 (fun H locs hG hS => ?_)
  obtain ⟨G1, eG1⟩ : ∃ z : zg_G, z = zg_up G a (.inr (11, [.int 0, .ref (h 1), .int (nI tp.length), .ref (h 3), .ref (h 4), .int (nI rs.length), .ref (h 6), .ref (h 7), .ref (h 8), .ref (h 9), .ref (h 10), .ref (h 11), .ref (h 12), .int (nI (wln Wz)), .int co, .ref (h 15), .int (nI (rPw Wz + ([] : List Int32).length)), .int se, .ref (h 18), v19, v20])) := ⟨_, rfl⟩
  have hG : zP E G1 H := by rw [eG1]; exact hG
  have k2 : G1 a = some (.inr (11, [.int 0, .ref (h 1), .int (nI tp.length), .ref (h 3), .ref (h 4), .int (nI rs.length), .ref (h 6), .ref (h 7), .ref (h 8), .ref (h 9), .ref (h 10), .ref (h 11), .ref (h 12), .int (nI (wln Wz)), .int co, .ref (h 15), .int (nI (rPw Wz + ([] : List Int32).length)), .int se, .ref (h 18), v19, v20])) := by rw [eG1]; exact zg_up_self _ _ _
  have k3 : G1 (h 4) = some (.inl (E.2.1 4, 2000, .inr (.inr (.inr (.inr fr))))) := by rw [eG1, zg_up_ne (zg_ne rm4 ra (by intro h; simp at h))]; exact rm4
  have k4 : G1 (h 3) = some (.inl (E.2.1 0, np_len lo, .inl fo)) := by rw [eG1, zg_up_ne (zg_ne rn1 ra (by intro h; simp at h))]; exact rn1
  have k5 : G1 (h 1) = some (.inl (E.2.1 0, 65536, .inl fm)) := by rw [eG1, zg_up_ne (zg_ne rt1 ra (by intro h; simp at h))]; exact rt1
  obtain ⟨hst1, hs1⟩ := rSt.set hst 0 co se v19 v20 ra
  rw [← eG1] at hst1 hs1
  have hf1 := hs1
  obtain ⟨h1, eh01, eh11, eh21, hc1⟩ := id hst1
  obtain ⟨ra1, rb1, ⟨fm1, rt11, rt21, rt31, rt41⟩, rtl1, ⟨fo1, rn11, rn21, rn31, rn41, rn51⟩, rr1, rg1, ras1⟩ := id hc1
  rw [eh01] at ra1
  obtain ⟨⟨fr1, rm41, hfr1⟩, hn21, hRs1⟩ := id rr1.1
  refine lv_aload_n hx hb d_Mo_takeAll_5 rfl (lv_at hl 0 rfl) ?_
  have hGo6 := hG
  refine zk_q (va_runV (As := []) (rest := []) ⟨hx, hb, hml, hown, hts⟩ (t_Mo_whole l E G1 a c1 c2 ro lo rs Wz [] False (0, 0, [], []) 0 co se tp v19 v20 hst1) (zcV 0 hts w_1433 w_1435 wp_34 w_30 w_1436 (by decide +kernel) ⟨Nat.le_of_ble_eq_true rfl, Nat.le_of_ble_eq_true rfl⟩) (zc_preV hbase hK hN hQ hG hS ra1 rfl) rfl rfl hl.1 rfl (lv_room (Nat.le_of_ble_eq_true rfl)) d_Mo_takeAll_6 ⟨(by dsimp only; omega), (by dsimp only; omega)⟩) hS (fun r6 G6 H locs hp6 hG hS => ?_)
  rcases hp6 with ⟨ro2, ls9, q9, hTn, er6, hst2, hnm2, hz2⟩ | ⟨hnT, er6, eg6⟩
  · refine zr_some (a := q9) er6 ?_
    have hf2 := hf1.tr (hz2.w (K2 := zKr) (fun _ z => z.elim))
    obtain ⟨h2, eh02, eh12, eh22, hc2⟩ := id hst2
    obtain ⟨ra2, rb2, ⟨fm2, rt12, rt22, rt32, rt42⟩, rtl2, ⟨fo2, rn12, rn22, rn32, rn42, rn52⟩, rr2, rg2, ras2⟩ := id hc2
    rw [eh02] at ra2
    obtain ⟨⟨fr2, rm42, hfr2⟩, hn22, hRs2⟩ := id rr2.1
    obtain ⟨f_q92, n1_q92, n2_q92, n3_q92, n4_q92, n5_q92⟩ := id hnm2
    have sm_q92 := n3_q92.2
    refine lv_astore_n (lv' := [(2, .ref q9), (0, .ref a), (1, .int t)]) hx hb d_Mo_takeAll_9 rfl hl (by decide) rfl (fun ls hl => ?_)
    refine lv_aload_n hx hb d_Mo_takeAll_10 rfl (lv_at hl 0 rfl) ?_
    refine lv_ifnull hx hb d_Mo_takeAll_11 ?_
    refine lv_aload_n hx hb d_Mo_takeAll_14 rfl (lv_at hl 0 rfl) ?_
    refine lv_aload_n hx hb d_Mo_takeAll_15 rfl (lv_at hl 1 rfl) ?_
    refine zg_get (ci := 11) (C := "ZoneAnswersModel") (T := T_Mo) (N := 21) hx hb hts zi_Mo hown hK hG ra2 rfl 3 (by decide) (hts _ w_1284) (fun _ h9 => h9) rfl d_Mo_takeAll_16 ?_
    refine zk_i (va_runS (As := [.ref q9, .ref (h2 3)]) (rest := []) ⟨hx, hb, hml, hown, hts⟩ (t_Ns_below l E G6 q9 (np_low ls9) f_q92 n1_q92 n2_q92 n3_q92 (h2 3) lo fo2 rn12 rn22 rn32) (zcS 2 hts w_1392 w_1393 w_33 w_1394 (by decide +kernel) ⟨Nat.le_of_ble_eq_true rfl, Nat.le_of_ble_eq_true rfl⟩) (zc_pre hbase hK hN hQ hG hS) rfl rfl hl.1 rfl (lv_room (Nat.le_of_ble_eq_true rfl)) d_Mo_takeAll_19 ⟨(by dsimp only; omega), (by dsimp only; omega)⟩) hS (fun r19 G19 H locs hp19 hG hS => ?_)
    have hG : zP E G6 H := hp19.2 ▸ hG
    refine lv_if_eq (tgt := 39) hx hb d_Mo_takeAll_22 (by decide) (fun c22 => ?_) (fun c22 => ?_)
    · have hbad : ¬ ∃ ls, zTn tp ls ∧ lo <:+ np_low ls ∧ zall t := fun ⟨ls, z, w9, _⟩ => hp19.1.z c22 (by rw [zTn_un z hTn]; exact w9)
      refine lv_aload_n hx hb d_Mo_takeAll_39 rfl (lv_at hl 1 rfl) ?_
      refine lv_iconst (v := 1) hx hb d_Mo_takeAll_40 (by decide) ?_
      have hGo41 := hG
      refine zk_i (va_runV (As := [.int 1]) (rest := []) ⟨hx, hb, hml, hown, hts⟩ (t_Mo_fail l E G6 a (h2 1) (h2 3) (h2 4) (h2 6) (h2 7) (h2 8) (h2 9) (h2 10) (h2 11) (h2 12) (h2 15) (h2 18) 0 (nI tp.length) (nI rs.length) (nI (wln Wz)) co (nI (rPw Wz + ([] : List Int32).length)) se v19 v20 ra2 1) (zcV 1 hts w_1354 w_1356 wp_26 w_30 w_1357 (by decide +kernel) ⟨Nat.le_of_ble_eq_true rfl, Nat.le_of_ble_eq_true rfl⟩) (zc_preV hbase hK hN hQ hG hS ra2 rfl) rfl rfl hl.1 rfl (lv_room (Nat.le_of_ble_eq_true rfl)) d_Mo_takeAll_41 ⟨(by dsimp only; omega), (by dsimp only; omega)⟩) hS (fun r41 G41 H locs hp41 hG hS => ?_)
      refine zi_as (y := 0) hp41.1 ?_
      obtain ⟨hstf, hsf⟩ := rSt.set hst2 1 co se v19 v20 ra2
      rw [← hp41.2] at hstf hsf
      have hff := hf2.tr hsf
      exact hret _ _ _ _ _ _ _ _ _ hr (rfl) (Or.inr ⟨hbad, rfl, ro2, hstf.o hse, hff⟩) hG hS (by dsimp only; omega) (by dsimp only; omega) d_Mo_takeAll_44
    · have hbe := hp19.1.nz c22
      refine lv_iload_n hx hb d_Mo_takeAll_25 rfl (lv_at hl 2 rfl) ?_
      refine lv_sipush (v := 255) hx hb d_Mo_takeAll_26 (by decide) ?_
      refine lv_icmp_eq (tgt := 45) hx hb d_Mo_takeAll_29 (by decide) (fun c29 => ?_) (fun c29 => ?_)
      · have hall : zall t := by first | exact Or.inl c29 | exact Or.inr hzp
        have hpz := hst2.gd.1
        refine lv_iconst (v := 0) hx hb d_Mo_takeAll_45 (by decide) ?_
        refine zi_as (y := nI 0) (nI_0.symm) ?_
        refine lv_istore_n (lv' := [(3, .int (nI 0)), (2, .ref q9), (0, .ref a), (1, .int t)]) hx hb d_Mo_takeAll_46 rfl hl (by decide) rfl (fun ls hl => ?_)
        refine lv_aload_n hx hb d_Mo_takeAll_47 rfl (lv_at hl 2 rfl) ?_
        refine zg_get (ci := 11) (C := "ZoneAnswersModel") (T := T_Mo) (N := 21) hx hb hts zi_Mo hown hK hG ra2 rfl 5 (by decide) (hts _ w_1286) (fun _ h9 => h9) rfl d_Mo_takeAll_48 ?_
        refine lv_iconst (v := 1) hx hb d_Mo_takeAll_51 (by decide) ?_
        refine lv_isub hx hb d_Mo_takeAll_52 ?_
        refine zi_as (y := nI (rs.length - 1)) (zi_sub (a := rs.length) (b := 1) (by omega)) ?_
        refine lv_istore (lv' := [(4, .int (nI (rs.length - 1))), (3, .int (nI 0)), (2, .ref q9), (0, .ref a), (1, .int t)]) hx hb d_Mo_takeAll_53 hl (by decide) rfl (fun ls hl => ?_)
        have loop55 : ∀ (N : Nat) (Gv : zg_G) (i : Nat) (cn : Nat) (H : Heap) (locs : List Loc), i < N → (i < rs.length) → (cn + (rTk rs (np_low ls9) t (i)).length = rs.length) → (rNu (rTk rs (np_low ls9) t (i)) ≤ rNu rs) → (rSt E Gv ro2 a c1 c2 lo (rTk rs (np_low ls9) t (i)) Wz [] False (0, 0, [], []) 0 tp co se v19 v20) → (rNm E Gv ro2 q9 (np_low ls9)) → (zfr ro zKr G ro2 Gv) → zP E Gv H → zg_S (zc_b E) s.heap H locs → ∀ (ls : Array Slot), lv_has ls 5 [(0, .ref a), (1, .int t), (2, .ref q9), (3, .int (nI cn)), (4, .int (nI i))] → W p l e (rm_Mo_takeAll tp.length) s m args below meth c H locs 1 255 Q (F0 m 55 ls []) := by
          intro N
          induction N with
          | zero =>
            intro Gv i cn H locs hlt
            exact absurd hlt (Nat.not_lt_zero _)
          | succ N ih =>
            intro Gv i cn H locs hlt hi hcn8 hnu8 hst8 hnm8 hf8 hG hS ls hl
            obtain ⟨h8, eh08, eh18, eh28, hc8⟩ := id hst8
            obtain ⟨ra8, rb8, ⟨fm8, rt18, rt28, rt38, rt48⟩, rtl8, ⟨fo8, rn18, rn28, rn38, rn48, rn58⟩, rr8, rg8, ras8⟩ := id hc8
            rw [eh08] at ra8
            obtain ⟨⟨fr8, rm48, hfr8⟩, hn28, hRs8⟩ := id rr8.1
            obtain ⟨f_q98, n1_q98, n2_q98, n3_q98, n4_q98, n5_q98⟩ := id hnm8
            have sm_q98 := n3_q98.2
            obtain ⟨hin8, hre⟩ := rTk_re (x := np_low ls9) (t := t) hi
            have hrr := hRs8 _ (re_mem hin8)
            rw [hre] at hrr
            obtain ⟨hr1, ⟨nf, hr2, hr3, hr4, hr5⟩, df, hr6, hr7, hr8⟩ := hrr
            have hfi := hfr8 i hin8
            rw [hre] at hfi
            have sm := hr4.2
            refine lv_iload hx hb d_Mo_takeAll_55 (lv_at hl 4 rfl) ?_
            refine lv_if_le (tgt := 131) hx hb d_Mo_takeAll_57 (by decide) (fun c57 => ?_) (fun c57 => ?_)
            · have b57 : i ≤ 0 := (nI_leI (a := i) (b := 0) (by omega) (by omega)).mp c57
              refine lv_aload_n hx hb d_Mo_takeAll_131 rfl (lv_at hl 0 rfl) ?_
              refine lv_iconst (v := 0) hx hb d_Mo_takeAll_132 (by decide) ?_
              refine zi_as (y := nI 0) (nI_0.symm) ?_
              refine zg_put (ci := 11) (v := .int (nI 0)) (ty := .int) (C := "ZoneAnswersModel") (T := T_Mo) (N := 21) hx hb hts zi_Mo t_Mo t_Mo_ok n_Mo hown hK hG hS ra8 rfl 2 (by decide) (hts _ w_1283) (fun _ h9 => h9) rfl (by decide +kernel) rfl rfl (Nat.le_of_ble_eq_true rfl) d_Mo_takeAll_133 (fun H locs hG hS => ?_)
              obtain ⟨G306, eG306⟩ : ∃ z : zg_G, z = zg_up Gv a (.inr (11, [.int 0, .ref (h8 1), .int (nI 0), .ref (h8 3), .ref (h8 4), .int (nI (rTk rs (np_low ls9) t (i)).length), .ref (h8 6), .ref (h8 7), .ref (h8 8), .ref (h8 9), .ref (h8 10), .ref (h8 11), .ref (h8 12), .int (nI (wln Wz)), .int co, .ref (h8 15), .int (nI (rPw Wz + ([] : List Int32).length)), .int se, .ref (h8 18), v19, v20])) := ⟨_, rfl⟩
              have hG : zP E G306 H := by rw [eG306]; exact hG
              have k307 : G306 a = some (.inr (11, [.int 0, .ref (h8 1), .int (nI 0), .ref (h8 3), .ref (h8 4), .int (nI (rTk rs (np_low ls9) t (i)).length), .ref (h8 6), .ref (h8 7), .ref (h8 8), .ref (h8 9), .ref (h8 10), .ref (h8 11), .ref (h8 12), .int (nI (wln Wz)), .int co, .ref (h8 15), .int (nI (rPw Wz + ([] : List Int32).length)), .int se, .ref (h8 18), v19, v20])) := by rw [eG306]; exact zg_up_self _ _ _
              have k308 : G306 (h8 4) = some (.inl (E.2.1 4, 2000, .inr (.inr (.inr (.inr fr8))))) := by rw [eG306, zg_up_ne (zg_ne rm48 ra8 (by intro h; simp at h))]; exact rm48
              have k309 : G306 (h8 3) = some (.inl (E.2.1 0, np_len lo, .inl fo8)) := by rw [eG306, zg_up_ne (zg_ne rn18 ra8 (by intro h; simp at h))]; exact rn18
              have k310 : G306 (h8 1) = some (.inl (E.2.1 0, 65536, .inl fm8)) := by rw [eG306, zg_up_ne (zg_ne rt18 ra8 (by intro h; simp at h))]; exact rt18
              have k311 : G306 q9 = some (.inl (E.2.1 0, np_len (np_low ls9), .inl f_q98)) := by rw [eG306, zg_up_ne (zg_ne n1_q98 ra8 (by intro h; simp at h))]; exact n1_q98
              have k312 : G306 (rA (re rs i)) = some (.inr (12, [.ref (rN (re rs i)), .ref (rD (re rs i)), (rV (re rs i)), .int (rT (re rs i)), .int (rU (re rs i))])) := by rw [eG306, zg_up_ne (zg_ne hr1 ra8 (by intro h; simp at h))]; exact hr1
              have k313 : G306 (rN (re rs i)) = some (.inl (E.2.1 0, np_len (rM (re rs i)), .inl nf)) := by rw [eG306, zg_up_ne (zg_ne hr2 ra8 (by intro h; simp at h))]; exact hr2
              obtain ⟨hst7, hs7⟩ := rSt.tk hst8 0 (Nat.zero_le _) _ _ 0 ra8
              rw [← eG306, List.take_zero] at hst7
              rw [← eG306] at hs7
              have hf7 := hf8.tr hs7
              have hi00 : i = 0 := by omega
              rw [hi00, rTk_e (x := np_low ls9) hst2.gd hall] at hst7 hnu8 hcn8
              refine lv_iload_n hx hb d_Mo_takeAll_136 rfl (lv_at hl 3 rfl) ?_
              exact hret _ _ _ _ _ _ _ _ _ hr (rfl) (Or.inl ⟨ro2, _, ls9, cn, hTn, hbe, hall, rVf_kp, rgone_all hcn8, rfl, hcn8, hnu8, hst7.o hse, hf7⟩) hG hS (by dsimp only; omega) (by dsimp only; omega) d_Mo_takeAll_137
            · have b57 : ¬ i ≤ 0 := fun q => c57 ((nI_leI (a := i) (b := 0) (by omega) (by omega)).mpr q)
              refine lv_iload_n hx hb d_Mo_takeAll_60 rfl (lv_at hl 1 rfl) ?_
              refine lv_sipush (v := 255) hx hb d_Mo_takeAll_61 (by decide) ?_
              refine lv_icmp_ne (tgt := 82) hx hb d_Mo_takeAll_64 (by decide) (fun c64 => ?_) (fun c64 => ?_)
              · refine lv_aload_n hx hb d_Mo_takeAll_82 rfl (lv_at hl 0 rfl) ?_
                refine zg_get (ci := 11) (C := "ZoneAnswersModel") (T := T_Mo) (N := 21) hx hb hts zi_Mo hown hK hG ra8 rfl 4 (by decide) (hts _ w_1285) (fun _ h9 => h9) rfl d_Mo_takeAll_83 ?_
                refine lv_iload hx hb d_Mo_takeAll_86 (lv_at hl 4 rfl) ?_
                refine zg_aldq hx hb hK hG 4 rm48 rfl (vp_in_nI (by omega) (by omega)) d_Mo_takeAll_88 ?_
                refine zr_as (y := fr8 i) (by rw [zi_n _ (by omega)]) ?_
                refine zr_some (a := rA (re rs i)) (hfi) ?_
                refine zg_get (ci := 12) (C := "ZoneAnswersModel$Rec") (T := T_Re) (N := 5) hx hb hts zi_Re hown hK hG hr1 rfl 3 (by decide) (hts _ w_1268) (fun _ h9 => h9) rfl d_Mo_takeAll_89 ?_
                refine lv_iload_n hx hb d_Mo_takeAll_92 rfl (lv_at hl 1 rfl) ?_
                refine lv_icmp_ne (tgt := 125) hx hb d_Mo_takeAll_93 (by decide) (fun c93 => ?_) (fun c93 => ?_)
                · refine lv_iinc (v := nI (i - 1)) (lv' := [(4, .int (nI (i - 1))), (0, .ref a), (1, .int t), (2, .ref q9), (3, .int (nI cn))]) hx hb d_Mo_takeAll_125 hl (k := 4) rfl (zi_dec (by omega)) (by decide) rfl (fun ls hl => ?_)
                  refine lv_goto (tgt := 55) hx hb d_Mo_takeAll_128 (by decide) ?_
                  have hsk : rTk rs (np_low ls9) t (i) = rTk rs (np_low ls9) t (i - 1) := rTk_n hi (by omega) (fun z => z.2 (zkt_t c93 (by first | exact Or.inl c64 | exact Or.inr c79)))
                  have hst9 := hst8
                  rw [hsk] at hst9
                  have hnm9 := hnm8
                  have hf9 := hf8
                  exact ih Gv (i - 1) cn _ _ (by omega) (by omega) (by rw [← hsk]; exact hcn8) (by rw [← hsk]; exact hnu8) (hst9) (hnm9) (hf9) hG hS ls (lv_sub hl [1, 2, 3, 4, 0] rfl)
                · refine lv_aload_n hx hb d_Mo_takeAll_96 rfl (lv_at hl 0 rfl) ?_
                  refine zg_get (ci := 11) (C := "ZoneAnswersModel") (T := T_Mo) (N := 21) hx hb hts zi_Mo hown hK hG ra8 rfl 4 (by decide) (hts _ w_1285) (fun _ h9 => h9) rfl d_Mo_takeAll_97 ?_
                  refine lv_iload hx hb d_Mo_takeAll_100 (lv_at hl 4 rfl) ?_
                  refine zg_aldq hx hb hK hG 4 rm48 rfl (vp_in_nI (by omega) (by omega)) d_Mo_takeAll_102 ?_
                  refine zr_as (y := fr8 i) (by rw [zi_n _ (by omega)]) ?_
                  refine zr_some (a := rA (re rs i)) (hfi) ?_
                  refine zg_get (ci := 12) (C := "ZoneAnswersModel$Rec") (T := T_Re) (N := 5) hx hb hts zi_Re hown hK hG hr1 rfl 0 (by decide) (hts _ w_1265) (fun _ h9 => h9) rfl d_Mo_takeAll_103 ?_
                  refine lv_aload_n hx hb d_Mo_takeAll_106 rfl (lv_at hl 2 rfl) ?_
                  refine zk_i (va_runS (As := [.ref (rN (re rs i)), .ref q9]) (rest := []) ⟨hx, hb, hml, hown, hts⟩ (t_Ns_same l E Gv (rN (re rs i)) (np_len (rM (re rs i))) nf hr2 q9 (np_len (np_low ls9)) f_q98 n1_q98 (by omega) (by omega)) (zcS 2 hts w_1405 w_1406 w_33 w_1407 (by decide +kernel) ⟨Nat.le_of_ble_eq_true rfl, Nat.le_of_ble_eq_true rfl⟩) (zc_pre hbase hK hN hQ hG hS) rfl rfl hl.1 rfl (lv_room (Nat.le_of_ble_eq_true rfl)) d_Mo_takeAll_107 ⟨(by dsimp only; omega), (by dsimp only; omega)⟩) hS (fun r107 G107 H locs hp107 hG hS => ?_)
                  have hG : zP E Gv H := hp107.2 ▸ hG
                  refine lv_if_ne (tgt := 116) hx hb d_Mo_takeAll_110 (by decide) (fun c110 => ?_) (fun c110 => ?_)
                  · refine lv_aload_n hx hb d_Mo_takeAll_116 rfl (lv_at hl 0 rfl) ?_
                    refine lv_iload hx hb d_Mo_takeAll_117 (lv_at hl 4 rfl) ?_
                    have hGo119 := hG
                    refine zk_v (va_runV (As := [.int (nI i)]) (rest := []) ⟨hx, hb, hml, hown, hts⟩ (t_Mo_removed l E Gv a c1 c2 ro2 lo (rTk rs (np_low ls9) t (i)) Wz 0 co se hse tp v19 v20 hst8 i hin8 (by omega)) (zcV 1 hts w_1425 w_1427 wp_33 w_30 w_1428 (by decide +kernel) ⟨Nat.le_of_ble_eq_true rfl, Nat.le_of_ble_eq_true rfl⟩) (zc_preV hbase hK hN hQ hG hS ra8 rfl) rfl rfl hl.1 rfl (lv_room (Nat.le_of_ble_eq_true rfl)) d_Mo_takeAll_119 ⟨(by dsimp only; omega), (by dsimp only; omega)⟩) hS (fun G119 H locs hp119 hG hS => ?_)
                    obtain ⟨hst9, hs9⟩ := hp119
                    have hf9 := hf8.tr hs9
                    have hnm9 := hnm8.fr hs9 zKr_0
                    have hrm : rM (re rs i) = np_low ls9 ∧ ¬ zkt t (rT (re rs i)) = true := ⟨(zsm_n hr3 n2_q98 hr4 n3_q98).mp (hp107.1.nz c110), zkt_f (by first | exact Or.inl c93 | exact Or.inr ⟨c64, c79⟩)⟩
                    have hnu9 := rNu_dr hin8
                    have hln9 := zdr_ln hin8
                    rw [rTk_y hi (by omega) hrm] at hst9 hnu9 hln9
                    refine lv_iinc (v := nI (cn + 1)) (lv' := [(3, .int (nI (cn + 1))), (0, .ref a), (1, .int t), (2, .ref q9), (4, .int (nI i))]) hx hb d_Mo_takeAll_122 hl (k := 3) rfl (nI_add cn 1) (by decide) rfl (fun ls hl => ?_)
                    refine lv_iinc (v := nI (i - 1)) (lv' := [(4, .int (nI (i - 1))), (3, .int (nI (cn + 1))), (0, .ref a), (1, .int t), (2, .ref q9)]) hx hb d_Mo_takeAll_125 hl (k := 4) rfl (zi_dec (by omega)) (by decide) rfl (fun ls hl => ?_)
                    refine lv_goto (tgt := 55) hx hb d_Mo_takeAll_128 (by decide) ?_
                    exact ih G119 (i - 1) (cn + 1) _ _ (by omega) (by omega) (by omega) (by omega) (hst9) (hnm9) (hf9) hG hS ls (lv_sub hl [2, 3, 4, 1, 0] rfl)
                  · refine lv_goto (tgt := 125) hx hb d_Mo_takeAll_113 (by decide) ?_
                    refine lv_iinc (v := nI (i - 1)) (lv' := [(4, .int (nI (i - 1))), (0, .ref a), (1, .int t), (2, .ref q9), (3, .int (nI cn))]) hx hb d_Mo_takeAll_125 hl (k := 4) rfl (zi_dec (by omega)) (by decide) rfl (fun ls hl => ?_)
                    refine lv_goto (tgt := 55) hx hb d_Mo_takeAll_128 (by decide) ?_
                    have hsk : rTk rs (np_low ls9) t (i) = rTk rs (np_low ls9) t (i - 1) := rTk_n hi (by omega) (fun z => hp107.1.z c110 ((zsm_n hr3 n2_q98 hr4 n3_q98).mpr z.1))
                    have hst9 := hst8
                    rw [hsk] at hst9
                    have hnm9 := hnm8
                    have hf9 := hf8
                    exact ih Gv (i - 1) cn _ _ (by omega) (by omega) (by rw [← hsk]; exact hcn8) (by rw [← hsk]; exact hnu8) (hst9) (hnm9) (hf9) hG hS ls (lv_sub hl [1, 2, 3, 4, 0] rfl)
              · refine lv_aload_n hx hb d_Mo_takeAll_67 rfl (lv_at hl 0 rfl) ?_
                refine zg_get (ci := 11) (C := "ZoneAnswersModel") (T := T_Mo) (N := 21) hx hb hts zi_Mo hown hK hG ra8 rfl 4 (by decide) (hts _ w_1285) (fun _ h9 => h9) rfl d_Mo_takeAll_68 ?_
                refine lv_iload hx hb d_Mo_takeAll_71 (lv_at hl 4 rfl) ?_
                refine zg_aldq hx hb hK hG 4 rm48 rfl (vp_in_nI (by omega) (by omega)) d_Mo_takeAll_73 ?_
                refine zr_as (y := fr8 i) (by rw [zi_n _ (by omega)]) ?_
                refine zr_some (a := rA (re rs i)) (hfi) ?_
                refine zg_get (ci := 12) (C := "ZoneAnswersModel$Rec") (T := T_Re) (N := 5) hx hb hts zi_Re hown hK hG hr1 rfl 3 (by decide) (hts _ w_1268) (fun _ h9 => h9) rfl d_Mo_takeAll_74 ?_
                refine lv_bipush (v := 6) hx hb d_Mo_takeAll_77 (by decide) ?_
                refine lv_icmp_ne (tgt := 96) hx hb d_Mo_takeAll_79 (by decide) (fun c79 => ?_) (fun c79 => ?_)
                · refine lv_aload_n hx hb d_Mo_takeAll_96 rfl (lv_at hl 0 rfl) ?_
                  refine zg_get (ci := 11) (C := "ZoneAnswersModel") (T := T_Mo) (N := 21) hx hb hts zi_Mo hown hK hG ra8 rfl 4 (by decide) (hts _ w_1285) (fun _ h9 => h9) rfl d_Mo_takeAll_97 ?_
                  refine lv_iload hx hb d_Mo_takeAll_100 (lv_at hl 4 rfl) ?_
                  refine zg_aldq hx hb hK hG 4 rm48 rfl (vp_in_nI (by omega) (by omega)) d_Mo_takeAll_102 ?_
                  refine zr_as (y := fr8 i) (by rw [zi_n _ (by omega)]) ?_
                  refine zr_some (a := rA (re rs i)) (hfi) ?_
                  refine zg_get (ci := 12) (C := "ZoneAnswersModel$Rec") (T := T_Re) (N := 5) hx hb hts zi_Re hown hK hG hr1 rfl 0 (by decide) (hts _ w_1265) (fun _ h9 => h9) rfl d_Mo_takeAll_103 ?_
                  refine lv_aload_n hx hb d_Mo_takeAll_106 rfl (lv_at hl 2 rfl) ?_
                  refine zk_i (va_runS (As := [.ref (rN (re rs i)), .ref q9]) (rest := []) ⟨hx, hb, hml, hown, hts⟩ (t_Ns_same l E Gv (rN (re rs i)) (np_len (rM (re rs i))) nf hr2 q9 (np_len (np_low ls9)) f_q98 n1_q98 (by omega) (by omega)) (zcS 2 hts w_1405 w_1406 w_33 w_1407 (by decide +kernel) ⟨Nat.le_of_ble_eq_true rfl, Nat.le_of_ble_eq_true rfl⟩) (zc_pre hbase hK hN hQ hG hS) rfl rfl hl.1 rfl (lv_room (Nat.le_of_ble_eq_true rfl)) d_Mo_takeAll_107 ⟨(by dsimp only; omega), (by dsimp only; omega)⟩) hS (fun r107 G107 H locs hp107 hG hS => ?_)
                  have hG : zP E Gv H := hp107.2 ▸ hG
                  refine lv_if_ne (tgt := 116) hx hb d_Mo_takeAll_110 (by decide) (fun c110 => ?_) (fun c110 => ?_)
                  · refine lv_aload_n hx hb d_Mo_takeAll_116 rfl (lv_at hl 0 rfl) ?_
                    refine lv_iload hx hb d_Mo_takeAll_117 (lv_at hl 4 rfl) ?_
                    have hGo119 := hG
                    refine zk_v (va_runV (As := [.int (nI i)]) (rest := []) ⟨hx, hb, hml, hown, hts⟩ (t_Mo_removed l E Gv a c1 c2 ro2 lo (rTk rs (np_low ls9) t (i)) Wz 0 co se hse tp v19 v20 hst8 i hin8 (by omega)) (zcV 1 hts w_1425 w_1427 wp_33 w_30 w_1428 (by decide +kernel) ⟨Nat.le_of_ble_eq_true rfl, Nat.le_of_ble_eq_true rfl⟩) (zc_preV hbase hK hN hQ hG hS ra8 rfl) rfl rfl hl.1 rfl (lv_room (Nat.le_of_ble_eq_true rfl)) d_Mo_takeAll_119 ⟨(by dsimp only; omega), (by dsimp only; omega)⟩) hS (fun G119 H locs hp119 hG hS => ?_)
                    obtain ⟨hst9, hs9⟩ := hp119
                    have hf9 := hf8.tr hs9
                    have hnm9 := hnm8.fr hs9 zKr_0
                    have hrm : rM (re rs i) = np_low ls9 ∧ ¬ zkt t (rT (re rs i)) = true := ⟨(zsm_n hr3 n2_q98 hr4 n3_q98).mp (hp107.1.nz c110), zkt_f (by first | exact Or.inl c93 | exact Or.inr ⟨c64, c79⟩)⟩
                    have hnu9 := rNu_dr hin8
                    have hln9 := zdr_ln hin8
                    rw [rTk_y hi (by omega) hrm] at hst9 hnu9 hln9
                    refine lv_iinc (v := nI (cn + 1)) (lv' := [(3, .int (nI (cn + 1))), (0, .ref a), (1, .int t), (2, .ref q9), (4, .int (nI i))]) hx hb d_Mo_takeAll_122 hl (k := 3) rfl (nI_add cn 1) (by decide) rfl (fun ls hl => ?_)
                    refine lv_iinc (v := nI (i - 1)) (lv' := [(4, .int (nI (i - 1))), (3, .int (nI (cn + 1))), (0, .ref a), (1, .int t), (2, .ref q9)]) hx hb d_Mo_takeAll_125 hl (k := 4) rfl (zi_dec (by omega)) (by decide) rfl (fun ls hl => ?_)
                    refine lv_goto (tgt := 55) hx hb d_Mo_takeAll_128 (by decide) ?_
                    exact ih G119 (i - 1) (cn + 1) _ _ (by omega) (by omega) (by omega) (by omega) (hst9) (hnm9) (hf9) hG hS ls (lv_sub hl [2, 3, 4, 1, 0] rfl)
                  · refine lv_goto (tgt := 125) hx hb d_Mo_takeAll_113 (by decide) ?_
                    refine lv_iinc (v := nI (i - 1)) (lv' := [(4, .int (nI (i - 1))), (0, .ref a), (1, .int t), (2, .ref q9), (3, .int (nI cn))]) hx hb d_Mo_takeAll_125 hl (k := 4) rfl (zi_dec (by omega)) (by decide) rfl (fun ls hl => ?_)
                    refine lv_goto (tgt := 55) hx hb d_Mo_takeAll_128 (by decide) ?_
                    have hsk : rTk rs (np_low ls9) t (i) = rTk rs (np_low ls9) t (i - 1) := rTk_n hi (by omega) (fun z => hp107.1.z c110 ((zsm_n hr3 n2_q98 hr4 n3_q98).mpr z.1))
                    have hst9 := hst8
                    rw [hsk] at hst9
                    have hnm9 := hnm8
                    have hf9 := hf8
                    exact ih Gv (i - 1) cn _ _ (by omega) (by omega) (by rw [← hsk]; exact hcn8) (by rw [← hsk]; exact hnu8) (hst9) (hnm9) (hf9) hG hS ls (lv_sub hl [1, 2, 3, 4, 0] rfl)
                · refine lv_aload_n hx hb d_Mo_takeAll_82 rfl (lv_at hl 0 rfl) ?_
                  refine zg_get (ci := 11) (C := "ZoneAnswersModel") (T := T_Mo) (N := 21) hx hb hts zi_Mo hown hK hG ra8 rfl 4 (by decide) (hts _ w_1285) (fun _ h9 => h9) rfl d_Mo_takeAll_83 ?_
                  refine lv_iload hx hb d_Mo_takeAll_86 (lv_at hl 4 rfl) ?_
                  refine zg_aldq hx hb hK hG 4 rm48 rfl (vp_in_nI (by omega) (by omega)) d_Mo_takeAll_88 ?_
                  refine zr_as (y := fr8 i) (by rw [zi_n _ (by omega)]) ?_
                  refine zr_some (a := rA (re rs i)) (hfi) ?_
                  refine zg_get (ci := 12) (C := "ZoneAnswersModel$Rec") (T := T_Re) (N := 5) hx hb hts zi_Re hown hK hG hr1 rfl 3 (by decide) (hts _ w_1268) (fun _ h9 => h9) rfl d_Mo_takeAll_89 ?_
                  refine lv_iload_n hx hb d_Mo_takeAll_92 rfl (lv_at hl 1 rfl) ?_
                  refine lv_icmp_ne (tgt := 125) hx hb d_Mo_takeAll_93 (by decide) (fun c93 => ?_) (fun c93 => ?_)
                  · refine lv_iinc (v := nI (i - 1)) (lv' := [(4, .int (nI (i - 1))), (0, .ref a), (1, .int t), (2, .ref q9), (3, .int (nI cn))]) hx hb d_Mo_takeAll_125 hl (k := 4) rfl (zi_dec (by omega)) (by decide) rfl (fun ls hl => ?_)
                    refine lv_goto (tgt := 55) hx hb d_Mo_takeAll_128 (by decide) ?_
                    have hsk : rTk rs (np_low ls9) t (i) = rTk rs (np_low ls9) t (i - 1) := rTk_n hi (by omega) (fun z => z.2 (zkt_t c93 (by first | exact Or.inl c64 | exact Or.inr c79)))
                    have hst9 := hst8
                    rw [hsk] at hst9
                    have hnm9 := hnm8
                    have hf9 := hf8
                    exact ih Gv (i - 1) cn _ _ (by omega) (by omega) (by rw [← hsk]; exact hcn8) (by rw [← hsk]; exact hnu8) (hst9) (hnm9) (hf9) hG hS ls (lv_sub hl [1, 2, 3, 4, 0] rfl)
                  · refine lv_aload_n hx hb d_Mo_takeAll_96 rfl (lv_at hl 0 rfl) ?_
                    refine zg_get (ci := 11) (C := "ZoneAnswersModel") (T := T_Mo) (N := 21) hx hb hts zi_Mo hown hK hG ra8 rfl 4 (by decide) (hts _ w_1285) (fun _ h9 => h9) rfl d_Mo_takeAll_97 ?_
                    refine lv_iload hx hb d_Mo_takeAll_100 (lv_at hl 4 rfl) ?_
                    refine zg_aldq hx hb hK hG 4 rm48 rfl (vp_in_nI (by omega) (by omega)) d_Mo_takeAll_102 ?_
                    refine zr_as (y := fr8 i) (by rw [zi_n _ (by omega)]) ?_
                    refine zr_some (a := rA (re rs i)) (hfi) ?_
                    refine zg_get (ci := 12) (C := "ZoneAnswersModel$Rec") (T := T_Re) (N := 5) hx hb hts zi_Re hown hK hG hr1 rfl 0 (by decide) (hts _ w_1265) (fun _ h9 => h9) rfl d_Mo_takeAll_103 ?_
                    refine lv_aload_n hx hb d_Mo_takeAll_106 rfl (lv_at hl 2 rfl) ?_
                    refine zk_i (va_runS (As := [.ref (rN (re rs i)), .ref q9]) (rest := []) ⟨hx, hb, hml, hown, hts⟩ (t_Ns_same l E Gv (rN (re rs i)) (np_len (rM (re rs i))) nf hr2 q9 (np_len (np_low ls9)) f_q98 n1_q98 (by omega) (by omega)) (zcS 2 hts w_1405 w_1406 w_33 w_1407 (by decide +kernel) ⟨Nat.le_of_ble_eq_true rfl, Nat.le_of_ble_eq_true rfl⟩) (zc_pre hbase hK hN hQ hG hS) rfl rfl hl.1 rfl (lv_room (Nat.le_of_ble_eq_true rfl)) d_Mo_takeAll_107 ⟨(by dsimp only; omega), (by dsimp only; omega)⟩) hS (fun r107 G107 H locs hp107 hG hS => ?_)
                    have hG : zP E Gv H := hp107.2 ▸ hG
                    refine lv_if_ne (tgt := 116) hx hb d_Mo_takeAll_110 (by decide) (fun c110 => ?_) (fun c110 => ?_)
                    · refine lv_aload_n hx hb d_Mo_takeAll_116 rfl (lv_at hl 0 rfl) ?_
                      refine lv_iload hx hb d_Mo_takeAll_117 (lv_at hl 4 rfl) ?_
                      have hGo119 := hG
                      refine zk_v (va_runV (As := [.int (nI i)]) (rest := []) ⟨hx, hb, hml, hown, hts⟩ (t_Mo_removed l E Gv a c1 c2 ro2 lo (rTk rs (np_low ls9) t (i)) Wz 0 co se hse tp v19 v20 hst8 i hin8 (by omega)) (zcV 1 hts w_1425 w_1427 wp_33 w_30 w_1428 (by decide +kernel) ⟨Nat.le_of_ble_eq_true rfl, Nat.le_of_ble_eq_true rfl⟩) (zc_preV hbase hK hN hQ hG hS ra8 rfl) rfl rfl hl.1 rfl (lv_room (Nat.le_of_ble_eq_true rfl)) d_Mo_takeAll_119 ⟨(by dsimp only; omega), (by dsimp only; omega)⟩) hS (fun G119 H locs hp119 hG hS => ?_)
                      obtain ⟨hst9, hs9⟩ := hp119
                      have hf9 := hf8.tr hs9
                      have hnm9 := hnm8.fr hs9 zKr_0
                      have hrm : rM (re rs i) = np_low ls9 ∧ ¬ zkt t (rT (re rs i)) = true := ⟨(zsm_n hr3 n2_q98 hr4 n3_q98).mp (hp107.1.nz c110), zkt_f (by first | exact Or.inl c93 | exact Or.inr ⟨c64, c79⟩)⟩
                      have hnu9 := rNu_dr hin8
                      have hln9 := zdr_ln hin8
                      rw [rTk_y hi (by omega) hrm] at hst9 hnu9 hln9
                      refine lv_iinc (v := nI (cn + 1)) (lv' := [(3, .int (nI (cn + 1))), (0, .ref a), (1, .int t), (2, .ref q9), (4, .int (nI i))]) hx hb d_Mo_takeAll_122 hl (k := 3) rfl (nI_add cn 1) (by decide) rfl (fun ls hl => ?_)
                      refine lv_iinc (v := nI (i - 1)) (lv' := [(4, .int (nI (i - 1))), (3, .int (nI (cn + 1))), (0, .ref a), (1, .int t), (2, .ref q9)]) hx hb d_Mo_takeAll_125 hl (k := 4) rfl (zi_dec (by omega)) (by decide) rfl (fun ls hl => ?_)
                      refine lv_goto (tgt := 55) hx hb d_Mo_takeAll_128 (by decide) ?_
                      exact ih G119 (i - 1) (cn + 1) _ _ (by omega) (by omega) (by omega) (by omega) (hst9) (hnm9) (hf9) hG hS ls (lv_sub hl [2, 3, 4, 1, 0] rfl)
                    · refine lv_goto (tgt := 125) hx hb d_Mo_takeAll_113 (by decide) ?_
                      refine lv_iinc (v := nI (i - 1)) (lv' := [(4, .int (nI (i - 1))), (0, .ref a), (1, .int t), (2, .ref q9), (3, .int (nI cn))]) hx hb d_Mo_takeAll_125 hl (k := 4) rfl (zi_dec (by omega)) (by decide) rfl (fun ls hl => ?_)
                      refine lv_goto (tgt := 55) hx hb d_Mo_takeAll_128 (by decide) ?_
                      have hsk : rTk rs (np_low ls9) t (i) = rTk rs (np_low ls9) t (i - 1) := rTk_n hi (by omega) (fun z => hp107.1.z c110 ((zsm_n hr3 n2_q98 hr4 n3_q98).mpr z.1))
                      have hst9 := hst8
                      rw [hsk] at hst9
                      have hnm9 := hnm8
                      have hf9 := hf8
                      exact ih Gv (i - 1) cn _ _ (by omega) (by omega) (by rw [← hsk]; exact hcn8) (by rw [← hsk]; exact hnu8) (hst9) (hnm9) (hf9) hG hS ls (lv_sub hl [1, 2, 3, 4, 0] rfl)
        have hT0 : rTk rs (np_low ls9) t (rs.length - 1) = rs := rTk_0 (by omega)
        refine zW_more (cells2 := 1) (slots2 := 255) (by dsimp only; omega) (by dsimp only; omega) ?_
        exact loop55 _ G6 (rs.length - 1) 0 _ _ (Nat.lt_succ_self _) (by omega) (by rw [hT0]; omega) (by rw [hT0]; exact Nat.le_refl _) (by rw [hT0]; exact hst2) (hnm2) (hf2) hG hS ls (lv_sub hl [3, 4, 2, 1, 0] rfl)
      · refine lv_iload_n hx hb d_Mo_takeAll_32 rfl (lv_at hl 2 rfl) ?_
        refine zk_i (va_runS (As := [.int t]) (rest := []) ⟨hx, hb, hml, hown, hts⟩ (t_Mo_allowed l E G6 t) (zcS 1 hts w_1383 w_1384 w_30 w_1385 (by decide +kernel) ⟨Nat.le_of_ble_eq_true rfl, Nat.le_of_ble_eq_true rfl⟩) (zc_pre hbase hK hN hQ hG hS) rfl rfl hl.1 rfl (lv_room (Nat.le_of_ble_eq_true rfl)) d_Mo_takeAll_33 ⟨(by dsimp only; omega), (by dsimp only; omega)⟩) hS (fun r33 G33 H locs hp33 hG hS => ?_)
        have hG : zP E G6 H := hp33.2 ▸ hG
        refine lv_if_ne (tgt := 45) hx hb d_Mo_takeAll_36 (by decide) (fun c36 => ?_) (fun c36 => ?_)
        · have hzp := hp33.1.nz c36
          have hall : zall t := by first | exact Or.inl c29 | exact Or.inr hzp
          have hpz := hst2.gd.1
          refine lv_iconst (v := 0) hx hb d_Mo_takeAll_45 (by decide) ?_
          refine zi_as (y := nI 0) (nI_0.symm) ?_
          refine lv_istore_n (lv' := [(3, .int (nI 0)), (2, .ref q9), (0, .ref a), (1, .int t)]) hx hb d_Mo_takeAll_46 rfl hl (by decide) rfl (fun ls hl => ?_)
          refine lv_aload_n hx hb d_Mo_takeAll_47 rfl (lv_at hl 2 rfl) ?_
          refine zg_get (ci := 11) (C := "ZoneAnswersModel") (T := T_Mo) (N := 21) hx hb hts zi_Mo hown hK hG ra2 rfl 5 (by decide) (hts _ w_1286) (fun _ h9 => h9) rfl d_Mo_takeAll_48 ?_
          refine lv_iconst (v := 1) hx hb d_Mo_takeAll_51 (by decide) ?_
          refine lv_isub hx hb d_Mo_takeAll_52 ?_
          refine zi_as (y := nI (rs.length - 1)) (zi_sub (a := rs.length) (b := 1) (by omega)) ?_
          refine lv_istore (lv' := [(4, .int (nI (rs.length - 1))), (3, .int (nI 0)), (2, .ref q9), (0, .ref a), (1, .int t)]) hx hb d_Mo_takeAll_53 hl (by decide) rfl (fun ls hl => ?_)
          have loop55 : ∀ (N : Nat) (Gv : zg_G) (i : Nat) (cn : Nat) (H : Heap) (locs : List Loc), i < N → (i < rs.length) → (cn + (rTk rs (np_low ls9) t (i)).length = rs.length) → (rNu (rTk rs (np_low ls9) t (i)) ≤ rNu rs) → (rSt E Gv ro2 a c1 c2 lo (rTk rs (np_low ls9) t (i)) Wz [] False (0, 0, [], []) 0 tp co se v19 v20) → (rNm E Gv ro2 q9 (np_low ls9)) → (zfr ro zKr G ro2 Gv) → zP E Gv H → zg_S (zc_b E) s.heap H locs → ∀ (ls : Array Slot), lv_has ls 5 [(0, .ref a), (1, .int t), (2, .ref q9), (3, .int (nI cn)), (4, .int (nI i))] → W p l e (rm_Mo_takeAll tp.length) s m args below meth c H locs 1 255 Q (F0 m 55 ls []) := by
            intro N
            induction N with
            | zero =>
              intro Gv i cn H locs hlt
              exact absurd hlt (Nat.not_lt_zero _)
            | succ N ih =>
              intro Gv i cn H locs hlt hi hcn8 hnu8 hst8 hnm8 hf8 hG hS ls hl
              obtain ⟨h8, eh08, eh18, eh28, hc8⟩ := id hst8
              obtain ⟨ra8, rb8, ⟨fm8, rt18, rt28, rt38, rt48⟩, rtl8, ⟨fo8, rn18, rn28, rn38, rn48, rn58⟩, rr8, rg8, ras8⟩ := id hc8
              rw [eh08] at ra8
              obtain ⟨⟨fr8, rm48, hfr8⟩, hn28, hRs8⟩ := id rr8.1
              obtain ⟨f_q98, n1_q98, n2_q98, n3_q98, n4_q98, n5_q98⟩ := id hnm8
              have sm_q98 := n3_q98.2
              obtain ⟨hin8, hre⟩ := rTk_re (x := np_low ls9) (t := t) hi
              have hrr := hRs8 _ (re_mem hin8)
              rw [hre] at hrr
              obtain ⟨hr1, ⟨nf, hr2, hr3, hr4, hr5⟩, df, hr6, hr7, hr8⟩ := hrr
              have hfi := hfr8 i hin8
              rw [hre] at hfi
              have sm := hr4.2
              refine lv_iload hx hb d_Mo_takeAll_55 (lv_at hl 4 rfl) ?_
              refine lv_if_le (tgt := 131) hx hb d_Mo_takeAll_57 (by decide) (fun c57 => ?_) (fun c57 => ?_)
              · have b57 : i ≤ 0 := (nI_leI (a := i) (b := 0) (by omega) (by omega)).mp c57
                refine lv_aload_n hx hb d_Mo_takeAll_131 rfl (lv_at hl 0 rfl) ?_
                refine lv_iconst (v := 0) hx hb d_Mo_takeAll_132 (by decide) ?_
                refine zi_as (y := nI 0) (nI_0.symm) ?_
                refine zg_put (ci := 11) (v := .int (nI 0)) (ty := .int) (C := "ZoneAnswersModel") (T := T_Mo) (N := 21) hx hb hts zi_Mo t_Mo t_Mo_ok n_Mo hown hK hG hS ra8 rfl 2 (by decide) (hts _ w_1283) (fun _ h9 => h9) rfl (by decide +kernel) rfl rfl (Nat.le_of_ble_eq_true rfl) d_Mo_takeAll_133 (fun H locs hG hS => ?_)
                obtain ⟨G314, eG314⟩ : ∃ z : zg_G, z = zg_up Gv a (.inr (11, [.int 0, .ref (h8 1), .int (nI 0), .ref (h8 3), .ref (h8 4), .int (nI (rTk rs (np_low ls9) t (i)).length), .ref (h8 6), .ref (h8 7), .ref (h8 8), .ref (h8 9), .ref (h8 10), .ref (h8 11), .ref (h8 12), .int (nI (wln Wz)), .int co, .ref (h8 15), .int (nI (rPw Wz + ([] : List Int32).length)), .int se, .ref (h8 18), v19, v20])) := ⟨_, rfl⟩
                have hG : zP E G314 H := by rw [eG314]; exact hG
                have k315 : G314 a = some (.inr (11, [.int 0, .ref (h8 1), .int (nI 0), .ref (h8 3), .ref (h8 4), .int (nI (rTk rs (np_low ls9) t (i)).length), .ref (h8 6), .ref (h8 7), .ref (h8 8), .ref (h8 9), .ref (h8 10), .ref (h8 11), .ref (h8 12), .int (nI (wln Wz)), .int co, .ref (h8 15), .int (nI (rPw Wz + ([] : List Int32).length)), .int se, .ref (h8 18), v19, v20])) := by rw [eG314]; exact zg_up_self _ _ _
                have k316 : G314 (h8 4) = some (.inl (E.2.1 4, 2000, .inr (.inr (.inr (.inr fr8))))) := by rw [eG314, zg_up_ne (zg_ne rm48 ra8 (by intro h; simp at h))]; exact rm48
                have k317 : G314 (h8 3) = some (.inl (E.2.1 0, np_len lo, .inl fo8)) := by rw [eG314, zg_up_ne (zg_ne rn18 ra8 (by intro h; simp at h))]; exact rn18
                have k318 : G314 (h8 1) = some (.inl (E.2.1 0, 65536, .inl fm8)) := by rw [eG314, zg_up_ne (zg_ne rt18 ra8 (by intro h; simp at h))]; exact rt18
                have k319 : G314 q9 = some (.inl (E.2.1 0, np_len (np_low ls9), .inl f_q98)) := by rw [eG314, zg_up_ne (zg_ne n1_q98 ra8 (by intro h; simp at h))]; exact n1_q98
                have k320 : G314 (rA (re rs i)) = some (.inr (12, [.ref (rN (re rs i)), .ref (rD (re rs i)), (rV (re rs i)), .int (rT (re rs i)), .int (rU (re rs i))])) := by rw [eG314, zg_up_ne (zg_ne hr1 ra8 (by intro h; simp at h))]; exact hr1
                have k321 : G314 (rN (re rs i)) = some (.inl (E.2.1 0, np_len (rM (re rs i)), .inl nf)) := by rw [eG314, zg_up_ne (zg_ne hr2 ra8 (by intro h; simp at h))]; exact hr2
                obtain ⟨hst7, hs7⟩ := rSt.tk hst8 0 (Nat.zero_le _) _ _ 0 ra8
                rw [← eG314, List.take_zero] at hst7
                rw [← eG314] at hs7
                have hf7 := hf8.tr hs7
                have hi00 : i = 0 := by omega
                rw [hi00, rTk_e (x := np_low ls9) hst2.gd hall] at hst7 hnu8 hcn8
                refine lv_iload_n hx hb d_Mo_takeAll_136 rfl (lv_at hl 3 rfl) ?_
                exact hret _ _ _ _ _ _ _ _ _ hr (rfl) (Or.inl ⟨ro2, _, ls9, cn, hTn, hbe, hall, rVf_kp, rgone_all hcn8, rfl, hcn8, hnu8, hst7.o hse, hf7⟩) hG hS (by dsimp only; omega) (by dsimp only; omega) d_Mo_takeAll_137
              · have b57 : ¬ i ≤ 0 := fun q => c57 ((nI_leI (a := i) (b := 0) (by omega) (by omega)).mpr q)
                refine lv_iload_n hx hb d_Mo_takeAll_60 rfl (lv_at hl 1 rfl) ?_
                refine lv_sipush (v := 255) hx hb d_Mo_takeAll_61 (by decide) ?_
                refine lv_icmp_ne (tgt := 82) hx hb d_Mo_takeAll_64 (by decide) (fun c64 => ?_) (fun c64 => ?_)
                · refine lv_aload_n hx hb d_Mo_takeAll_82 rfl (lv_at hl 0 rfl) ?_
                  refine zg_get (ci := 11) (C := "ZoneAnswersModel") (T := T_Mo) (N := 21) hx hb hts zi_Mo hown hK hG ra8 rfl 4 (by decide) (hts _ w_1285) (fun _ h9 => h9) rfl d_Mo_takeAll_83 ?_
                  refine lv_iload hx hb d_Mo_takeAll_86 (lv_at hl 4 rfl) ?_
                  refine zg_aldq hx hb hK hG 4 rm48 rfl (vp_in_nI (by omega) (by omega)) d_Mo_takeAll_88 ?_
                  refine zr_as (y := fr8 i) (by rw [zi_n _ (by omega)]) ?_
                  refine zr_some (a := rA (re rs i)) (hfi) ?_
                  refine zg_get (ci := 12) (C := "ZoneAnswersModel$Rec") (T := T_Re) (N := 5) hx hb hts zi_Re hown hK hG hr1 rfl 3 (by decide) (hts _ w_1268) (fun _ h9 => h9) rfl d_Mo_takeAll_89 ?_
                  refine lv_iload_n hx hb d_Mo_takeAll_92 rfl (lv_at hl 1 rfl) ?_
                  refine lv_icmp_ne (tgt := 125) hx hb d_Mo_takeAll_93 (by decide) (fun c93 => ?_) (fun c93 => ?_)
                  · refine lv_iinc (v := nI (i - 1)) (lv' := [(4, .int (nI (i - 1))), (0, .ref a), (1, .int t), (2, .ref q9), (3, .int (nI cn))]) hx hb d_Mo_takeAll_125 hl (k := 4) rfl (zi_dec (by omega)) (by decide) rfl (fun ls hl => ?_)
                    refine lv_goto (tgt := 55) hx hb d_Mo_takeAll_128 (by decide) ?_
                    have hsk : rTk rs (np_low ls9) t (i) = rTk rs (np_low ls9) t (i - 1) := rTk_n hi (by omega) (fun z => z.2 (zkt_t c93 (by first | exact Or.inl c64 | exact Or.inr c79)))
                    have hst9 := hst8
                    rw [hsk] at hst9
                    have hnm9 := hnm8
                    have hf9 := hf8
                    exact ih Gv (i - 1) cn _ _ (by omega) (by omega) (by rw [← hsk]; exact hcn8) (by rw [← hsk]; exact hnu8) (hst9) (hnm9) (hf9) hG hS ls (lv_sub hl [1, 2, 3, 4, 0] rfl)
                  · refine lv_aload_n hx hb d_Mo_takeAll_96 rfl (lv_at hl 0 rfl) ?_
                    refine zg_get (ci := 11) (C := "ZoneAnswersModel") (T := T_Mo) (N := 21) hx hb hts zi_Mo hown hK hG ra8 rfl 4 (by decide) (hts _ w_1285) (fun _ h9 => h9) rfl d_Mo_takeAll_97 ?_
                    refine lv_iload hx hb d_Mo_takeAll_100 (lv_at hl 4 rfl) ?_
                    refine zg_aldq hx hb hK hG 4 rm48 rfl (vp_in_nI (by omega) (by omega)) d_Mo_takeAll_102 ?_
                    refine zr_as (y := fr8 i) (by rw [zi_n _ (by omega)]) ?_
                    refine zr_some (a := rA (re rs i)) (hfi) ?_
                    refine zg_get (ci := 12) (C := "ZoneAnswersModel$Rec") (T := T_Re) (N := 5) hx hb hts zi_Re hown hK hG hr1 rfl 0 (by decide) (hts _ w_1265) (fun _ h9 => h9) rfl d_Mo_takeAll_103 ?_
                    refine lv_aload_n hx hb d_Mo_takeAll_106 rfl (lv_at hl 2 rfl) ?_
                    refine zk_i (va_runS (As := [.ref (rN (re rs i)), .ref q9]) (rest := []) ⟨hx, hb, hml, hown, hts⟩ (t_Ns_same l E Gv (rN (re rs i)) (np_len (rM (re rs i))) nf hr2 q9 (np_len (np_low ls9)) f_q98 n1_q98 (by omega) (by omega)) (zcS 2 hts w_1405 w_1406 w_33 w_1407 (by decide +kernel) ⟨Nat.le_of_ble_eq_true rfl, Nat.le_of_ble_eq_true rfl⟩) (zc_pre hbase hK hN hQ hG hS) rfl rfl hl.1 rfl (lv_room (Nat.le_of_ble_eq_true rfl)) d_Mo_takeAll_107 ⟨(by dsimp only; omega), (by dsimp only; omega)⟩) hS (fun r107 G107 H locs hp107 hG hS => ?_)
                    have hG : zP E Gv H := hp107.2 ▸ hG
                    refine lv_if_ne (tgt := 116) hx hb d_Mo_takeAll_110 (by decide) (fun c110 => ?_) (fun c110 => ?_)
                    · refine lv_aload_n hx hb d_Mo_takeAll_116 rfl (lv_at hl 0 rfl) ?_
                      refine lv_iload hx hb d_Mo_takeAll_117 (lv_at hl 4 rfl) ?_
                      have hGo119 := hG
                      refine zk_v (va_runV (As := [.int (nI i)]) (rest := []) ⟨hx, hb, hml, hown, hts⟩ (t_Mo_removed l E Gv a c1 c2 ro2 lo (rTk rs (np_low ls9) t (i)) Wz 0 co se hse tp v19 v20 hst8 i hin8 (by omega)) (zcV 1 hts w_1425 w_1427 wp_33 w_30 w_1428 (by decide +kernel) ⟨Nat.le_of_ble_eq_true rfl, Nat.le_of_ble_eq_true rfl⟩) (zc_preV hbase hK hN hQ hG hS ra8 rfl) rfl rfl hl.1 rfl (lv_room (Nat.le_of_ble_eq_true rfl)) d_Mo_takeAll_119 ⟨(by dsimp only; omega), (by dsimp only; omega)⟩) hS (fun G119 H locs hp119 hG hS => ?_)
                      obtain ⟨hst9, hs9⟩ := hp119
                      have hf9 := hf8.tr hs9
                      have hnm9 := hnm8.fr hs9 zKr_0
                      have hrm : rM (re rs i) = np_low ls9 ∧ ¬ zkt t (rT (re rs i)) = true := ⟨(zsm_n hr3 n2_q98 hr4 n3_q98).mp (hp107.1.nz c110), zkt_f (by first | exact Or.inl c93 | exact Or.inr ⟨c64, c79⟩)⟩
                      have hnu9 := rNu_dr hin8
                      have hln9 := zdr_ln hin8
                      rw [rTk_y hi (by omega) hrm] at hst9 hnu9 hln9
                      refine lv_iinc (v := nI (cn + 1)) (lv' := [(3, .int (nI (cn + 1))), (0, .ref a), (1, .int t), (2, .ref q9), (4, .int (nI i))]) hx hb d_Mo_takeAll_122 hl (k := 3) rfl (nI_add cn 1) (by decide) rfl (fun ls hl => ?_)
                      refine lv_iinc (v := nI (i - 1)) (lv' := [(4, .int (nI (i - 1))), (3, .int (nI (cn + 1))), (0, .ref a), (1, .int t), (2, .ref q9)]) hx hb d_Mo_takeAll_125 hl (k := 4) rfl (zi_dec (by omega)) (by decide) rfl (fun ls hl => ?_)
                      refine lv_goto (tgt := 55) hx hb d_Mo_takeAll_128 (by decide) ?_
                      exact ih G119 (i - 1) (cn + 1) _ _ (by omega) (by omega) (by omega) (by omega) (hst9) (hnm9) (hf9) hG hS ls (lv_sub hl [2, 3, 4, 1, 0] rfl)
                    · refine lv_goto (tgt := 125) hx hb d_Mo_takeAll_113 (by decide) ?_
                      refine lv_iinc (v := nI (i - 1)) (lv' := [(4, .int (nI (i - 1))), (0, .ref a), (1, .int t), (2, .ref q9), (3, .int (nI cn))]) hx hb d_Mo_takeAll_125 hl (k := 4) rfl (zi_dec (by omega)) (by decide) rfl (fun ls hl => ?_)
                      refine lv_goto (tgt := 55) hx hb d_Mo_takeAll_128 (by decide) ?_
                      have hsk : rTk rs (np_low ls9) t (i) = rTk rs (np_low ls9) t (i - 1) := rTk_n hi (by omega) (fun z => hp107.1.z c110 ((zsm_n hr3 n2_q98 hr4 n3_q98).mpr z.1))
                      have hst9 := hst8
                      rw [hsk] at hst9
                      have hnm9 := hnm8
                      have hf9 := hf8
                      exact ih Gv (i - 1) cn _ _ (by omega) (by omega) (by rw [← hsk]; exact hcn8) (by rw [← hsk]; exact hnu8) (hst9) (hnm9) (hf9) hG hS ls (lv_sub hl [1, 2, 3, 4, 0] rfl)
                · refine lv_aload_n hx hb d_Mo_takeAll_67 rfl (lv_at hl 0 rfl) ?_
                  refine zg_get (ci := 11) (C := "ZoneAnswersModel") (T := T_Mo) (N := 21) hx hb hts zi_Mo hown hK hG ra8 rfl 4 (by decide) (hts _ w_1285) (fun _ h9 => h9) rfl d_Mo_takeAll_68 ?_
                  refine lv_iload hx hb d_Mo_takeAll_71 (lv_at hl 4 rfl) ?_
                  refine zg_aldq hx hb hK hG 4 rm48 rfl (vp_in_nI (by omega) (by omega)) d_Mo_takeAll_73 ?_
                  refine zr_as (y := fr8 i) (by rw [zi_n _ (by omega)]) ?_
                  refine zr_some (a := rA (re rs i)) (hfi) ?_
                  refine zg_get (ci := 12) (C := "ZoneAnswersModel$Rec") (T := T_Re) (N := 5) hx hb hts zi_Re hown hK hG hr1 rfl 3 (by decide) (hts _ w_1268) (fun _ h9 => h9) rfl d_Mo_takeAll_74 ?_
                  refine lv_bipush (v := 6) hx hb d_Mo_takeAll_77 (by decide) ?_
                  refine lv_icmp_ne (tgt := 96) hx hb d_Mo_takeAll_79 (by decide) (fun c79 => ?_) (fun c79 => ?_)
                  · refine lv_aload_n hx hb d_Mo_takeAll_96 rfl (lv_at hl 0 rfl) ?_
                    refine zg_get (ci := 11) (C := "ZoneAnswersModel") (T := T_Mo) (N := 21) hx hb hts zi_Mo hown hK hG ra8 rfl 4 (by decide) (hts _ w_1285) (fun _ h9 => h9) rfl d_Mo_takeAll_97 ?_
                    refine lv_iload hx hb d_Mo_takeAll_100 (lv_at hl 4 rfl) ?_
                    refine zg_aldq hx hb hK hG 4 rm48 rfl (vp_in_nI (by omega) (by omega)) d_Mo_takeAll_102 ?_
                    refine zr_as (y := fr8 i) (by rw [zi_n _ (by omega)]) ?_
                    refine zr_some (a := rA (re rs i)) (hfi) ?_
                    refine zg_get (ci := 12) (C := "ZoneAnswersModel$Rec") (T := T_Re) (N := 5) hx hb hts zi_Re hown hK hG hr1 rfl 0 (by decide) (hts _ w_1265) (fun _ h9 => h9) rfl d_Mo_takeAll_103 ?_
                    refine lv_aload_n hx hb d_Mo_takeAll_106 rfl (lv_at hl 2 rfl) ?_
                    refine zk_i (va_runS (As := [.ref (rN (re rs i)), .ref q9]) (rest := []) ⟨hx, hb, hml, hown, hts⟩ (t_Ns_same l E Gv (rN (re rs i)) (np_len (rM (re rs i))) nf hr2 q9 (np_len (np_low ls9)) f_q98 n1_q98 (by omega) (by omega)) (zcS 2 hts w_1405 w_1406 w_33 w_1407 (by decide +kernel) ⟨Nat.le_of_ble_eq_true rfl, Nat.le_of_ble_eq_true rfl⟩) (zc_pre hbase hK hN hQ hG hS) rfl rfl hl.1 rfl (lv_room (Nat.le_of_ble_eq_true rfl)) d_Mo_takeAll_107 ⟨(by dsimp only; omega), (by dsimp only; omega)⟩) hS (fun r107 G107 H locs hp107 hG hS => ?_)
                    have hG : zP E Gv H := hp107.2 ▸ hG
                    refine lv_if_ne (tgt := 116) hx hb d_Mo_takeAll_110 (by decide) (fun c110 => ?_) (fun c110 => ?_)
                    · refine lv_aload_n hx hb d_Mo_takeAll_116 rfl (lv_at hl 0 rfl) ?_
                      refine lv_iload hx hb d_Mo_takeAll_117 (lv_at hl 4 rfl) ?_
                      have hGo119 := hG
                      refine zk_v (va_runV (As := [.int (nI i)]) (rest := []) ⟨hx, hb, hml, hown, hts⟩ (t_Mo_removed l E Gv a c1 c2 ro2 lo (rTk rs (np_low ls9) t (i)) Wz 0 co se hse tp v19 v20 hst8 i hin8 (by omega)) (zcV 1 hts w_1425 w_1427 wp_33 w_30 w_1428 (by decide +kernel) ⟨Nat.le_of_ble_eq_true rfl, Nat.le_of_ble_eq_true rfl⟩) (zc_preV hbase hK hN hQ hG hS ra8 rfl) rfl rfl hl.1 rfl (lv_room (Nat.le_of_ble_eq_true rfl)) d_Mo_takeAll_119 ⟨(by dsimp only; omega), (by dsimp only; omega)⟩) hS (fun G119 H locs hp119 hG hS => ?_)
                      obtain ⟨hst9, hs9⟩ := hp119
                      have hf9 := hf8.tr hs9
                      have hnm9 := hnm8.fr hs9 zKr_0
                      have hrm : rM (re rs i) = np_low ls9 ∧ ¬ zkt t (rT (re rs i)) = true := ⟨(zsm_n hr3 n2_q98 hr4 n3_q98).mp (hp107.1.nz c110), zkt_f (by first | exact Or.inl c93 | exact Or.inr ⟨c64, c79⟩)⟩
                      have hnu9 := rNu_dr hin8
                      have hln9 := zdr_ln hin8
                      rw [rTk_y hi (by omega) hrm] at hst9 hnu9 hln9
                      refine lv_iinc (v := nI (cn + 1)) (lv' := [(3, .int (nI (cn + 1))), (0, .ref a), (1, .int t), (2, .ref q9), (4, .int (nI i))]) hx hb d_Mo_takeAll_122 hl (k := 3) rfl (nI_add cn 1) (by decide) rfl (fun ls hl => ?_)
                      refine lv_iinc (v := nI (i - 1)) (lv' := [(4, .int (nI (i - 1))), (3, .int (nI (cn + 1))), (0, .ref a), (1, .int t), (2, .ref q9)]) hx hb d_Mo_takeAll_125 hl (k := 4) rfl (zi_dec (by omega)) (by decide) rfl (fun ls hl => ?_)
                      refine lv_goto (tgt := 55) hx hb d_Mo_takeAll_128 (by decide) ?_
                      exact ih G119 (i - 1) (cn + 1) _ _ (by omega) (by omega) (by omega) (by omega) (hst9) (hnm9) (hf9) hG hS ls (lv_sub hl [2, 3, 4, 1, 0] rfl)
                    · refine lv_goto (tgt := 125) hx hb d_Mo_takeAll_113 (by decide) ?_
                      refine lv_iinc (v := nI (i - 1)) (lv' := [(4, .int (nI (i - 1))), (0, .ref a), (1, .int t), (2, .ref q9), (3, .int (nI cn))]) hx hb d_Mo_takeAll_125 hl (k := 4) rfl (zi_dec (by omega)) (by decide) rfl (fun ls hl => ?_)
                      refine lv_goto (tgt := 55) hx hb d_Mo_takeAll_128 (by decide) ?_
                      have hsk : rTk rs (np_low ls9) t (i) = rTk rs (np_low ls9) t (i - 1) := rTk_n hi (by omega) (fun z => hp107.1.z c110 ((zsm_n hr3 n2_q98 hr4 n3_q98).mpr z.1))
                      have hst9 := hst8
                      rw [hsk] at hst9
                      have hnm9 := hnm8
                      have hf9 := hf8
                      exact ih Gv (i - 1) cn _ _ (by omega) (by omega) (by rw [← hsk]; exact hcn8) (by rw [← hsk]; exact hnu8) (hst9) (hnm9) (hf9) hG hS ls (lv_sub hl [1, 2, 3, 4, 0] rfl)
                  · refine lv_aload_n hx hb d_Mo_takeAll_82 rfl (lv_at hl 0 rfl) ?_
                    refine zg_get (ci := 11) (C := "ZoneAnswersModel") (T := T_Mo) (N := 21) hx hb hts zi_Mo hown hK hG ra8 rfl 4 (by decide) (hts _ w_1285) (fun _ h9 => h9) rfl d_Mo_takeAll_83 ?_
                    refine lv_iload hx hb d_Mo_takeAll_86 (lv_at hl 4 rfl) ?_
                    refine zg_aldq hx hb hK hG 4 rm48 rfl (vp_in_nI (by omega) (by omega)) d_Mo_takeAll_88 ?_
                    refine zr_as (y := fr8 i) (by rw [zi_n _ (by omega)]) ?_
                    refine zr_some (a := rA (re rs i)) (hfi) ?_
                    refine zg_get (ci := 12) (C := "ZoneAnswersModel$Rec") (T := T_Re) (N := 5) hx hb hts zi_Re hown hK hG hr1 rfl 3 (by decide) (hts _ w_1268) (fun _ h9 => h9) rfl d_Mo_takeAll_89 ?_
                    refine lv_iload_n hx hb d_Mo_takeAll_92 rfl (lv_at hl 1 rfl) ?_
                    refine lv_icmp_ne (tgt := 125) hx hb d_Mo_takeAll_93 (by decide) (fun c93 => ?_) (fun c93 => ?_)
                    · refine lv_iinc (v := nI (i - 1)) (lv' := [(4, .int (nI (i - 1))), (0, .ref a), (1, .int t), (2, .ref q9), (3, .int (nI cn))]) hx hb d_Mo_takeAll_125 hl (k := 4) rfl (zi_dec (by omega)) (by decide) rfl (fun ls hl => ?_)
                      refine lv_goto (tgt := 55) hx hb d_Mo_takeAll_128 (by decide) ?_
                      have hsk : rTk rs (np_low ls9) t (i) = rTk rs (np_low ls9) t (i - 1) := rTk_n hi (by omega) (fun z => z.2 (zkt_t c93 (by first | exact Or.inl c64 | exact Or.inr c79)))
                      have hst9 := hst8
                      rw [hsk] at hst9
                      have hnm9 := hnm8
                      have hf9 := hf8
                      exact ih Gv (i - 1) cn _ _ (by omega) (by omega) (by rw [← hsk]; exact hcn8) (by rw [← hsk]; exact hnu8) (hst9) (hnm9) (hf9) hG hS ls (lv_sub hl [1, 2, 3, 4, 0] rfl)
                    · refine lv_aload_n hx hb d_Mo_takeAll_96 rfl (lv_at hl 0 rfl) ?_
                      refine zg_get (ci := 11) (C := "ZoneAnswersModel") (T := T_Mo) (N := 21) hx hb hts zi_Mo hown hK hG ra8 rfl 4 (by decide) (hts _ w_1285) (fun _ h9 => h9) rfl d_Mo_takeAll_97 ?_
                      refine lv_iload hx hb d_Mo_takeAll_100 (lv_at hl 4 rfl) ?_
                      refine zg_aldq hx hb hK hG 4 rm48 rfl (vp_in_nI (by omega) (by omega)) d_Mo_takeAll_102 ?_
                      refine zr_as (y := fr8 i) (by rw [zi_n _ (by omega)]) ?_
                      refine zr_some (a := rA (re rs i)) (hfi) ?_
                      refine zg_get (ci := 12) (C := "ZoneAnswersModel$Rec") (T := T_Re) (N := 5) hx hb hts zi_Re hown hK hG hr1 rfl 0 (by decide) (hts _ w_1265) (fun _ h9 => h9) rfl d_Mo_takeAll_103 ?_
                      refine lv_aload_n hx hb d_Mo_takeAll_106 rfl (lv_at hl 2 rfl) ?_
                      refine zk_i (va_runS (As := [.ref (rN (re rs i)), .ref q9]) (rest := []) ⟨hx, hb, hml, hown, hts⟩ (t_Ns_same l E Gv (rN (re rs i)) (np_len (rM (re rs i))) nf hr2 q9 (np_len (np_low ls9)) f_q98 n1_q98 (by omega) (by omega)) (zcS 2 hts w_1405 w_1406 w_33 w_1407 (by decide +kernel) ⟨Nat.le_of_ble_eq_true rfl, Nat.le_of_ble_eq_true rfl⟩) (zc_pre hbase hK hN hQ hG hS) rfl rfl hl.1 rfl (lv_room (Nat.le_of_ble_eq_true rfl)) d_Mo_takeAll_107 ⟨(by dsimp only; omega), (by dsimp only; omega)⟩) hS (fun r107 G107 H locs hp107 hG hS => ?_)
                      have hG : zP E Gv H := hp107.2 ▸ hG
                      refine lv_if_ne (tgt := 116) hx hb d_Mo_takeAll_110 (by decide) (fun c110 => ?_) (fun c110 => ?_)
                      · refine lv_aload_n hx hb d_Mo_takeAll_116 rfl (lv_at hl 0 rfl) ?_
                        refine lv_iload hx hb d_Mo_takeAll_117 (lv_at hl 4 rfl) ?_
                        have hGo119 := hG
                        refine zk_v (va_runV (As := [.int (nI i)]) (rest := []) ⟨hx, hb, hml, hown, hts⟩ (t_Mo_removed l E Gv a c1 c2 ro2 lo (rTk rs (np_low ls9) t (i)) Wz 0 co se hse tp v19 v20 hst8 i hin8 (by omega)) (zcV 1 hts w_1425 w_1427 wp_33 w_30 w_1428 (by decide +kernel) ⟨Nat.le_of_ble_eq_true rfl, Nat.le_of_ble_eq_true rfl⟩) (zc_preV hbase hK hN hQ hG hS ra8 rfl) rfl rfl hl.1 rfl (lv_room (Nat.le_of_ble_eq_true rfl)) d_Mo_takeAll_119 ⟨(by dsimp only; omega), (by dsimp only; omega)⟩) hS (fun G119 H locs hp119 hG hS => ?_)
                        obtain ⟨hst9, hs9⟩ := hp119
                        have hf9 := hf8.tr hs9
                        have hnm9 := hnm8.fr hs9 zKr_0
                        have hrm : rM (re rs i) = np_low ls9 ∧ ¬ zkt t (rT (re rs i)) = true := ⟨(zsm_n hr3 n2_q98 hr4 n3_q98).mp (hp107.1.nz c110), zkt_f (by first | exact Or.inl c93 | exact Or.inr ⟨c64, c79⟩)⟩
                        have hnu9 := rNu_dr hin8
                        have hln9 := zdr_ln hin8
                        rw [rTk_y hi (by omega) hrm] at hst9 hnu9 hln9
                        refine lv_iinc (v := nI (cn + 1)) (lv' := [(3, .int (nI (cn + 1))), (0, .ref a), (1, .int t), (2, .ref q9), (4, .int (nI i))]) hx hb d_Mo_takeAll_122 hl (k := 3) rfl (nI_add cn 1) (by decide) rfl (fun ls hl => ?_)
                        refine lv_iinc (v := nI (i - 1)) (lv' := [(4, .int (nI (i - 1))), (3, .int (nI (cn + 1))), (0, .ref a), (1, .int t), (2, .ref q9)]) hx hb d_Mo_takeAll_125 hl (k := 4) rfl (zi_dec (by omega)) (by decide) rfl (fun ls hl => ?_)
                        refine lv_goto (tgt := 55) hx hb d_Mo_takeAll_128 (by decide) ?_
                        exact ih G119 (i - 1) (cn + 1) _ _ (by omega) (by omega) (by omega) (by omega) (hst9) (hnm9) (hf9) hG hS ls (lv_sub hl [2, 3, 4, 1, 0] rfl)
                      · refine lv_goto (tgt := 125) hx hb d_Mo_takeAll_113 (by decide) ?_
                        refine lv_iinc (v := nI (i - 1)) (lv' := [(4, .int (nI (i - 1))), (0, .ref a), (1, .int t), (2, .ref q9), (3, .int (nI cn))]) hx hb d_Mo_takeAll_125 hl (k := 4) rfl (zi_dec (by omega)) (by decide) rfl (fun ls hl => ?_)
                        refine lv_goto (tgt := 55) hx hb d_Mo_takeAll_128 (by decide) ?_
                        have hsk : rTk rs (np_low ls9) t (i) = rTk rs (np_low ls9) t (i - 1) := rTk_n hi (by omega) (fun z => hp107.1.z c110 ((zsm_n hr3 n2_q98 hr4 n3_q98).mpr z.1))
                        have hst9 := hst8
                        rw [hsk] at hst9
                        have hnm9 := hnm8
                        have hf9 := hf8
                        exact ih Gv (i - 1) cn _ _ (by omega) (by omega) (by rw [← hsk]; exact hcn8) (by rw [← hsk]; exact hnu8) (hst9) (hnm9) (hf9) hG hS ls (lv_sub hl [1, 2, 3, 4, 0] rfl)
          have hT0 : rTk rs (np_low ls9) t (rs.length - 1) = rs := rTk_0 (by omega)
          refine zW_more (cells2 := 1) (slots2 := 255) (by dsimp only; omega) (by dsimp only; omega) ?_
          exact loop55 _ G6 (rs.length - 1) 0 _ _ (Nat.lt_succ_self _) (by omega) (by rw [hT0]; omega) (by rw [hT0]; exact Nat.le_refl _) (by rw [hT0]; exact hst2) (hnm2) (hf2) hG hS ls (lv_sub hl [3, 4, 2, 1, 0] rfl)
        · have hbad : ¬ ∃ ls, zTn tp ls ∧ lo <:+ np_low ls ∧ zall t := fun ⟨ls, z, w9, w8⟩ => w8.elim c29 (hp33.1.z c36)
          refine lv_aload_n hx hb d_Mo_takeAll_39 rfl (lv_at hl 1 rfl) ?_
          refine lv_iconst (v := 1) hx hb d_Mo_takeAll_40 (by decide) ?_
          have hGo41 := hG
          refine zk_i (va_runV (As := [.int 1]) (rest := []) ⟨hx, hb, hml, hown, hts⟩ (t_Mo_fail l E G6 a (h2 1) (h2 3) (h2 4) (h2 6) (h2 7) (h2 8) (h2 9) (h2 10) (h2 11) (h2 12) (h2 15) (h2 18) 0 (nI tp.length) (nI rs.length) (nI (wln Wz)) co (nI (rPw Wz + ([] : List Int32).length)) se v19 v20 ra2 1) (zcV 1 hts w_1354 w_1356 wp_26 w_30 w_1357 (by decide +kernel) ⟨Nat.le_of_ble_eq_true rfl, Nat.le_of_ble_eq_true rfl⟩) (zc_preV hbase hK hN hQ hG hS ra2 rfl) rfl rfl hl.1 rfl (lv_room (Nat.le_of_ble_eq_true rfl)) d_Mo_takeAll_41 ⟨(by dsimp only; omega), (by dsimp only; omega)⟩) hS (fun r41 G41 H locs hp41 hG hS => ?_)
          refine zi_as (y := 0) hp41.1 ?_
          obtain ⟨hstf, hsf⟩ := rSt.set hst2 1 co se v19 v20 ra2
          rw [← hp41.2] at hstf hsf
          have hff := hf2.tr hsf
          exact hret _ _ _ _ _ _ _ _ _ hr (rfl) (Or.inr ⟨hbad, rfl, ro2, hstf.o hse, hff⟩) hG hS (by dsimp only; omega) (by dsimp only; omega) d_Mo_takeAll_44
  · have hG : zP E G1 H := eg6 ▸ hG
    refine zr_none er6 ?_
    have hbad : ¬ ∃ ls, zTn tp ls ∧ lo <:+ np_low ls ∧ zall t := fun ⟨ls, z, _⟩ => hnT ⟨ls, z⟩
    refine lv_astore_nN (lv' := [(2, .null), (0, .ref a), (1, .int t)]) hx hb d_Mo_takeAll_9 rfl hl (by decide) rfl (fun ls hl => ?_)
    refine lv_aload_nN hx hb d_Mo_takeAll_10 rfl (lv_at hl 0 rfl) ?_
    refine lv_ifnullN (tgt := 39) hx hb d_Mo_takeAll_11 (by decide) ?_
    refine lv_aload_n hx hb d_Mo_takeAll_39 rfl (lv_at hl 1 rfl) ?_
    refine lv_iconst (v := 1) hx hb d_Mo_takeAll_40 (by decide) ?_
    have hGo41 := hG
    refine zk_i (va_runV (As := [.int 1]) (rest := []) ⟨hx, hb, hml, hown, hts⟩ (t_Mo_fail l E G1 a (h1 1) (h1 3) (h1 4) (h1 6) (h1 7) (h1 8) (h1 9) (h1 10) (h1 11) (h1 12) (h1 15) (h1 18) 0 (nI tp.length) (nI rs.length) (nI (wln Wz)) co (nI (rPw Wz + ([] : List Int32).length)) se v19 v20 ra1 1) (zcV 1 hts w_1354 w_1356 wp_26 w_30 w_1357 (by decide +kernel) ⟨Nat.le_of_ble_eq_true rfl, Nat.le_of_ble_eq_true rfl⟩) (zc_preV hbase hK hN hQ hG hS ra1 rfl) rfl rfl hl.1 rfl (lv_room (Nat.le_of_ble_eq_true rfl)) d_Mo_takeAll_41 ⟨(by dsimp only; omega), (by dsimp only; omega)⟩) hS (fun r41 G41 H locs hp41 hG hS => ?_)
    refine zi_as (y := 0) hp41.1 ?_
    obtain ⟨hstf, hsf⟩ := rSt.set hst1 1 co se v19 v20 ra1
    rw [← hp41.2] at hstf hsf
    have hff := hf1.tr hsf
    exact hret _ _ _ _ _ _ _ _ _ hr (rfl) (Or.inr ⟨hbad, rfl, ro, hstf.o hse, hff⟩) hG hS (by dsimp only; omega) (by dsimp only; omega) d_Mo_takeAll_44
