/-! THE REFERENCE IS ASKED -/
theorem zNm_cg {F F2 : Nat → Int32} {N : Nat} {ls : np_N} (h : ∀ j, j < N → F j = F2 j) (hn : zNm F N ls) : zNm F2 N ls := ⟨hn.1, hn.2.1, fun j hj => by rw [← h j (by have := hn.2.1; omega)]; exact hn.2.2 j hj⟩
theorem zE_cg {F F2 : Nat → Int32} {N a : Nat} {r : Int32} (h : ∀ j, j < N → F j = F2 j) (he : zE F N a r) : zE F2 N a r := by
  rcases he with ⟨ls, h1, h2⟩ | ⟨h1, h2⟩
  · exact Or.inl ⟨ls, zNm_cg h h1, h2⟩
  · exact Or.inr ⟨fun ⟨ls, z⟩ => h1 ⟨ls, zNm_cg (fun j hj => (h j hj).symm) z⟩, h2⟩
/-- a new asking: nothing is there yet -/
theorem rSt.clr {E : zc_E} {G : zg_G} {ro : zRo} {a c1 c2 : Nat} {lo : np_N} {rs : List zRt} {W : zW} {px : List Int32} {qp : Prop} {nq : Nat × Int32 × np_N × zWs} {th co se : Int32} {tp : List Int32} {v19 v20 : Value} (hs : rSt E G ro a c1 c2 lo rs W px qp nq th tp co se v19 v20) {h : Nat → Nat} (x1 x2 x3 x4 x5 x6 th2 co2 se2 : Int32) (he : G a = some (.inr (11, [.int x1, .ref (h 1), .int x2, .ref (h 3), .ref (h 4), .int (nI rs.length), .ref (h 6), .ref (h 7), .ref (h 8), .ref (h 9), .ref (h 10), .ref (h 11), .ref (h 12), .int x3, .int x4, .ref (h 15), .int x5, .int x6, .ref (h 18), v19, v20]))) : rSt E (zg_up G a (.inr (11, [.int th2, .ref (h 1), .int (nI 0), .ref (h 3), .ref (h 4), .int (nI rs.length), .ref (h 6), .ref (h 7), .ref (h 8), .ref (h 9), .ref (h 10), .ref (h 11), .ref (h 12), .int (nI 0), .int co2, .ref (h 15), .int (nI 0), .int se2, .ref (h 18), v19, v20]))) ro a (rcp c1 (wln W)) (rcp c2 (rPw W + px.length)) lo rs ([], [], []) [] True (0, 0, [], []) th2 [] co2 se2 v19 v20 ∧ zfr ro zKr G ro (zg_up G a (.inr (11, [.int th2, .ref (h 1), .int (nI 0), .ref (h 3), .ref (h 4), .int (nI rs.length), .ref (h 6), .ref (h 7), .ref (h 8), .ref (h 9), .ref (h 10), .ref (h 11), .ref (h 12), .int (nI 0), .int co2, .ref (h 15), .int (nI 0), .int se2, .ref (h 18), v19, v20]))) := by
  obtain ⟨k, rfl, rfl, rfl, b1, b2, ⟨fm, b3, b3'⟩, b4, b5, b6, b7, ws, an, pl, ff, fp, p1, p2, p3, p4, p5, ⟨⟨z1, z2, f6, f7, f8, f9, f10, f11, f12, w6, w7, w8, w9, w10, w11, w12, z3, z4, z5⟩, r1, r2⟩, p7, p8, ⟨y1, y2, y3, y4, y5, y6⟩, ⟨v1, v2, v3⟩, p11⟩ := hs
  have ha := b1
  rw [he] at ha
  have e := (Prod.mk.inj (Sum.inr.inj (Option.some.inj ha))).2
  simp only [List.cons.injEq, Value.ref.injEq, Value.int.injEq, and_true, true_and] at e
  obtain ⟨-, k1, -, k3, k4, k6, k7, k8, k9, k10, k11, k12, -, -, k15, -, -, k18⟩ := e
  rw [k1, k3, k4, k6, k7, k8, k9, k10, k11, k12, k15, k18]
  have hf := zfr.up (r := ro) (K := fun r => r = (20, 0)) (G := G) (a := k 0) (e := .inr (11, [.int th2, .ref (k 1), .int (nI 0), .ref (k 3), .ref (k 4), .int (nI rs.length), .ref (k 6), .ref (k 7), .ref (k 8), .ref (k 9), .ref (k 10), .ref (k 11), .ref (k 12), .int (nI 0), .int co2, .ref (k 15), .int (nI 0), .int se2, .ref (k 18), v19, v20])) b2
  have q2 := hf _ _ b3 (by rw [b3'.2.2]; simp)
  have g : ∀ i v, 6 ≤ i → i ≤ 12 → G (k i) = some v → zg_up G (k 0) (.inr (11, [.int th2, .ref (k 1), .int (nI 0), .ref (k 3), .ref (k 4), .int (nI rs.length), .ref (k 6), .ref (k 7), .ref (k 8), .ref (k 9), .ref (k 10), .ref (k 11), .ref (k 12), .int (nI 0), .int co2, .ref (k 15), .int (nI 0), .int se2, .ref (k 18), v19, v20])) (k i) = some v := fun i v i6 i12 hv => (hf _ _ hv (by rw [r1 i i6 i12]; simp; omega)).1
  let h2 : Nat → Nat := fun i => if i = 40 then rcp (k 40) (wln W) else if i = 41 then rcp (k 41) (rPw W + px.length) else k i
  have e4 : h2 40 = rcp (k 40) (wln W) := if_pos rfl
  have e5 : h2 41 = rcp (k 41) (rPw W + px.length) := rfl
  have e40 : rcp (h2 40) (wln (([], [], []) : zW)) = rcp (k 40) (wln W) := e4
  have e50 : rcp (h2 41) (rPw (([], [], []) : zW) + ([] : List Int32).length) = rcp (k 41) (rPw W + px.length) := e5
  have e1 : ∀ i, i < 40 → h2 i = k i := fun i hi => by show (if i = 40 then _ else if i = 41 then _ else _) = _; rw [if_neg (by omega), if_neg (by omega)]
  have hgr := rcp_ge (c := k 40) (by omega) (wln W)
  have hgp := rcp_ge (c := k 41) (by omega) (rPw W + px.length)
  have s11 : ∀ j v, f11 j = some v → ro v = (0, 0) := r2 11 (Or.inl rfl) _ _ w11
  have s12 : ∀ j v, f12 j = some v → ro v = (0, 0) := r2 12 (Or.inr rfl) _ _ w12
  refine ⟨⟨h2, e1 0 (by decide), e4, e5, ?_, ?_, ⟨fm, ?_, fun j hj => absurd hj (Nat.not_lt_zero j), b3'.2.1, ?_⟩, Nat.zero_le _, ?_, ?_, b7, [], [], [], ff, fp, rfl, fun p hp => absurd hp List.not_mem_nil, rfl, rfl, trivial, ⟨⟨Nat.zero_le _, ?_, f6, f7, f8, f9, f10, f11, f12, ?_, ?_, ?_, ?_, ?_, ?_, ?_, fun i hi => absurd hi (Nat.not_lt_zero i), fun j v hv => ?_, fun j v hv => ?_⟩, fun i i6 i12 => ?_, fun i hi => ?_⟩, ?_, fun i hi => absurd hi (Nat.not_lt_zero i), ⟨?_, ?_, ?_, fun j hj => absurd hj (Nat.not_lt_zero j), y5, ?_⟩, ⟨?_, v2, ?_⟩, fun _ i hi => absurd hi (Nat.not_lt_zero i), Nat.le_refl _, fun i hi => absurd hi (Nat.not_lt_zero i), fun _ i _ hi => absurd hi (Nat.not_lt_zero i), List.nil_prefix⟩, hf.w (fun k z => by rw [z]; exact Or.inl rfl)⟩
  · rw [e1 0 (by decide), e1 1 (by decide), e1 3 (by decide), e1 4 (by decide), e1 6 (by decide), e1 7 (by decide), e1 8 (by decide), e1 9 (by decide), e1 10 (by decide), e1 11 (by decide), e1 12 (by decide), e1 15 (by decide), e1 18 (by decide)]; exact zg_up_self _ _ _
  · rw [e1 0 (by decide)]; exact b2
  · rw [e1 1 (by decide)]; exact q2.1
  · rw [e1 1 (by decide)]; exact b3'.2.2
  · rw [e1 3 (by decide)]; exact b5.fr hf (by simp)
  · rw [e1 4 (by decide)]; exact b6.fr hf (by simp) (by simp) (by simp)
  · show rcp (h2 40) 0 ≤ _; rw [e4]; exact z2
  · rw [e40, e1 6 (by decide)]; exact g 6 _ (by decide) (by decide) w6
  · rw [e40, e1 7 (by decide)]; exact g 7 _ (by decide) (by decide) w7
  · rw [e40, e1 8 (by decide)]; exact g 8 _ (by decide) (by decide) w8
  · rw [e40, e1 9 (by decide)]; exact g 9 _ (by decide) (by decide) w9
  · rw [e40, e1 10 (by decide)]; exact g 10 _ (by decide) (by decide) w10
  · rw [e40, e1 11 (by decide)]; exact g 11 _ (by decide) (by decide) w11
  · rw [e40, e1 12 (by decide)]; exact g 12 _ (by decide) (by decide) w12
  · obtain ⟨nx, fx, e⟩ := z4 j v hv
    exact ⟨nx, fx, (hf _ _ e (by rw [s11 j v hv]; simp)).1⟩
  · obtain ⟨nx, fx, e⟩ := z5 j v hv
    exact ⟨nx, fx, (hf _ _ e (by rw [s12 j v hv]; simp)).1⟩
  · rw [e1 i (by omega)]; exact r1 i i6 i12
  · intro n f hg j v hv
    rw [e1 i (by omega)] at hg
    have hg2 : G (k i) = some (.inl (E.2.1 5, n, .inr (.inr (.inr (.inr f))))) := by
      rcases hi with rfl | rfl
      · rw [g 11 _ (by decide) (by decide) w11] at hg; rw [w11]; exact hg
      · rw [g 12 _ (by decide) (by decide) w12] at hg; rw [w12]; exact hg
    exact r2 i hi n f hg2 j v hv
  · rw [e4]; omega
  · rw [e50, e1 15 (by decide)]; exact (hf _ _ y1 (by rw [y6]; simp)).1
  · rw [e5]; omega
  · show rcp (h2 41) 0 ≤ _; rw [e5]; exact y3
  · rw [e1 15 (by decide)]; exact y6
  · rw [e1 18 (by decide)]; exact (hf _ _ v1 (by rw [v3]; simp)).1
  · rw [e1 18 (by decide)]; exact v3
theorem rSt.wp {E : zc_E} {G : zg_G} {ro : zRo} {a c1 c2 : Nat} {lo : np_N} {rs : List zRt} {W : zW} {px : List Int32} {qp : Prop} {nq : Nat × Int32 × np_N × zWs} {th co se : Int32} {tp : List Int32} {v19 v20 : Value} (hs : rSt E G ro a c1 c2 lo rs W px qp nq th tp co se v19 v20) : ∃ ws, rW ws = W ∧ s123 ws ∧ ws.length = wln W ∧ rSt E G ro a c1 c2 lo rs W px qp (nq.1, nq.2.1, nq.2.2.1, ws) th tp co se v19 v20 := by
  obtain ⟨k, e0, e1, e2, b1, b2, b3, b4, b5, b6, b7, ws, an, pl, ff, fp, p1, p2, p3, p4, p5, p6, p7, p8, p9, p10, p11, p12, p13, p14, p15⟩ := hs
  exact ⟨ws, p1, p2, by rw [← p1, rW_len p2], k, e0, e1, e2, b1, b2, b3, b4, b5, b6, b7, ws, an, pl, ff, fp, p1, p2, p3, p4, p5, p6, p7, p8, p9, p10, p11, p12, p13, p14, List.prefix_rfl⟩
theorem zBy.un {E : zc_E} {G : zg_G} {q : Nat} {x y : List Int32} (h : zBy E G q x) (h2 : zBy E G q y) : x = y := by
  obtain ⟨f, a1, a2, -⟩ := h
  obtain ⟨g, c1, c2, -⟩ := h2
  rw [a1] at c1
  have q3 := (Prod.mk.inj (Sum.inl.inj (Option.some.inj c1))).2
  have e1 : x.length = y.length := (Prod.mk.inj q3).1
  have e2 : f = g := Sum.inl.inj (Prod.mk.inj q3).2
  subst e2
  exact getD_ext e1 (fun j hj => by rw [← a2 j hj, c2 j (by omega)])
/-- a row of the first ones -/
theorem rCx.row {E : zc_E} {G : zg_G} {ro : zRo} {h : Nat → Nat} {lo : np_N} {rs : List zRt} {W : zW} {px : List Int32} {qp : Prop} {nq : Nat × Int32 × np_N × zWs} {th co se : Int32} {tp : List Int32} {v19 v20 : Value} (hc : rCx E G ro h lo rs W px qp nq th tp co se v19 v20) (hq : qp) {i : Nat} (hi : i < nq.2.2.2.length) : ∃ cap f6 f7 f12, i < cap ∧ cap ≤ 2 ^ 20 ∧ G (h 6) = some (.inl (E.2.1 1, cap, .inl f6)) ∧ G (h 7) = some (.inl (E.2.1 1, cap, .inl f7)) ∧ G (h 12) = some (.inl (E.2.1 5, cap, .inr (.inr (.inr (.inr f12))))) ∧ f6 i = (we nq.2.2.2 i).1 ∧ f7 i = (we nq.2.2.2 i).2.2.1 ∧ ((we nq.2.2.2 i).1 = 1 → ∃ j, j < rs.length ∧ f12 i = some (rD (re rs j)) ∧ rT (re rs j) = (we nq.2.2.2 i).2.2.1 ∧ rB (re rs j) = (we nq.2.2.2 i).2.2.2.2) := by
  obtain ⟨b1, b2, b3, b4, b5, b6, b7, ws, an, pl, ff, fp, p1, p2, p3, p4, p5, ⟨⟨z1, z2, f6, f7, f8, f9, f10, f11, f12, w6, w7, w8, w9, w10, w11, w12, z3, z4, z5⟩, r1, r2⟩, p7, p8, p9, p10, p11, p12, p13, p14, p15⟩ := hc
  obtain ⟨R, eR⟩ := p15
  have hlw : i < ws.length := by rw [← eR, List.length_append]; omega
  have ew : we ws i = we nq.2.2.2 i := by
    unfold we
    rw [← eR, List.getD_eq_getElem?_getD, List.getD_eq_getElem?_getD, List.getElem?_append_left hi]
  obtain ⟨e6, e7, -, -, -, -, e12, -⟩ := z3 i (by omega)
  obtain ⟨q1, q2, q3, q4, q5⟩ := p8 i hlw
  refine ⟨_, f6, f7, f12, by omega, z2, w6, w7, w12, by rw [e6, q1, ew], by rw [e7, q3, ew], fun h1 => ?_⟩
  obtain ⟨e, he, m1, m2⟩ := p11 hq i hlw (by rw [ew]; exact h1)
  obtain ⟨j, hj, rfl⟩ := re_ix he
  refine ⟨j, hj, by rw [e12, m1], by rw [m2, q3, ew], ?_⟩
  have hby := (b6.1.2.2 _ (re_mem hj)).2.2
  rcases q5 with ⟨q, y1, -, -, y4, -⟩ | ⟨y1, -⟩
  · rw [m1] at y1
    rw [← Option.some.inj y1] at y4
    rw [hby.un y4, ew]
  · rw [m1] at y1; cases y1
theorem wsel_take {ws : zWs} {i : Nat} (hi : i < ws.length) (s : Int32) : wsel s (ws.take (i + 1)) = wsel s (ws.take i) ++ (if (we ws i).1 = s then [(we ws i).2] else []) := by
  rw [List.take_add_one, List.getElem?_eq_getElem hi, wsel_app]
  congr 1
  rw [we_at hi]
  show wsel s [ws[i]] = _
  by_cases z : (ws[i]).1 = s
  · rw [if_pos z]
    have := wsel_1 s (ws[i]).2
    rw [← z] at this ⊢
    exact this
  · rw [if_neg z]
    exact wsel_0 (ws[i]).2 z
/-- the answers looked through so far -/
noncomputable def rFo (V : zVt) (top : np_N) (ws : zWs) (W : zW) (i : Nat) : zW := (wsel 1 (ws.take i)).foldl (vam V top) W
theorem rFo_n {V : zVt} {top : np_N} {ws : zWs} {W : zW} {i : Nat} (hi : i < ws.length) (h : (we ws i).1 ≠ 1) : rFo V top ws W (i + 1) = rFo V top ws W i := by
  unfold rFo
  rw [wsel_take hi, if_neg h, List.append_nil]
theorem rFo_y {V : zVt} {top : np_N} {ws : zWs} {W : zW} {i : Nat} (hi : i < ws.length) (h : (we ws i).1 = 1) : rFo V top ws W (i + 1) = vam V top (rFo V top ws W i) (we ws i).2 := by
  unfold rFo
  rw [wsel_take hi, if_pos h, List.foldl_append]; rfl
theorem rFo_le {V : zVt} {top : np_N} {ws : zWs} {W : zW} {i j : Nat} (h : i ≤ j) : zLe (rFo V top ws W i) (rFo V top ws W j) := by
  unfold rFo
  obtain ⟨T, e⟩ := (List.take_prefix_take_left (l := ws) h)
  rw [← e, wsel_app, List.foldl_append]
  exact vfold_le _ (fun W p => vam_le _ _ W _) _ _
theorem rFo_all {V : zVt} {top : np_N} {ws : zWs} {W : zW} (h : rW ws = W) : rFo V top ws W ws.length = W.1.foldl (vam V top) W := by
  unfold rFo
  rw [List.take_length, ← h]; rfl
theorem rFo_0 {V : zVt} {top : np_N} {ws : zWs} {W : zW} : rFo V top ws W 0 = W := rfl
theorem vam_no {V : zVt} {top : np_N} {W : zW} {e : aV} (h : ¬ (e.2.1 = 2 ∨ e.2.1 = 15 ∨ e.2.1 = 33)) : vam V top W e = W := if_neg (fun z => h z.1)
theorem vam_cut {V : zVt} {top : np_N} {W : zW} {e : aV} (h : vco V top (vtg e.2.1 e.2.2.2) ≠ none) : vam V top W e = W := if_neg (fun z => h z.2)
theorem vam_yes {V : zVt} {top : np_N} {W : zW} {e : aV} (h : e.2.1 = 2 ∨ e.2.1 = 15 ∨ e.2.1 = 33) (h2 : vco V top (vtg e.2.1 e.2.2.2) = none) : vam V top W e = vao V W (vtg e.2.1 e.2.2.2) := if_pos ⟨h, h2⟩
theorem vam_out {lo : np_N} {rs : List zRt} {W : zW} {e : aV} (hg : rGd lo rs) (h : ¬ lo <:+ vtg e.2.1 e.2.2.2) : vam (rVf rs) lo W e = W := by
  unfold vam
  split
  · exact vao_out hg h
  · rfl
theorem w_1369 : (.methodLink "ZoneAnswersModel" 239 ⟨"ZoneAnswersModel$Names", "lower", "([BII)[B"⟩ : Cond) ∈ zw := zw_at 1369 (by decide +kernel) (by decide +kernel)
theorem w_1370 : (.static ⟨"ZoneAnswersModel$Names", "lower", "([BII)[B"⟩ : Cond) ∈ zw := zw_at 1370 (by decide +kernel) (by decide +kernel)
theorem w_1371 : (.code ⟨"ZoneAnswersModel$Names", "lower", "([BII)[B"⟩ prog_13_method_4_code 5 (some (.array .byte)) : Cond) ∈ zw := zw_at 1371 (by decide +kernel) (by decide +kernel)

abbrev rm_Mo_whole (n0 : Nat) : Room := { frames := 3, cells := 1, slots := 255, locals := 80 }
set_option maxHeartbeats 4000000 in
set_option maxRecDepth 100000 in
/-- whole(), of the reference -/
theorem t_Mo_whole (l : Launch) (E : zc_E) (G : zg_G) (a c1 c2 : Nat) (ro : zRo) (lo : np_N) (rs : List zRt) (Wz : zW) (px : List Int32) (qp : Prop) (nq : Nat × Int32 × np_N × zWs) (th co se : Int32) (tp : List Int32) (v19 v20 : Value) (hst : rSt E G ro a c1 c2 lo rs Wz px qp nq th tp co se v19 v20) : zMq l E y_Mo_whole c_Mo_whole 1 (some (.array .byte)) (rm_Mo_whole tp.length) [.ref a] G (fun (r : Option Nat) (G2 : zg_G) => (∃ r2 ls q, zTn tp ls ∧ r = some q ∧ rSt E G2 r2 a c1 c2 lo rs Wz px qp nq th tp co se v19 v20 ∧ rNm E G2 r2 q (np_low ls) ∧ zfr ro (fun _ => False) G r2 G2) ∨ ((¬ ∃ ls, zTn tp ls) ∧ r = none ∧ G2 = G)) := by
  refine zMq.of (by decide) (Nat.le_of_ble_eq_true rfl) ?_
  intro p e s m args below meth c Q hZ hG hret ls hl
  obtain ⟨hx, hb, hr, hts, hown, hlocks, hml, hnm, hbase, hK, hN, hQ⟩ := hZ
  have hl : lv_has ls 1 [(0, .ref a)] := hl
  have hS : zg_S (zc_b E) s.heap s.heap [] := va_S.rf
  obtain ⟨h, eh0, eh1, eh2, hc⟩ := id hst
  obtain ⟨ra, rb, ⟨fm, rt1, rt2, rt3, rt4⟩, rtl, ⟨fo, rn1, rn2, rn3, rn4, rn5⟩, rr, rg, ras⟩ := id hc
  rw [eh0] at ra
  obtain ⟨⟨fr, rm4, hfr⟩, hn2, hRs⟩ := id rr.1
  have hx0 : zx z0 G G := zx.rf
  refine lv_aload_n hx hb d_Mo_whole_0 rfl (lv_at hl 0 rfl) ?_
  refine zg_get (ci := 11) (C := "ZoneAnswersModel") (T := T_Mo) (N := 21) hx hb hts zi_Mo hown hK hG ra rfl 1 (by decide) (hts _ w_1282) (fun _ h9 => h9) rfl d_Mo_whole_1 ?_
  refine lv_iconst (v := 0) hx hb d_Mo_whole_4 (by decide) ?_
  refine zi_as (y := nI 0) (nI_0.symm) ?_
  refine lv_aload_n hx hb d_Mo_whole_5 rfl (lv_at hl 0 rfl) ?_
  refine zg_get (ci := 11) (C := "ZoneAnswersModel") (T := T_Mo) (N := 21) hx hb hts zi_Mo hown hK hG ra rfl 2 (by decide) (hts _ w_1283) (fun _ h9 => h9) rfl d_Mo_whole_6 ?_
  have hGo9 := hG
  refine zk_i (va_runS (As := [.ref (h 1), .int (nI 0), .int (nI tp.length)]) (rest := []) ⟨hx, hb, hml, hown, hts⟩ (t_Ns_end l E G (h 1) 65536 fm rt1 rt3 (by decide) 0 tp.length (by omega) (by omega)) (zcS 3 hts w_1366 w_1367 w_33 w_1368 (by decide +kernel) ⟨Nat.le_of_ble_eq_true rfl, Nat.le_of_ble_eq_true rfl⟩) (zc_pre hbase hK hN hQ hG hS) rfl rfl hl.1 rfl (lv_room (Nat.le_of_ble_eq_true rfl)) d_Mo_whole_9 ⟨(by dsimp only; omega), (by dsimp only; omega)⟩) hS (fun r9 G9 H locs hp9 hG hS => ?_)
  have hG : zP E G H := hp9.2 ▸ hG
  have hzE : zE (fun j => tp.getD (0 + j) 0) (tp.length - 0) 0 r9 := zE_cg (fun j hj => rt2 _ (by omega)) hp9.1
  refine lv_aload_n hx hb d_Mo_whole_12 rfl (lv_at hl 0 rfl) ?_
  refine zg_get (ci := 11) (C := "ZoneAnswersModel") (T := T_Mo) (N := 21) hx hb hts zi_Mo hown hK hG ra rfl 2 (by decide) (hts _ w_1283) (fun _ h9 => h9) rfl d_Mo_whole_13 ?_
  refine lv_icmp_ne (tgt := 34) hx hb d_Mo_whole_16 (by decide) (fun c16 => ?_) (fun c16 => ?_)
  · have hno9 := zE_no hzE rtl (Or.inr c16)
    refine lv_null hx hb d_Mo_whole_34 ?_
    exact hret none _ _ _ _ _ _ _ _ hr (Or.inr ⟨_, rfl⟩) (Or.inr ⟨hno9, rfl, rfl⟩) hG hS (Nat.zero_le _) (Nat.zero_le _) d_Mo_whole_35
  · obtain ⟨ls9, hls9⟩ := zE_len hzE rtl c16
    have hl9 := hls9.2
    have hok9 := hls9.1.1
    have hg255 := hok9.2
    refine lv_aload_n hx hb d_Mo_whole_19 rfl (lv_at hl 0 rfl) ?_
    refine zg_get (ci := 11) (C := "ZoneAnswersModel") (T := T_Mo) (N := 21) hx hb hts zi_Mo hown hK hG ra rfl 1 (by decide) (hts _ w_1282) (fun _ h9 => h9) rfl d_Mo_whole_20 ?_
    refine lv_iconst (v := 0) hx hb d_Mo_whole_23 (by decide) ?_
    refine zi_as (y := nI 0) (nI_0.symm) ?_
    refine lv_aload_n hx hb d_Mo_whole_24 rfl (lv_at hl 0 rfl) ?_
    refine zg_get (ci := 11) (C := "ZoneAnswersModel") (T := T_Mo) (N := 21) hx hb hts zi_Mo hown hK hG ra rfl 2 (by decide) (hts _ w_1283) (fun _ h9 => h9) rfl d_Mo_whole_25 ?_
    have hGo28 := hG
    refine zk_q (va_runS (As := [.ref (h 1), .int (nI 0), .int (nI tp.length)]) (rest := []) ⟨hx, hb, hml, hown, hts⟩ (t_Ns_lower l E G (h 1) 65536 fm rt1 rt3 (by decide) 0 tp.length (by omega) (by omega)) (zcS 3 hts w_1369 w_1370 w_33 w_1371 (by decide +kernel) ⟨Nat.le_of_ble_eq_true rfl, Nat.le_of_ble_eq_true rfl⟩) (zc_pre hbase hK hN hQ hG hS) rfl rfl hl.1 rfl (lv_room (Nat.le_of_ble_eq_true rfl)) d_Mo_whole_28 ⟨(by dsimp only; omega), (by dsimp only; omega)⟩) hS (fun r28 G28 H locs hp28 hG hS => ?_)
    obtain ⟨q9, f9, er9, nq9, hxc9, hq9, hft9, hlo9⟩ := hp28
    refine zr_some (a := q9) er9 ?_
    have hll9 : tp.length - 0 = np_len (np_low ls9) := by rw [np_low_len hok9.1, hl9]; rfl
    rw [hll9] at hq9
    obtain ⟨hnm9, hz9⟩ := rNm.new (ro := ro) nq9 hxc9 hq9 (np_low_f hok9.1 hls9.1.2.2 (fun j hj => by rw [hlo9 j (by omega), rt2 _ (by omega)])) (np_low_g hok9) hft9
    refine lv_goto (tgt := 35) hx hb d_Mo_whole_31 (by decide) ?_
    exact hret (some q9) _ _ _ _ _ _ _ _ hr (Or.inr ⟨_, rfl⟩) (Or.inl ⟨_, ls9, q9, hls9, rfl, hst.z hz9, hnm9, hz9⟩) hG hS (by dsimp only; omega) (by dsimp only; omega) d_Mo_whole_35
