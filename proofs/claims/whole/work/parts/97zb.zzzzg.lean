/-! THE REFERENCE'S ORIGIN -/
theorem rAs.cg {E : zc_E} {G : zg_G} {ro : zRo} {h h2 : Nat → Nat} {rs rs2 : List zRt} {W : zW} {px : List Int32} (hh : ∀ i, i ≠ 3 → h2 i = h i) (ha : rAs E G ro h rs W px False (0, 0, [], [])) : rAs E G ro h2 rs2 W px False (0, 0, [], []) := by
  obtain ⟨ws, an, pl, ff, fp, p1, p2, p3, p4, p5, ⟨p6, p6a, p6b⟩, p7, p8, ⟨x1, x2, x3, x4, x5, x6⟩, ⟨y1, y2, y3⟩, p11, p12, p13, p14, p15⟩ := ha
  refine ⟨ws, an, pl, ff, fp, p1, p2, p3, p4, p5, ⟨?_, fun i h6 h12 => by rw [hh i (by omega)]; exact p6a i h6 h12, fun i hi => by rw [hh i (by omega)]; exact p6b i hi⟩, by rw [hh 40 (by decide)]; exact p7, p8, ⟨?_, by rw [hh 41 (by decide)]; exact x2, by rw [hh 41 (by decide)]; exact x3, x4, x5, by rw [hh 15 (by decide)]; exact x6⟩, ⟨by rw [hh 18 (by decide)]; exact y1, y2, by rw [hh 18 (by decide)]; exact y3⟩, fun z => z.elim, Nat.zero_le _, fun i hi => absurd hi (Nat.not_lt_zero i), fun z => z.elim, List.nil_prefix⟩
  · rw [hh 6 (by decide), hh 7 (by decide), hh 8 (by decide), hh 9 (by decide), hh 10 (by decide), hh 11 (by decide), hh 12 (by decide), hh 40 (by decide)]; exact p6
  · rw [hh 15 (by decide), hh 41 (by decide)]; exact x1
theorem rSt.org9 {E : zc_E} {G : zg_G} {ro : zRo} {a c1 c2 : Nat} {lo : np_N} {rs : List zRt} {W : zW} {th co se : Int32} {tp : List Int32} {v19 v20 : Value} {h : Nat → Nat} {G2 : zg_G} {q qt qd : Nat} {lo2 : np_N} {D : List Int32} {life : Int32} {f2 : Nat → Option Nat} (hc : rCx E G ro h lo rs W [] False (0, 0, [], []) th tp co se v19 v20) (e0 : h 0 = a) (e1 : h 40 = c1) (e2 : h 41 = c2) (hx : zx (fun p => p = a ∨ p = h 4) G G2) (nq : G q = none) (nt : G qt = none) (nd : G qd = none) (hq : G2 q = some (.inr (12, [.ref qt, .ref qd, .null, .int 6, .int life]))) (ht : ∃ f, G2 qt = some (.inl (E.2.1 0, np_len lo2, .inl f)) ∧ np_f lo2 f ∧ np_g lo2 ∧ sb_Fit f) (hd : zBy E G2 qd D) (h4 : G2 (h 4) = some (.inl (E.2.1 4, 2000, .inr (.inr (.inr (.inr f2)))))) (hf0 : f2 0 = some q) (he : G2 a = some (.inr (11, [.int 0, .ref (h 1), .int (nI 0), .ref qt, .ref (h 4), .int 1, .ref (h 6), .ref (h 7), .ref (h 8), .ref (h 9), .ref (h 10), .ref (h 11), .ref (h 12), .int (nI (wln W)), .int co, .ref (h 15), .int (nI (rPw W + ([] : List Int32).length)), .int se, .ref (h 18), v19, v20]))) (hsoa : ∃ x1 x2, zSoa D x1 x2) (hl : 0 ≤ life) (hD : D.length < 2 ^ 20) : rSt E G2 (zrn (zrn (zrn ro qt (0, 0)) qd (0, 0)) q (21, 0)) a c1 c2 lo2 ([(q, qt, qd, .null, lo2, 6, life, D)]) W [] False (0, 0, [], []) 0 ([]) co se v19 v20 ∧ zfr ro zKr G (zrn (zrn (zrn ro qt (0, 0)) qd (0, 0)) q (21, 0)) G2 := by
  subst e0
  obtain ⟨a1, a2, ⟨fm, a3, a4, a5, a6⟩, a7, a8, a9, b1, has⟩ := hc
  have r4 := a9.2.1
  obtain ⟨f4, a94, -⟩ := a9.1.1
  obtain ⟨ft, t1, t2, t3, t4⟩ := ht
  obtain ⟨fd, d1, d2⟩ := id hd
  have nqt : qt ≠ q := fun z => by rw [z, hq] at t1; cases t1
  have nqd : qd ≠ q := fun z => by rw [z, hq] at d1; cases d1
  have hro : ∀ p e, G p = some e → zrn (zrn (zrn ro qt (0, 0)) qd (0, 0)) q (21, 0) p = ro p := fun p e hp => by rw [zrn_ne (zg_fr nq hp), zrn_ne (zg_fr nd hp), zrn_ne (zg_fr nt hp)]
  have hf : zfr ro (fun r => r = (20, 0) ∨ r = (20, 4)) G (zrn (zrn (zrn ro qt (0, 0)) qd (0, 0)) q (21, 0)) G2 := fun p e hp hk => ⟨hx p e (fun z => hk (z.elim (fun z => Or.inl (by rw [z]; exact a2)) (fun z => Or.inr (by rw [z]; exact r4)))) hp, hro p e hp⟩
  have rq : zrn (zrn (zrn ro qt (0, 0)) qd (0, 0)) q (21, 0) q = (21, 0) := zrn_self _ _ _
  have rd : zrn (zrn (zrn ro qt (0, 0)) qd (0, 0)) q (21, 0) qd = (0, 0) := by rw [zrn_ne nqd]; exact zrn_self _ _ _
  have rt : zrn (zrn (zrn ro qt (0, 0)) qd (0, 0)) q (21, 0) qt = (0, 0) := by
    rw [zrn_ne nqt]
    by_cases z : qt = qd
    · rw [z]; exact zrn_self _ _ _
    · rw [zrn_ne z]; exact zrn_self _ _ _
  have hg : zfn lo2 := zfn_of t2 t4
  obtain ⟨h2, eh2⟩ : ∃ z : Nat → Nat, z = fun i => if i = 3 then qt else h i := ⟨_, rfl⟩
  have hh : ∀ i, i ≠ 3 → h2 i = h i := fun i hi => by rw [eh2]; exact if_neg hi
  have h3 : h2 3 = qt := by rw [eh2]; exact if_pos rfl
  have q1 := hf _ _ a3 (by rw [a6]; simp)
  refine ⟨⟨h2, hh 0 (by decide), (hh 40 (by decide)).trans e1, (hh 41 (by decide)).trans e2, ?_, ?_, ⟨fm, by rw [hh 1 (by decide)]; exact q1.1, fun j hj => absurd hj (Nat.not_lt_zero j), a5, by rw [hh 1 (by decide)]; exact q1.2.trans a6⟩, Nat.zero_le _, ?_, ?_, ?_, (has.fr hf (by simp) (fun i hi => by simp; omega)).cg hh⟩, hf.w (fun r z => by rcases z with z | z <;> (rw [z]; exact Or.inl rfl))⟩
  · rw [hh 0 (by decide), hh 1 (by decide), h3, hh 4 (by decide), hh 6 (by decide), hh 7 (by decide), hh 8 (by decide), hh 9 (by decide), hh 10 (by decide), hh 11 (by decide), hh 12 (by decide), hh 15 (by decide), hh 18 (by decide)]; exact he
  · rw [hh 0 (by decide)]; exact (hro _ _ a1).trans a2
  · rw [h3]; exact ⟨ft, t1, t2, t3, t4, rt⟩
  · rw [hh 4 (by decide)]
    refine ⟨⟨⟨f2, h4, fun i hi => ?_⟩, (by decide : 1 ≤ 2000), fun e he9 => ?_⟩, (hro _ _ a94).trans r4, List.nodup_cons.mpr ⟨List.not_mem_nil, List.nodup_nil⟩, List.nodup_cons.mpr ⟨List.not_mem_nil, List.nodup_nil⟩, fun e he9 => ?_⟩
    · have hi : i < 1 := hi
      rw [show i = 0 by omega]; exact hf0
    · rw [List.mem_singleton.mp he9]; exact ⟨hq, ⟨ft, t1, t2, t3, t4⟩, hd⟩
    · rw [List.mem_singleton.mp he9]; exact ⟨rq, rt, rd, Or.inl rfl⟩
  · refine ⟨Nat.zero_lt_one, rfl, rfl, hsoa, hl, fun i h0 hi => ?_, fun e he9 => ?_⟩
    · have hi : i < 1 := hi
      omega
    · rw [List.mem_singleton.mp he9]
      exact ⟨List.suffix_refl _, hg, t3, (by decide : (1 : Int32) ≤ 6), (by decide : (6 : Int32) ≤ 65535), hD, fun z => absurd z (by decide : ¬ ((6 : Int32) = 2 ∨ (6 : Int32) = 5 ∨ (6 : Int32) = 12 ∨ (6 : Int32) = 15 ∨ (6 : Int32) = 33)), (by decide : (6 : Int32) ≠ 47)⟩
def rOv (x2 x3 x4 x5 : Int32) (k : Nat) : Int32 := if k = 0 then 1 else if k = 1 then x2 else if k = 2 then x3 else if k = 3 then x4 else x5
def rOA (b : List Int32) (x2 x3 x4 x5 : Int32) : Nat → List Int32
  | 0 => b
  | k + 1 => rOA b x2 x3 x4 x5 k ++ zby (rOv x2 x3 x4 x5 k)
theorem rOA_s {b : List Int32} {x2 x3 x4 x5 : Int32} {k : Nat} : rOA b x2 x3 x4 x5 (k + 1) = rOA b x2 x3 x4 x5 k ++ zby (rOv x2 x3 x4 x5 k) := rfl
theorem rOA_len {b : List Int32} {x2 x3 x4 x5 : Int32} : ∀ {k : Nat}, (rOA b x2 x3 x4 x5 k).length = b.length + 4 * k
  | 0 => rfl
  | k + 1 => by rw [rOA_s, List.length_append, rOA_len, zby_len]; omega
theorem rOv_0 {x2 x3 x4 x5 : Int32} {k : Nat} (h : k = 0) : rOv x2 x3 x4 x5 k = 1 := if_pos h
theorem rOv_1 {x2 x3 x4 x5 : Int32} {k : Nat} (h : k = 1) : rOv x2 x3 x4 x5 k = x2 := by rw [h]; rfl
theorem rOv_2 {x2 x3 x4 x5 : Int32} {k : Nat} (h : k = 2) : rOv x2 x3 x4 x5 k = x3 := by rw [h]; rfl
theorem rOv_3 {x2 x3 x4 x5 : Int32} {k : Nat} (h : k = 3) : rOv x2 x3 x4 x5 k = x4 := by rw [h]; rfl
theorem rOv_4 {x2 x3 x4 x5 : Int32} {k : Nat} (h0 : ¬ k = 0) (h1 : ¬ k = 1) (h2 : ¬ k = 2) (h3 : ¬ k = 3) : rOv x2 x3 x4 x5 k = x5 := by
  unfold rOv
  rw [if_neg h0, if_neg h1, if_neg h2, if_neg h3]
/-- a byte of a number -/
theorem zby_i {v : Int32} {i : Nat} (hi : i < 4) : vp_nar .byte ((v >>> ((nI (24 - (8 * i))) &&& 31)).toInt8.toInt32) = (zby v).getD i 0 := by
  have e0 : (nI (24 - (8 * 0))) &&& 31 = (24 &&& 31 : Int32) := by decide
  have e1 : (nI (24 - (8 * 1))) &&& 31 = (16 &&& 31 : Int32) := by decide
  have e2 : (nI (24 - (8 * 2))) &&& 31 = (8 &&& 31 : Int32) := by decide
  have e3 : v >>> ((nI (24 - (8 * 3))) &&& 31) = v := by
    rw [show (nI (24 - (8 * 3))) &&& 31 = (0 &&& 31 : Int32) by decide]; exact zsh0 v
  rcases (show i = 0 ∨ i = 1 ∨ i = 2 ∨ i = 3 by omega) with rfl | rfl | rfl | rfl
  · rw [e0, pk_vb]; rfl
  · rw [e1, pk_vb]; rfl
  · rw [e2, pk_vb]; rfl
  · rw [e3, pk_vb]; rfl
theorem ror_s {A : List Int32} {v : Int32} {f : Nat → Int32} {N i : Nat} {y : Int32} (hN : A.length = N) (hi : i < 4) (h : ∀ j, j < N + i → f j = (A ++ zby v).getD j 0) (hy : y = (zby v).getD i 0) : ∀ j, j < N + (i + 1) → upd f (N + i) y j = (A ++ zby v).getD j 0 := fun j hj => by
  by_cases e : j = N + i
  · rw [e, upd_s, getD_app, if_neg (by omega), hN, show N + i - N = i by omega]; exact hy
  · rw [upd_o e]; exact h j (by omega)
theorem ror_e {A B : List Int32} {f : Nat → Int32} {N : Nat} (hN : A.length = N) (h : ∀ j, j < N → f j = A.getD j 0) : ∀ j, j < N + 0 → f j = (A ++ B).getD j 0 := fun j hj => by
  rw [h j (by omega), getD_app, if_pos (by omega)]
theorem zsD_lo {b : List Int32} {v0 v1 v2 v3 v4 : Int32} {j : Nat} (h : j < b.length) : (zsD b v0 v1 v2 v3 v4).getD j 0 = b.getD j 0 := by
  unfold zsD
  rw [getD_app, if_pos (by simp only [List.length_append]; omega), getD_app, if_pos (by simp only [List.length_append]; omega), getD_app, if_pos (by simp only [List.length_append]; omega), getD_app, if_pos (by simp only [List.length_append]; omega), getD_app, if_pos h]
theorem zOrg.soa {tp : List Int32} {x y z : np_N} (h : zOrg tp x y z) (v0 v1 v2 v3 v4 : Int32) : zSoa (zsD (zlw tp (np_len x)) v0 v1 v2 v3 v4) (np_low y) (np_low z) ∧ (zsD (zlw tp (np_len x)) v0 v1 v2 v3 v4).length ≤ 530 := by
  obtain ⟨h1, h2, h3, h4⟩ := h
  have hl : (zsD (zlw tp (np_len x)) v0 v1 v2 v3 v4).length = np_len y + np_len z + 20 := by rw [zsD_len, zlw_len]; omega
  have ly := np_low_len h2.1.1
  have lz := np_low_len h3.1.1
  have g2 := h2.1.2
  have g3 := h3.1.2
  have key : ∀ j, j < np_len y + np_len z → (zsD (zlw tp (np_len x)) v0 v1 v2 v3 v4).getD j 0 = zlow (tp.getD (np_len x + j) 0) := fun j hj => by rw [zsD_lo (by rw [zlw_len]; omega), zlw_at (by omega)]
  refine ⟨⟨⟨np_low_g h2.1, by omega, np_low_f h2.1.1 h2.2.2 (fun j hj => ?_)⟩, ⟨np_low_g h3.1, by omega, np_low_f h3.1.1 h3.2.2 (fun j hj => ?_)⟩, by omega⟩, by omega⟩
  · show (zsD _ _ _ _ _ _).getD (0 + j) 0 = _
    rw [Nat.zero_add]; exact key j (by omega)
  · show (zsD _ _ _ _ _ _).getD (np_len (np_low y) + j) 0 = _
    rw [ly, key _ (by omega), Nat.add_assoc]
theorem ror_c {f fa : Nat → Int32} {i : Nat} (h : ∀ j, j < i → f j = fa j) (hf : fits .byte (.int (fa i)) = true) (j : Nat) (hj : j < i + 1) : upd f i (vp_nar .byte (fa i)) j = fa j := by
  by_cases e : j = i
  · rw [e, upd_s, vp_nar_b hf]
  · rw [upd_o e]; exact h j (by omega)
theorem rVf_1 (q qt qd : Nat) (v : Value) (x : np_N) (u : Int32) (D : List Int32) : rVf [(q, qt, qd, v, x, 6, u, D)] = vor x u D := by
  funext y t
  rw [rVf_cons]
  unfold vor
  show (if x = y ∧ (6 : Int32) = t then [(u, D)] else []) ++ [] = _
  by_cases z : y = x ∧ t = 6
  · rw [if_pos z, if_pos ⟨z.1.symm, z.2.symm⟩]; rfl
  · rw [if_neg z, if_neg (fun w => z ⟨w.1.symm, w.2.symm⟩)]; rfl

abbrev rm_Mo_origin (n0 : Nat) : Room := { frames := 4, cells := 4, slots := 1400, locals := 110 }
set_option maxHeartbeats 4000000 in
set_option maxRecDepth 100000 in
/-- origin(..), of the reference -/
theorem t_Mo_origin (l : Launch) (E : zc_E) (G : zg_G) (a c1 c2 : Nat) (ro : zRo) (lo : np_N) (rs : List zRt) (Wz : zW) (th co se : Int32) (hse : se = 0 ∨ se = 1) (tp : List Int32) (v19 v20 : Value) (hst : rSt E G ro a c1 c2 lo rs Wz [] False (0, 0, [], []) th tp co se v19 v20) (x1 x2 x3 x4 x5 : Int32) : zMv l E y_Mo_origin c_Mo_origin 14 (rm_Mo_origin tp.length) [.ref a, .int x1, .int x2, .int x3, .int x4, .int x5] G (fun (G2 : zg_G) => ((x1 < 0 ∨ ¬ ∃ x y z, zOrg tp x y z) ∧ ∃ r2, rO E G2 r2 a c1 c2 lo rs Wz tp 1 ∧ zfr ro zKr G r2 G2) ∨ (¬ x1 < 0 ∧ ∃ r2 rs2 lx ly lz, zOrg tp lx ly lz ∧ rVf rs2 = vor (np_low lx) x1 (zsD (zlw tp (np_len lx)) 1 x2 x3 x4 x5) ∧ rs2.length = 1 ∧ rNu rs2 = (zsD (zlw tp (np_len lx)) 1 x2 x3 x4 x5).length + 1 ∧ rO E G2 r2 a c1 c2 (np_low lx) rs2 Wz ([]) 0 ∧ zfr ro zKr G r2 G2)) := by
  refine zMv.of (by decide) (Nat.le_of_ble_eq_true rfl) ?_
  intro p e s m args below meth c Q hZ hG hret ls hl
  obtain ⟨hx, hb, hr, hts, hown, hlocks, hml, hnm, hbase, hK, hN, hQ⟩ := hZ
  have hl : lv_has ls 14 [(0, .ref a), (1, .int x1), (2, .int x2), (3, .int x3), (4, .int x4), (5, .int x5)] := hl
  have hS : zg_S (zc_b E) s.heap s.heap [] := va_S.rf
  obtain ⟨h, eh0, eh1, eh2, hc⟩ := id hst
  obtain ⟨ra, rb, ⟨fm, rt1, rt2, rt3, rt4⟩, rtl, ⟨fo, rn1, rn2, rn3, rn4, rn5⟩, rr, rg, ras⟩ := id hc
  rw [eh0] at ra
  obtain ⟨⟨fr, rm4, hfr⟩, hn2, hRs⟩ := id rr.1
  have hx0 : zx (fun q => q = a ∨ q = h 4) G G := zx.rf
  refine lv_aload_n hx hb d_Mo_origin_0 rfl (lv_at hl 0 rfl) ?_
  refine zg_get (ci := 11) (C := "ZoneAnswersModel") (T := T_Mo) (N := 21) hx hb hts zi_Mo hown hK hG ra rfl 1 (by decide) (hts _ w_1282) (fun _ h9 => h9) rfl d_Mo_origin_1 ?_
  refine lv_iconst (v := 0) hx hb d_Mo_origin_4 (by decide) ?_
  refine zi_as (y := nI 0) (nI_0.symm) ?_
  refine lv_aload_n hx hb d_Mo_origin_5 rfl (lv_at hl 0 rfl) ?_
  refine zg_get (ci := 11) (C := "ZoneAnswersModel") (T := T_Mo) (N := 21) hx hb hts zi_Mo hown hK hG ra rfl 2 (by decide) (hts _ w_1283) (fun _ h9 => h9) rfl d_Mo_origin_6 ?_
  have hGo9 := hG
  refine zk_i (va_runS (As := [.ref (h 1), .int (nI 0), .int (nI tp.length)]) (rest := []) ⟨hx, hb, hml, hown, hts⟩ (t_Ns_end l E G (h 1) 65536 fm rt1 rt3 (by decide) (0) tp.length (by omega) (by omega)) (zcS 3 hts w_1366 w_1367 w_33 w_1368 (by decide +kernel) ⟨Nat.le_of_ble_eq_true rfl, Nat.le_of_ble_eq_true rfl⟩) (zc_pre hbase hK hN hQ hG hS) rfl rfl hl.1 rfl (lv_room (Nat.le_of_ble_eq_true rfl)) d_Mo_origin_9 ⟨(by dsimp only; omega), (by dsimp only; omega)⟩) hS (fun r9 G9 H locs hp9 hG hS => ?_)
  rcases hp9 with ⟨⟨lx, hnr0, er9⟩ | ⟨hnr, er9⟩, eg9⟩
  · have hG : zP E G H := eg9 ▸ hG
    refine zi_as (y := nI (np_len lx)) (er9.trans (by rw [Nat.zero_add])) ?_
    have hnm0 : zNm (fun j => tp.getD (0 + j) 0) (tp.length - (0)) lx := zNm_cg (fun j hj => rt2 _ (by omega)) hnr0
    have hng0 := hnm0.1.2
    have hnl0 := hnm0.2.1
    refine lv_istore (lv' := [(6, .int (nI (np_len lx))), (0, .ref a), (1, .int x1), (2, .int x2), (3, .int x3), (4, .int x4), (5, .int x5)]) hx hb d_Mo_origin_12 hl (by decide) rfl (fun ls hl => ?_)
    refine lv_iload hx hb d_Mo_origin_14 (lv_at hl 0 rfl) ?_
    refine lv_if_ge (tgt := 23) hx hb d_Mo_origin_16 (by decide) (fun c16 => ?_) (fun c16 => ?_)
    · have b16 : 0 ≤ (np_len lx) := (nI_leI (a := 0) (b := (np_len lx)) (by omega) (by omega)).mp c16
      refine lv_aload_n hx hb d_Mo_origin_23 rfl (lv_at hl 1 rfl) ?_
      refine zg_get (ci := 11) (C := "ZoneAnswersModel") (T := T_Mo) (N := 21) hx hb hts zi_Mo hown hK hG ra rfl 1 (by decide) (hts _ w_1282) (fun _ h9 => h9) rfl d_Mo_origin_24 ?_
      refine lv_iload hx hb d_Mo_origin_27 (lv_at hl 0 rfl) ?_
      refine lv_aload_n hx hb d_Mo_origin_29 rfl (lv_at hl 1 rfl) ?_
      refine zg_get (ci := 11) (C := "ZoneAnswersModel") (T := T_Mo) (N := 21) hx hb hts zi_Mo hown hK hG ra rfl 2 (by decide) (hts _ w_1283) (fun _ h9 => h9) rfl d_Mo_origin_30 ?_
      have hGo33 := hG
      refine zk_i (va_runS (As := [.ref (h 1), .int (nI (np_len lx)), .int (nI tp.length)]) (rest := []) ⟨hx, hb, hml, hown, hts⟩ (t_Ns_end l E G (h 1) 65536 fm rt1 rt3 (by decide) (np_len lx) tp.length (by omega) (by omega)) (zcS 3 hts w_1366 w_1367 w_33 w_1368 (by decide +kernel) ⟨Nat.le_of_ble_eq_true rfl, Nat.le_of_ble_eq_true rfl⟩) (zc_pre hbase hK hN hQ hG hS) rfl rfl hl.1 rfl (lv_room (Nat.le_of_ble_eq_true rfl)) d_Mo_origin_33 ⟨(by dsimp only; omega), (by dsimp only; omega)⟩) hS (fun r33 G33 H locs hp33 hG hS => ?_)
      rcases hp33 with ⟨⟨ly, hnr1, er33⟩ | ⟨hnr, er33⟩, eg33⟩
      · have hG : zP E G H := eg33 ▸ hG
        refine zi_as (y := nI (np_len lx + np_len ly)) (er33) ?_
        have hnm1 : zNm (fun j => tp.getD (np_len lx + j) 0) (tp.length - (np_len lx)) ly := zNm_cg (fun j hj => rt2 _ (by omega)) hnr1
        have hng1 := hnm1.1.2
        have hnl1 := hnm1.2.1
        refine lv_istore (lv' := [(7, .int (nI (np_len lx + np_len ly))), (6, .int (nI (np_len lx))), (0, .ref a), (1, .int x1), (2, .int x2), (3, .int x3), (4, .int x4), (5, .int x5)]) hx hb d_Mo_origin_36 hl (by decide) rfl (fun ls hl => ?_)
        refine lv_iload hx hb d_Mo_origin_38 (lv_at hl 0 rfl) ?_
        refine lv_if_ge (tgt := 47) hx hb d_Mo_origin_40 (by decide) (fun c40 => ?_) (fun c40 => ?_)
        · have b40 : 0 ≤ (np_len lx + np_len ly) := (nI_leI (a := 0) (b := (np_len lx + np_len ly)) (by omega) (by omega)).mp c40
          refine lv_aload_n hx hb d_Mo_origin_47 rfl (lv_at hl 2 rfl) ?_
          refine zg_get (ci := 11) (C := "ZoneAnswersModel") (T := T_Mo) (N := 21) hx hb hts zi_Mo hown hK hG ra rfl 1 (by decide) (hts _ w_1282) (fun _ h9 => h9) rfl d_Mo_origin_48 ?_
          refine lv_iload hx hb d_Mo_origin_51 (lv_at hl 0 rfl) ?_
          refine lv_aload_n hx hb d_Mo_origin_53 rfl (lv_at hl 2 rfl) ?_
          refine zg_get (ci := 11) (C := "ZoneAnswersModel") (T := T_Mo) (N := 21) hx hb hts zi_Mo hown hK hG ra rfl 2 (by decide) (hts _ w_1283) (fun _ h9 => h9) rfl d_Mo_origin_54 ?_
          have hGo57 := hG
          refine zk_i (va_runS (As := [.ref (h 1), .int (nI (np_len lx + np_len ly)), .int (nI tp.length)]) (rest := []) ⟨hx, hb, hml, hown, hts⟩ (t_Ns_end l E G (h 1) 65536 fm rt1 rt3 (by decide) (np_len lx + np_len ly) tp.length (by omega) (by omega)) (zcS 3 hts w_1366 w_1367 w_33 w_1368 (by decide +kernel) ⟨Nat.le_of_ble_eq_true rfl, Nat.le_of_ble_eq_true rfl⟩) (zc_pre hbase hK hN hQ hG hS) rfl rfl hl.1 rfl (lv_room (Nat.le_of_ble_eq_true rfl)) d_Mo_origin_57 ⟨(by dsimp only; omega), (by dsimp only; omega)⟩) hS (fun r57 G57 H locs hp57 hG hS => ?_)
          rcases hp57 with ⟨⟨lz, hnr2, er57⟩ | ⟨hnr, er57⟩, eg57⟩
          · have hG : zP E G H := eg57 ▸ hG
            refine zi_as (y := nI (np_len lx + np_len ly + np_len lz)) (er57) ?_
            have hnm2 : zNm (fun j => tp.getD (np_len lx + np_len ly + j) 0) (tp.length - (np_len lx + np_len ly)) lz := zNm_cg (fun j hj => rt2 _ (by omega)) hnr2
            have hng2 := hnm2.1.2
            have hnl2 := hnm2.2.1
            refine lv_istore (lv' := [(8, .int (nI (np_len lx + np_len ly + np_len lz))), (7, .int (nI (np_len lx + np_len ly))), (6, .int (nI (np_len lx))), (0, .ref a), (1, .int x1), (2, .int x2), (3, .int x3), (4, .int x4), (5, .int x5)]) hx hb d_Mo_origin_60 hl (by decide) rfl (fun ls hl => ?_)
            refine lv_aload_n hx hb d_Mo_origin_62 rfl (lv_at hl 3 rfl) ?_
            refine lv_iload hx hb d_Mo_origin_63 (lv_at hl 0 rfl) ?_
            refine lv_aload_n hx hb d_Mo_origin_65 rfl (lv_at hl 3 rfl) ?_
            refine zg_get (ci := 11) (C := "ZoneAnswersModel") (T := T_Mo) (N := 21) hx hb hts zi_Mo hown hK hG ra rfl 2 (by decide) (hts _ w_1283) (fun _ h9 => h9) rfl d_Mo_origin_66 ?_
            refine lv_icmp_ne (tgt := 76) hx hb d_Mo_origin_69 (by decide) (fun c69 => ?_) (fun c69 => ?_)
            · have b69 : ¬ (np_len lx + np_len ly + np_len lz) = tp.length := fun q => c69 ((nI_eq (a := (np_len lx + np_len ly + np_len lz)) (b := tp.length) (by omega) (by omega)).mpr q)
              have hbad : x1 < 0 ∨ ¬ ∃ x y z, zOrg tp x y z := Or.inr (zOrg_n4 hnm0 hnm1 hnm2 b69)
              refine lv_iconst (v := 1) hx hb d_Mo_origin_76 (by decide) ?_
              refine lv_goto (tgt := 81) hx hb d_Mo_origin_77 (by decide) ?_
              refine zg_put (ci := 11) (v := .int 1) (ty := .int) (C := "ZoneAnswersModel") (T := T_Mo) (N := 21) hx hb hts zi_Mo t_Mo t_Mo_ok n_Mo hown hK hG hS ra rfl 0 (by decide) (hts _ w_1281) (fun _ h9 => h9) rfl (by decide +kernel) rfl rfl (Nat.le_of_ble_eq_true rfl) d_Mo_origin_81 (fun H locs hG hS => ?_)
              obtain ⟨G1, eG1⟩ : ∃ z : zg_G, z = zg_up G a (.inr (11, [.int 1, .ref (h 1), .int (nI tp.length), .ref (h 3), .ref (h 4), .int (nI rs.length), .ref (h 6), .ref (h 7), .ref (h 8), .ref (h 9), .ref (h 10), .ref (h 11), .ref (h 12), .int (nI (wln Wz)), .int co, .ref (h 15), .int (nI (rPw Wz + ([] : List Int32).length)), .int se, .ref (h 18), v19, v20])) := ⟨_, rfl⟩
              have hG : zP E G1 H := by rw [eG1]; exact hG
              have hx2 : zx (fun q => q = a ∨ q = h 4) G G1 := hx0.tr (by rw [eG1]; exact zx.up (Or.inl rfl))
              have k3 : G1 a = some (.inr (11, [.int 1, .ref (h 1), .int (nI tp.length), .ref (h 3), .ref (h 4), .int (nI rs.length), .ref (h 6), .ref (h 7), .ref (h 8), .ref (h 9), .ref (h 10), .ref (h 11), .ref (h 12), .int (nI (wln Wz)), .int co, .ref (h 15), .int (nI (rPw Wz + ([] : List Int32).length)), .int se, .ref (h 18), v19, v20])) := by rw [eG1]; exact zg_up_self _ _ _
              have k4 : G1 (h 4) = some (.inl (E.2.1 4, 2000, .inr (.inr (.inr (.inr fr))))) := by rw [eG1, zg_up_ne (zg_ne rm4 ra (by intro h; simp at h))]; exact rm4
              have k5 : G1 (h 1) = some (.inl (E.2.1 0, 65536, .inl fm)) := by rw [eG1, zg_up_ne (zg_ne rt1 ra (by intro h; simp at h))]; exact rt1
              obtain ⟨hst1, hs1⟩ := rSt.set hst 1 co se v19 v20 ra
              rw [← eG1] at hst1 hs1
              refine lv_aload_n hx hb d_Mo_origin_84 rfl (lv_at hl 3 rfl) ?_
              refine zg_get (ci := 11) (C := "ZoneAnswersModel") (T := T_Mo) (N := 21) hx hb hts zi_Mo hown hK hG k3 rfl 0 (by decide) (hts _ w_1281) (fun _ h9 => h9) rfl d_Mo_origin_85 ?_
              refine lv_if_le (tgt := 92) hx hb d_Mo_origin_88 (by decide) (fun c88 => ?_) (fun c88 => ?_)
              · have b88 : 1 ≤ 0 := (nI_leI (a := 1) (b := 0) (by omega) (by omega)).mp c88
                exact absurd c88 (by decide)
              · have b88 : ¬ 1 ≤ 0 := fun q => c88 ((nI_leI (a := 1) (b := 0) (by omega) (by omega)).mpr q)
                exact hret _ _ _ _ _ _ _ (Or.inl ⟨hbad, ro, hst1.o hse, hs1⟩) hG hS (by dsimp only; omega) (by dsimp only; omega) d_Mo_origin_91
            · have b69 : (np_len lx + np_len ly + np_len lz) = tp.length := (nI_eq (a := (np_len lx + np_len ly + np_len lz)) (b := tp.length) (by omega) (by omega)).mp c69
              have horg : zOrg tp lx ly lz := ⟨hnm0, hnm1, hnm2, b69⟩
              refine lv_iload_n hx hb d_Mo_origin_72 rfl (lv_at hl 4 rfl) ?_
              refine lv_if_ge (tgt := 80) hx hb d_Mo_origin_73 (by decide) (fun c73 => ?_) (fun c73 => ?_)
              · refine lv_iconst (v := 0) hx hb d_Mo_origin_80 (by decide) ?_
                refine zg_put (ci := 11) (v := .int 0) (ty := .int) (C := "ZoneAnswersModel") (T := T_Mo) (N := 21) hx hb hts zi_Mo t_Mo t_Mo_ok n_Mo hown hK hG hS ra rfl 0 (by decide) (hts _ w_1281) (fun _ h9 => h9) rfl (by decide +kernel) rfl rfl (Nat.le_of_ble_eq_true rfl) d_Mo_origin_81 (fun H locs hG hS => ?_)
                obtain ⟨G6, eG6⟩ : ∃ z : zg_G, z = zg_up G a (.inr (11, [.int 0, .ref (h 1), .int (nI tp.length), .ref (h 3), .ref (h 4), .int (nI rs.length), .ref (h 6), .ref (h 7), .ref (h 8), .ref (h 9), .ref (h 10), .ref (h 11), .ref (h 12), .int (nI (wln Wz)), .int co, .ref (h 15), .int (nI (rPw Wz + ([] : List Int32).length)), .int se, .ref (h 18), v19, v20])) := ⟨_, rfl⟩
                have hG : zP E G6 H := by rw [eG6]; exact hG
                have hx7 : zx (fun q => q = a ∨ q = h 4) G G6 := hx0.tr (by rw [eG6]; exact zx.up (Or.inl rfl))
                have k8 : G6 a = some (.inr (11, [.int 0, .ref (h 1), .int (nI tp.length), .ref (h 3), .ref (h 4), .int (nI rs.length), .ref (h 6), .ref (h 7), .ref (h 8), .ref (h 9), .ref (h 10), .ref (h 11), .ref (h 12), .int (nI (wln Wz)), .int co, .ref (h 15), .int (nI (rPw Wz + ([] : List Int32).length)), .int se, .ref (h 18), v19, v20])) := by rw [eG6]; exact zg_up_self _ _ _
                have k9 : G6 (h 4) = some (.inl (E.2.1 4, 2000, .inr (.inr (.inr (.inr fr))))) := by rw [eG6, zg_up_ne (zg_ne rm4 ra (by intro h; simp at h))]; exact rm4
                have k10 : G6 (h 1) = some (.inl (E.2.1 0, 65536, .inl fm)) := by rw [eG6, zg_up_ne (zg_ne rt1 ra (by intro h; simp at h))]; exact rt1
                refine lv_aload_n hx hb d_Mo_origin_84 rfl (lv_at hl 3 rfl) ?_
                refine zg_get (ci := 11) (C := "ZoneAnswersModel") (T := T_Mo) (N := 21) hx hb hts zi_Mo hown hK hG k8 rfl 0 (by decide) (hts _ w_1281) (fun _ h9 => h9) rfl d_Mo_origin_85 ?_
                refine lv_if_le (tgt := 92) hx hb d_Mo_origin_88 (by decide) (fun c88 => ?_) (fun c88 => ?_)
                · have b88 : 0 ≤ 0 := (nI_leI (a := 0) (b := 0) (by omega) (by omega)).mp c88
                  refine lv_aload_n hx hb d_Mo_origin_92 rfl (lv_at hl 3 rfl) ?_
                  refine zg_get (ci := 11) (C := "ZoneAnswersModel") (T := T_Mo) (N := 21) hx hb hts zi_Mo hown hK hG k8 rfl 1 (by decide) (hts _ w_1282) (fun _ h9 => h9) rfl d_Mo_origin_93 ?_
                  refine lv_iload hx hb d_Mo_origin_96 (lv_at hl 2 rfl) ?_
                  refine lv_iload hx hb d_Mo_origin_98 (lv_at hl 0 rfl) ?_
                  have hGo100 := hG
                  refine zk_q (va_runS (As := [.ref (h 1), .int (nI (np_len lx)), .int (nI (np_len lx + np_len ly + np_len lz))]) (rest := []) ⟨hx, hb, hml, hown, hts⟩ (t_Ns_lower l E G6 (h 1) 65536 fm k10 rt3 (by decide) (np_len lx) (np_len lx + np_len ly + np_len lz) (by omega) (by omega)) (zcS 3 hts w_1369 w_1370 w_33 w_1371 (by decide +kernel) ⟨Nat.le_of_ble_eq_true rfl, Nat.le_of_ble_eq_true rfl⟩) (zc_pre hbase hK hN hQ hG hS) rfl rfl hl.1 rfl (lv_room (Nat.le_of_ble_eq_true rfl)) d_Mo_origin_100 ⟨(by dsimp only; omega), (by dsimp only; omega)⟩) hS (fun r100 G100 H locs hp100 hG hS => ?_)
                  obtain ⟨qa, fa, er100, nqqa, hx100, hqqa, hftqa, hloqa⟩ := hp100
                  refine zr_some (a := qa) er100 ?_
                  have nfqa : G qa = none := zx.fr hx7 nqqa (fun h => by rcases h with h | h <;> (have n9 := nqqa; rw [h] at n9; first | (rw [k8] at n9; cases n9) | (rw [k9] at n9; cases n9)))
                  have hqqa2 : G100 qa = some (.inl (E.2.1 0, np_len ly + np_len lz, .inl fa)) := by rw [show np_len ly + np_len lz = np_len lx + np_len ly + np_len lz - (np_len lx) by omega]; exact hqqa
                  have k11 : G100 a = some (.inr (11, [.int 0, .ref (h 1), .int (nI tp.length), .ref (h 3), .ref (h 4), .int (nI rs.length), .ref (h 6), .ref (h 7), .ref (h 8), .ref (h 9), .ref (h 10), .ref (h 11), .ref (h 12), .int (nI (wln Wz)), .int co, .ref (h 15), .int (nI (rPw Wz + ([] : List Int32).length)), .int se, .ref (h 18), v19, v20])) := hx100.o k8
                  have ne_qa_a : a ≠ qa := zg_fr nqqa k8
                  have k12 : G100 (h 4) = some (.inl (E.2.1 4, 2000, .inr (.inr (.inr (.inr fr))))) := hx100.o k9
                  have ne_qa_h_4 : h 4 ≠ qa := zg_fr nqqa k9
                  have k13 : G100 (h 1) = some (.inl (E.2.1 0, 65536, .inl fm)) := hx100.o k10
                  have ne_qa_h_1 : h 1 ≠ qa := zg_fr nqqa k10
                  have hx14 : zx (fun q => q = a ∨ q = h 4) G G100 := hx7.tr (hx100.w (fun _ z => z.elim))
                  refine lv_astore (lv' := [(9, .ref qa), (8, .int (nI (np_len lx + np_len ly + np_len lz))), (7, .int (nI (np_len lx + np_len ly))), (6, .int (nI (np_len lx))), (0, .ref a), (1, .int x1), (2, .int x2), (3, .int x3), (4, .int x4), (5, .int x5)]) hx hb d_Mo_origin_103 hl (by decide) rfl (fun ls hl => ?_)
                  refine lv_aload hx hb d_Mo_origin_105 (lv_at hl 0 rfl) ?_
                  refine zg_alen hx hb hK hG 0 hqqa2 rfl (v := nI (np_len ly + np_len lz)) rfl d_Mo_origin_107 ?_
                  refine lv_bipush (v := 20) hx hb d_Mo_origin_108 (by decide) ?_
                  refine lv_iadd hx hb d_Mo_origin_110 ?_
                  refine zi_as (y := nI (np_len ly + np_len lz + 20)) (nI_add (np_len ly + np_len lz) 20) ?_
                  refine zg_newp (atype := .byte) (ty := .byte) (N' := np_len ly + np_len lz + 20) (a0 := (np_len ly + np_len lz + 20, .inl (fun _ => 0))) hx hb (hts _ w_58) rfl hK hG hS hbase (fun _ => rfl) (nI_pos (by omega)) (zi_n _ (by omega)) (by show _ * _ ≤ _; simp only [componentBytes]; omega) (by dsimp only; omega) (by dsimp only; omega) d_Mo_origin_111 0 rfl (fun _ h => h) (fun q111 H n111 hG hS => ?_)
                  obtain ⟨G15, eG15⟩ : ∃ z : zg_G, z = zg_up G100 q111 (.inl (E.2.1 0, np_len ly + np_len lz + 20, .inl (fun _ => 0))) := ⟨_, rfl⟩
                  have hG : zP E G15 H := by rw [eG15]; exact hG
                  have nf111 : G q111 = none := zx.fr hx14 n111 (fun h => by rcases h with h | h <;> (rw [h] at n111; first | (rw [n111] at k11; cases k11) | (rw [n111] at k12; cases k12)))
                  have hx16 : zx (fun q => q = a ∨ q = h 4) G G15 := hx14.tr (by rw [eG15]; exact zx.nw n111)
                  have ne111_a : a ≠ q111 := zg_fr n111 k11
                  have k17 : G15 a = some (.inr (11, [.int 0, .ref (h 1), .int (nI tp.length), .ref (h 3), .ref (h 4), .int (nI rs.length), .ref (h 6), .ref (h 7), .ref (h 8), .ref (h 9), .ref (h 10), .ref (h 11), .ref (h 12), .int (nI (wln Wz)), .int co, .ref (h 15), .int (nI (rPw Wz + ([] : List Int32).length)), .int se, .ref (h 18), v19, v20])) := by rw [eG15, zg_up_ne (zg_fr n111 k11)]; exact k11
                  have ne111_h_4 : h 4 ≠ q111 := zg_fr n111 k12
                  have k18 : G15 (h 4) = some (.inl (E.2.1 4, 2000, .inr (.inr (.inr (.inr fr))))) := by rw [eG15, zg_up_ne (zg_fr n111 k12)]; exact k12
                  have ne111_h_1 : h 1 ≠ q111 := zg_fr n111 k13
                  have k19 : G15 (h 1) = some (.inl (E.2.1 0, 65536, .inl fm)) := by rw [eG15, zg_up_ne (zg_fr n111 k13)]; exact k13
                  have ne111_qa : qa ≠ q111 := zg_fr n111 hqqa2
                  have k20 : G15 qa = some (.inl (E.2.1 0, np_len ly + np_len lz, .inl fa)) := by rw [eG15, zg_up_ne (zg_fr n111 hqqa2)]; exact hqqa2
                  have k21 : G15 q111 = some (.inl (E.2.1 0, np_len ly + np_len lz + 20, .inl (fun _ => 0))) := by rw [eG15]; exact zg_up_self _ _ _
                  refine lv_astore (lv' := [(10, .ref q111), (9, .ref qa), (8, .int (nI (np_len lx + np_len ly + np_len lz))), (7, .int (nI (np_len lx + np_len ly))), (6, .int (nI (np_len lx))), (0, .ref a), (1, .int x1), (2, .int x2), (3, .int x3), (4, .int x4), (5, .int x5)]) hx hb d_Mo_origin_113 hl (by decide) rfl (fun ls hl => ?_)
                  refine lv_iconst (v := 0) hx hb d_Mo_origin_115 (by decide) ?_
                  refine zi_as (y := nI 0) (nI_0.symm) ?_
                  refine lv_istore (lv' := [(11, .int (nI 0)), (10, .ref q111), (9, .ref qa), (8, .int (nI (np_len lx + np_len ly + np_len lz))), (7, .int (nI (np_len lx + np_len ly))), (6, .int (nI (np_len lx))), (0, .ref a), (1, .int x1), (2, .int x2), (3, .int x3), (4, .int x4), (5, .int x5)]) hx hb d_Mo_origin_116 hl (by decide) rfl (fun ls hl => ?_)
                  have loop118 : ∀ (N : Nat) (Gx : zg_G) (i : Nat) (fj : Nat → Int32) (H : Heap) (locs : List Loc), (np_len ly + np_len lz - i) < N → (i ≤ np_len ly + np_len lz) → (sb_Fit fj) → (∀ j, j < i → fj j = fa j) → (Gx a = some (.inr (11, [.int 0, .ref (h 1), .int (nI tp.length), .ref (h 3), .ref (h 4), .int (nI rs.length), .ref (h 6), .ref (h 7), .ref (h 8), .ref (h 9), .ref (h 10), .ref (h 11), .ref (h 12), .int (nI (wln Wz)), .int co, .ref (h 15), .int (nI (rPw Wz + ([] : List Int32).length)), .int se, .ref (h 18), v19, v20]))) → (Gx (h 1) = some (.inl (E.2.1 0, 65536, .inl fm))) → (Gx (h 4) = some (.inl (E.2.1 4, 2000, .inr (.inr (.inr (.inr fr)))))) → (Gx qa = some (.inl (E.2.1 0, np_len ly + np_len lz, .inl fa))) → (Gx q111 = some (.inl (E.2.1 0, np_len ly + np_len lz + 20, .inl fj))) → (zx (fun q => q = a ∨ q = h 4) G Gx) → zP E Gx H → zg_S (zc_b E) s.heap H locs → ∀ (ls : Array Slot), lv_has ls 14 [(0, .ref a), (1, .int x1), (2, .int x2), (3, .int x3), (4, .int x4), (5, .int x5), (6, .int (nI (np_len lx))), (9, .ref qa), (10, .ref q111), (11, .int (nI i))] → W p l e (rm_Mo_origin tp.length) s m args below meth c H locs 2 1100 Q (F0 m 118 ls []) := by
                    intro N
                    induction N with
                    | zero =>
                      intro Gx i fj H locs hlt
                      exact absurd hlt (Nat.not_lt_zero _)
                    | succ N ih =>
                      intro Gx i fj H locs hlt hi hftj hvj kk_a kk_h_1 kk_h_4 kk_qa kk_q111 hxl hG hS ls hl
                      refine lv_iload hx hb d_Mo_origin_118 (lv_at hl 9 rfl) ?_
                      refine lv_aload hx hb d_Mo_origin_120 (lv_at hl 7 rfl) ?_
                      refine zg_alen hx hb hK hG 0 kk_qa rfl (v := nI (np_len ly + np_len lz)) rfl d_Mo_origin_122 ?_
                      refine lv_icmp_ge (tgt := 142) hx hb d_Mo_origin_123 (by decide) (fun c123 => ?_) (fun c123 => ?_)
                      · have b123 : (np_len ly + np_len lz) ≤ i := (nI_leI (a := (np_len ly + np_len lz)) (b := i) (by omega) (by omega)).mp c123
                        refine lv_iconst (v := 0) hx hb d_Mo_origin_142 (by decide) ?_
                        refine zi_as (y := nI 0) (nI_0.symm) ?_
                        refine lv_istore (lv' := [(11, .int (nI 0)), (0, .ref a), (1, .int x1), (2, .int x2), (3, .int x3), (4, .int x4), (5, .int x5), (6, .int (nI (np_len lx))), (9, .ref qa), (10, .ref q111)]) hx hb d_Mo_origin_143 hl (by decide) rfl (fun ls hl => ?_)
                        have loop145 : ∀ (N : Nat) (Gx : zg_G) (kz : Nat) (fj : Nat → Int32) (H : Heap) (locs : List Loc), (5 - kz) < N → (kz ≤ 5) → (sb_Fit fj) → (∀ j, j < np_len ly + np_len lz + 4 * kz → fj j = (rOA (zlw tp (np_len lx)) x2 x3 x4 x5 (kz)).getD j 0) → (Gx a = some (.inr (11, [.int 0, .ref (h 1), .int (nI tp.length), .ref (h 3), .ref (h 4), .int (nI rs.length), .ref (h 6), .ref (h 7), .ref (h 8), .ref (h 9), .ref (h 10), .ref (h 11), .ref (h 12), .int (nI (wln Wz)), .int co, .ref (h 15), .int (nI (rPw Wz + ([] : List Int32).length)), .int se, .ref (h 18), v19, v20]))) → (Gx (h 1) = some (.inl (E.2.1 0, 65536, .inl fm))) → (Gx (h 4) = some (.inl (E.2.1 4, 2000, .inr (.inr (.inr (.inr fr)))))) → (Gx qa = some (.inl (E.2.1 0, np_len ly + np_len lz, .inl fa))) → (Gx q111 = some (.inl (E.2.1 0, np_len ly + np_len lz + 20, .inl fj))) → (zx (fun q => q = a ∨ q = h 4) G Gx) → zP E Gx H → zg_S (zc_b E) s.heap H locs → ∀ (ls : Array Slot), lv_has ls 14 [(0, .ref a), (1, .int x1), (2, .int x2), (3, .int x3), (4, .int x4), (5, .int x5), (6, .int (nI (np_len lx))), (9, .ref qa), (10, .ref q111), (11, .int (nI kz))] → W p l e (rm_Mo_origin tp.length) s m args below meth c H locs 2 1100 Q (F0 m 145 ls []) := by
                          intro N
                          induction N with
                          | zero =>
                            intro Gx kz fj H locs hlt
                            exact absurd hlt (Nat.not_lt_zero _)
                          | succ N ih =>
                            intro Gx kz fj H locs hlt hk9 hftj hA9 kk_a kk_h_1 kk_h_4 kk_qa kk_q111 hxl hG hS ls hl
                            have ih145 := ih
                            refine lv_iload hx hb d_Mo_origin_145 (lv_at hl 9 rfl) ?_
                            refine lv_iconst (v := 5) hx hb d_Mo_origin_147 (by decide) ?_
                            refine lv_icmp_ge (tgt := 242) hx hb d_Mo_origin_148 (by decide) (fun c148 => ?_) (fun c148 => ?_)
                            · have b148 : 5 ≤ kz := (nI_leI (a := 5) (b := kz) (by omega) (by omega)).mp c148
                              refine lv_aload_n hx hb d_Mo_origin_242 rfl (lv_at hl 0 rfl) ?_
                              refine lv_aload_n hx hb d_Mo_origin_243 rfl (lv_at hl 0 rfl) ?_
                              refine zg_get (ci := 11) (C := "ZoneAnswersModel") (T := T_Mo) (N := 21) hx hb hts zi_Mo hown hK hG kk_a rfl 1 (by decide) (hts _ w_1282) (fun _ h9 => h9) rfl d_Mo_origin_244 ?_
                              refine lv_iconst (v := 0) hx hb d_Mo_origin_247 (by decide) ?_
                              refine zi_as (y := nI 0) (nI_0.symm) ?_
                              refine lv_iload hx hb d_Mo_origin_248 (lv_at hl 6 rfl) ?_
                              have hGo250 := hG
                              refine zk_q (va_runS (As := [.ref (h 1), .int (nI 0), .int (nI (np_len lx))]) (rest := [.ref a]) ⟨hx, hb, hml, hown, hts⟩ (t_Ns_lower l E Gx (h 1) 65536 fm kk_h_1 rt3 (by decide) 0 (np_len lx) (by omega) (by omega)) (zcS 3 hts w_1369 w_1370 w_33 w_1371 (by decide +kernel) ⟨Nat.le_of_ble_eq_true rfl, Nat.le_of_ble_eq_true rfl⟩) (zc_pre hbase hK hN hQ hG hS) rfl rfl hl.1 rfl (lv_room (Nat.le_of_ble_eq_true rfl)) d_Mo_origin_250 ⟨(by dsimp only; omega), (by dsimp only; omega)⟩) hS (fun r250 G250 H locs hp250 hG hS => ?_)
                              obtain ⟨qc, fc, er250, nqqc, hx250, hqqc, hftqc, hloqc⟩ := hp250
                              refine zr_some (a := qc) er250 ?_
                              have nfqc : G qc = none := zx.fr hxl nqqc (fun h => by rcases h with h | h <;> (have n9 := nqqc; rw [h] at n9; first | (rw [kk_a] at n9; cases n9) | (rw [kk_h_4] at n9; cases n9)))
                              have hqqc2 : G250 qc = some (.inl (E.2.1 0, np_len (np_low lx), .inl fc)) := by rw [np_low_len hnm0.1.1]; exact hqqc
                              have k22 : G250 a = some (.inr (11, [.int 0, .ref (h 1), .int (nI tp.length), .ref (h 3), .ref (h 4), .int (nI rs.length), .ref (h 6), .ref (h 7), .ref (h 8), .ref (h 9), .ref (h 10), .ref (h 11), .ref (h 12), .int (nI (wln Wz)), .int co, .ref (h 15), .int (nI (rPw Wz + ([] : List Int32).length)), .int se, .ref (h 18), v19, v20])) := hx250.o kk_a
                              have ne_qc_a : a ≠ qc := zg_fr nqqc kk_a
                              have k23 : G250 (h 1) = some (.inl (E.2.1 0, 65536, .inl fm)) := hx250.o kk_h_1
                              have ne_qc_h_1 : h 1 ≠ qc := zg_fr nqqc kk_h_1
                              have k24 : G250 (h 4) = some (.inl (E.2.1 4, 2000, .inr (.inr (.inr (.inr fr))))) := hx250.o kk_h_4
                              have ne_qc_h_4 : h 4 ≠ qc := zg_fr nqqc kk_h_4
                              have k25 : G250 qa = some (.inl (E.2.1 0, np_len ly + np_len lz, .inl fa)) := hx250.o kk_qa
                              have ne_qc_qa : qa ≠ qc := zg_fr nqqc kk_qa
                              have k26 : G250 q111 = some (.inl (E.2.1 0, np_len ly + np_len lz + 20, .inl fj)) := hx250.o kk_q111
                              have ne_qc_q111 : q111 ≠ qc := zg_fr nqqc kk_q111
                              have hx27 : zx (fun q => q = a ∨ q = h 4) G G250 := hxl.tr (hx250.w (fun _ z => z.elim))
                              refine lv_aload hx hb d_Mo_origin_253 (lv_at hl 8 rfl) ?_
                              refine lv_iload_n hx hb d_Mo_origin_255 rfl (lv_at hl 1 rfl) ?_
                              have hGo256 := hG
                              refine zk_v (va_runV (As := [.ref qc, .ref q111, .int x1]) (rest := []) ⟨hx, hb, hml, hown, hts⟩ (t_Mo_begin l E G250 a (h 1) (h 3) (h 4) (h 6) (h 7) (h 8) (h 9) (h 10) (h 11) (h 12) (h 15) (h 18) 0 (nI tp.length) (nI rs.length) (nI (wln Wz)) co (nI (rPw Wz + ([] : List Int32).length)) se v19 v20 k22 fr k24 qc q111 x1) (zcV 3 hts w_1256 w_1258 wp_25 w_30 w_1259 (by decide +kernel) ⟨Nat.le_of_ble_eq_true rfl, Nat.le_of_ble_eq_true rfl⟩) (zc_preV hbase hK hN hQ hG hS k22 rfl) rfl rfl hl.1 rfl (lv_room (Nat.le_of_ble_eq_true rfl)) d_Mo_origin_256 ⟨(by dsimp only; omega), (by dsimp only; omega)⟩) hS (fun G256 H locs hp256 hG hS => ?_)
                              obtain ⟨q8, nq8, hx256, hb1, hb2, hb3⟩ := hp256
                              have nf8 : G q8 = none := zx.fr hx27 nq8 (fun h => by rcases h with h | h <;> (have n9 := nq8; rw [h] at n9; first | (rw [k22] at n9; cases n9) | (rw [k24] at n9; cases n9)))
                              have hxB : zx (fun q => q = a ∨ q = h 4) G G256 := hx27.tr hx256
                              have kb_q111 : G256 q111 = _ := hx256 _ _ (fun z => z.elim (zg_ne k26 k22 (by intro h; simp at h)) (zg_ne k26 k24 (by intro h; simp at h))) k26
                              have kb_qc : G256 qc = _ := hx256 _ _ (fun z => z.elim (zg_ne hqqc2 k22 (by intro h; simp at h)) (zg_ne hqqc2 k24 (by intro h; simp at h))) hqqc2
                              refine lv_aload_n hx hb d_Mo_origin_259 rfl (lv_at hl 0 rfl) ?_
                              refine lv_iconst (v := 0) hx hb d_Mo_origin_260 (by decide) ?_
                              refine zi_as (y := nI 0) (nI_0.symm) ?_
                              refine zg_put (ci := 11) (v := .int (nI 0)) (ty := .int) (C := "ZoneAnswersModel") (T := T_Mo) (N := 21) hx hb hts zi_Mo t_Mo t_Mo_ok n_Mo hown hK hG hS hb1 rfl 2 (by decide) (hts _ w_1283) (fun _ h9 => h9) rfl (by decide +kernel) rfl rfl (Nat.le_of_ble_eq_true rfl) d_Mo_origin_261 (fun H locs hG hS => ?_)
                              obtain ⟨G28, eG28⟩ : ∃ z : zg_G, z = zg_up G256 a (.inr (11, [.int 0, .ref (h 1), .int (nI 0), .ref qc, .ref (h 4), .int 1, .ref (h 6), .ref (h 7), .ref (h 8), .ref (h 9), .ref (h 10), .ref (h 11), .ref (h 12), .int (nI (wln Wz)), .int co, .ref (h 15), .int (nI (rPw Wz + ([] : List Int32).length)), .int se, .ref (h 18), v19, v20])) := ⟨_, rfl⟩
                              have hG : zP E G28 H := by rw [eG28]; exact hG
                              have hx29 : zx (fun q => q = a ∨ q = h 4) G G28 := hxB.tr (by rw [eG28]; exact zx.up (Or.inl rfl))
                              have k30 : G28 a = some (.inr (11, [.int 0, .ref (h 1), .int (nI 0), .ref qc, .ref (h 4), .int 1, .ref (h 6), .ref (h 7), .ref (h 8), .ref (h 9), .ref (h 10), .ref (h 11), .ref (h 12), .int (nI (wln Wz)), .int co, .ref (h 15), .int (nI (rPw Wz + ([] : List Int32).length)), .int se, .ref (h 18), v19, v20])) := by rw [eG28]; exact zg_up_self _ _ _
                              have k31 : G28 (h 4) = some (.inl (E.2.1 4, 2000, .inr (.inr (.inr (.inr (va_up fr 0 (some q8))))))) := by rw [eG28, zg_up_ne (zg_ne hb2 hb1 (by intro h; simp at h))]; exact hb2
                              have k32 : G28 q111 = some (.inl (E.2.1 0, np_len ly + np_len lz + 20, .inl fj)) := by rw [eG28, zg_up_ne (Ne.symm ne111_a)]; exact kb_q111
                              have k33 : G28 qc = some (.inl (E.2.1 0, np_len (np_low lx), .inl fc)) := by rw [eG28, zg_up_ne (Ne.symm ne_qc_a)]; exact kb_qc
                              have k34 : G28 q8 = some (.inr (12, [.ref qc, .ref q111, .null, .int 6, .int x1])) := by rw [eG28, zg_up_ne (zg_ne hb3 hb1 (by intro h; simp at h))]; exact hb3
                              have hlD : (zsD (zlw tp (np_len lx)) 1 x2 x3 x4 x5).length = np_len ly + np_len lz + 20 := by rw [zsD_len, zlw_len]; omega
                              have hDv : ∀ j, j < (zsD (zlw tp (np_len lx)) 1 x2 x3 x4 x5).length → fj j = (zsD (zlw tp (np_len lx)) 1 x2 x3 x4 x5).getD j 0 := fun j hj => by rw [show zsD (zlw tp (np_len lx)) 1 x2 x3 x4 x5 = rOA (zlw tp (np_len lx)) x2 x3 x4 x5 (kz) by rw [show kz = 5 by omega]; rfl]; exact hA9 j (by omega)
                              obtain ⟨hso, hs5⟩ := horg.soa 1 x2 x3 x4 x5
                              obtain ⟨hst7, hs7⟩ := rSt.org9 (lo2 := np_low lx) (D := zsD (zlw tp (np_len lx)) 1 x2 x3 x4 x5) hc eh0 eh1 eh2 hx29 nf8 nfqc nf111 k34 ⟨fc, k33, np_low_f hnm0.1.1 hnm0.2.2 (fun j hj => by rw [hloqc j (by omega), rt2 _ (by omega)]), np_low_g hnm0.1, hftqc⟩ ⟨fj, by rw [hlD]; exact k32, hDv, hftj⟩ k31 vup_s k30 ⟨_, _, hso⟩ c73 (by omega)
                              exact hret _ _ _ _ _ _ _ (Or.inr ⟨fun z => Int32.not_lt.mpr c73 z, _, _, lx, ly, lz, horg, rVf_1 _ _ _ _ _ _ _, rfl, rfl, hst7.o hse, hs7⟩) hG hS (by dsimp only; omega) (by dsimp only; omega) d_Mo_origin_264
                            · have b148 : ¬ 5 ≤ kz := fun q => c148 ((nI_leI (a := 5) (b := kz) (by omega) (by omega)).mpr q)
                              refine lv_iload hx hb d_Mo_origin_151 (lv_at hl 9 rfl) ?_
                              refine lv_if_ne (tgt := 160) hx hb d_Mo_origin_153 (by decide) (fun c153 => ?_) (fun c153 => ?_)
                              · have b153 : ¬ kz = 0 := fun q => c153 ((nI_eq (a := kz) (b := 0) (by omega) (by omega)).mpr q)
                                refine lv_iload hx hb d_Mo_origin_160 (lv_at hl 9 rfl) ?_
                                refine lv_iconst (v := 1) hx hb d_Mo_origin_162 (by decide) ?_
                                refine lv_icmp_ne (tgt := 170) hx hb d_Mo_origin_163 (by decide) (fun c163 => ?_) (fun c163 => ?_)
                                · have b163 : ¬ kz = 1 := fun q => c163 ((nI_eq (a := kz) (b := 1) (by omega) (by omega)).mpr q)
                                  refine lv_iload hx hb d_Mo_origin_170 (lv_at hl 9 rfl) ?_
                                  refine lv_iconst (v := 2) hx hb d_Mo_origin_172 (by decide) ?_
                                  refine lv_icmp_ne (tgt := 180) hx hb d_Mo_origin_173 (by decide) (fun c173 => ?_) (fun c173 => ?_)
                                  · have b173 : ¬ kz = 2 := fun q => c173 ((nI_eq (a := kz) (b := 2) (by omega) (by omega)).mpr q)
                                    refine lv_iload hx hb d_Mo_origin_180 (lv_at hl 9 rfl) ?_
                                    refine lv_iconst (v := 3) hx hb d_Mo_origin_182 (by decide) ?_
                                    refine lv_icmp_ne (tgt := 191) hx hb d_Mo_origin_183 (by decide) (fun c183 => ?_) (fun c183 => ?_)
                                    · have b183 : ¬ kz = 3 := fun q => c183 ((nI_eq (a := kz) (b := 3) (by omega) (by omega)).mpr q)
                                      refine lv_iload hx hb d_Mo_origin_191 (lv_at hl 5 rfl) ?_
                                      refine lv_istore (lv' := [(12, .int x5), (0, .ref a), (1, .int x1), (2, .int x2), (3, .int x3), (4, .int x4), (5, .int x5), (6, .int (nI (np_len lx))), (9, .ref qa), (10, .ref q111), (11, .int (nI kz))]) hx hb d_Mo_origin_193 hl (by decide) rfl (fun ls hl => ?_)
                                      have hv9 : rOv x2 x3 x4 x5 kz = x5 := by first | exact rOv_0 b153 | exact rOv_1 b163 | exact rOv_2 b173 | exact rOv_3 b183 | exact rOv_4 b153 b163 b173 b183
                                      have hL9 : (rOA (zlw tp (np_len lx)) x2 x3 x4 x5 (kz)).length = np_len ly + np_len lz + 4 * kz := by rw [rOA_len, zlw_len]; omega
                                      have hk95 : kz + 1 ≤ 5 := by omega
                                      refine lv_iconst (v := 0) hx hb d_Mo_origin_195 (by decide) ?_
                                      refine zi_as (y := nI 0) (nI_0.symm) ?_
                                      refine lv_istore (lv' := [(13, .int (nI 0)), (12, .int x5), (0, .ref a), (1, .int x1), (2, .int x2), (3, .int x3), (4, .int x4), (5, .int x5), (6, .int (nI (np_len lx))), (9, .ref qa), (10, .ref q111), (11, .int (nI kz))]) hx hb d_Mo_origin_196 hl (by decide) rfl (fun ls hl => ?_)
                                      have loop198 : ∀ (N : Nat) (Gx : zg_G) (i : Nat) (fj : Nat → Int32) (H : Heap) (locs : List Loc), (4 - i) < N → (i ≤ 4) → (sb_Fit fj) → (∀ j, j < np_len ly + np_len lz + 4 * kz + i → fj j = (rOA (zlw tp (np_len lx)) x2 x3 x4 x5 (kz) ++ zby x5).getD j 0) → (Gx a = some (.inr (11, [.int 0, .ref (h 1), .int (nI tp.length), .ref (h 3), .ref (h 4), .int (nI rs.length), .ref (h 6), .ref (h 7), .ref (h 8), .ref (h 9), .ref (h 10), .ref (h 11), .ref (h 12), .int (nI (wln Wz)), .int co, .ref (h 15), .int (nI (rPw Wz + ([] : List Int32).length)), .int se, .ref (h 18), v19, v20]))) → (Gx (h 1) = some (.inl (E.2.1 0, 65536, .inl fm))) → (Gx (h 4) = some (.inl (E.2.1 4, 2000, .inr (.inr (.inr (.inr fr)))))) → (Gx qa = some (.inl (E.2.1 0, np_len ly + np_len lz, .inl fa))) → (Gx q111 = some (.inl (E.2.1 0, np_len ly + np_len lz + 20, .inl fj))) → (zx (fun q => q = a ∨ q = h 4) G Gx) → zP E Gx H → zg_S (zc_b E) s.heap H locs → ∀ (ls : Array Slot), lv_has ls 14 [(0, .ref a), (1, .int x1), (2, .int x2), (3, .int x3), (4, .int x4), (5, .int x5), (6, .int (nI (np_len lx))), (9, .ref qa), (10, .ref q111), (11, .int (nI kz)), (12, .int x5), (13, .int (nI i))] → W p l e (rm_Mo_origin tp.length) s m args below meth c H locs 2 1100 Q (F0 m 198 ls []) := by
                                        intro N
                                        induction N with
                                        | zero =>
                                          intro Gx i fj H locs hlt
                                          exact absurd hlt (Nat.not_lt_zero _)
                                        | succ N ih =>
                                          intro Gx i fj H locs hlt hi hftj hvj kk_a kk_h_1 kk_h_4 kk_qa kk_q111 hxl hG hS ls hl
                                          refine lv_iload hx hb d_Mo_origin_198 (lv_at hl 11 rfl) ?_
                                          refine lv_iconst (v := 4) hx hb d_Mo_origin_200 (by decide) ?_
                                          refine lv_icmp_ge (tgt := 236) hx hb d_Mo_origin_201 (by decide) (fun c201 => ?_) (fun c201 => ?_)
                                          · have b201 : 4 ≤ i := (nI_leI (a := 4) (b := i) (by omega) (by omega)).mp c201
                                            have hA10 : ∀ j, j < np_len ly + np_len lz + 4 * (kz + 1) → fj j = (rOA (zlw tp (np_len lx)) x2 x3 x4 x5 (kz + 1)).getD j 0 := fun j hj => by rw [rOA_s, hv9]; exact hvj j (by omega)
                                            refine lv_iinc (v := nI (kz + 1)) (lv' := [(11, .int (nI (kz + 1))), (0, .ref a), (1, .int x1), (2, .int x2), (3, .int x3), (4, .int x4), (5, .int x5), (6, .int (nI (np_len lx))), (9, .ref qa), (10, .ref q111), (12, .int x5), (13, .int (nI i))]) hx hb d_Mo_origin_236 hl (k := 9) rfl (nI_add kz 1) (by decide) rfl (fun ls hl => ?_)
                                            refine lv_goto (tgt := 145) hx hb d_Mo_origin_239 (by decide) ?_
                                            exact ih145 Gx (kz + 1) fj _ _ (by omega) (hk95) (hftj) (hA10) (kk_a) (kk_h_1) (kk_h_4) (kk_qa) (kk_q111) (hxl) hG hS ls (lv_sub hl [1, 2, 3, 4, 5, 6, 7, 8, 9, 0] rfl)
                                          · have b201 : ¬ 4 ≤ i := fun q => c201 ((nI_leI (a := 4) (b := i) (by omega) (by omega)).mpr q)
                                            refine lv_aload hx hb d_Mo_origin_204 (lv_at hl 8 rfl) ?_
                                            refine lv_aload hx hb d_Mo_origin_206 (lv_at hl 7 rfl) ?_
                                            refine zg_alen hx hb hK hG 0 kk_qa rfl (v := nI (np_len ly + np_len lz)) rfl d_Mo_origin_208 ?_
                                            refine lv_iconst (v := 4) hx hb d_Mo_origin_209 (by decide) ?_
                                            refine lv_iload hx hb d_Mo_origin_210 (lv_at hl 9 rfl) ?_
                                            refine lv_imul hx hb d_Mo_origin_212 ?_
                                            refine zi_as (y := nI (4 * kz)) (pk_mul 4 kz) ?_
                                            refine lv_iadd hx hb d_Mo_origin_213 ?_
                                            refine zi_as (y := nI (np_len ly + np_len lz + (4 * kz))) (nI_add (np_len ly + np_len lz) (4 * kz)) ?_
                                            refine lv_iload hx hb d_Mo_origin_214 (lv_at hl 11 rfl) ?_
                                            refine lv_iadd hx hb d_Mo_origin_216 ?_
                                            refine zi_as (y := nI (np_len ly + np_len lz + (4 * kz) + i)) (nI_add (np_len ly + np_len lz + (4 * kz)) i) ?_
                                            refine lv_iload hx hb d_Mo_origin_217 (lv_at hl 10 rfl) ?_
                                            refine lv_bipush (v := 24) hx hb d_Mo_origin_219 (by decide) ?_
                                            refine lv_bipush (v := 8) hx hb d_Mo_origin_221 (by decide) ?_
                                            refine lv_iload hx hb d_Mo_origin_223 (lv_at hl 11 rfl) ?_
                                            refine lv_imul hx hb d_Mo_origin_225 ?_
                                            refine zi_as (y := nI (8 * i)) (pk_mul 8 i) ?_
                                            refine lv_isub hx hb d_Mo_origin_226 ?_
                                            refine zi_as (y := nI (24 - (8 * i))) (zi_sub (a := 24) (b := 8 * i) (by omega)) ?_
                                            refine lv_ishr hx hb d_Mo_origin_227 ?_
                                            refine lv_i2b hx hb d_Mo_origin_228 rfl ?_
                                            refine zg_bast hx hb hK hG hS 0 kk_q111 rfl (vp_in_nI (by omega) (by omega)) d_Mo_origin_229 (fun H locs hG hS => ?_)
                                            rw [zi_n (np_len ly + np_len lz + (4 * kz) + i) (by omega)] at hG
                                            obtain ⟨G35, eG35⟩ : ∃ z : zg_G, z = zg_up Gx q111 (.inl (E.2.1 0, np_len ly + np_len lz + 20, .inl (upd fj (np_len ly + np_len lz + (4 * kz) + i) (vp_nar .byte ((x5 >>> ((nI (24 - (8 * i))) &&& 31)).toInt8.toInt32))))) := ⟨_, rfl⟩
                                            have hG : zP E G35 H := by rw [eG35]; exact hG
                                            have hx36 : zx (fun q => q = a ∨ q = h 4) G G35 := by rw [eG35]; exact hxl.upn nf111
                                            have k37 : G35 a = some (.inr (11, [.int 0, .ref (h 1), .int (nI tp.length), .ref (h 3), .ref (h 4), .int (nI rs.length), .ref (h 6), .ref (h 7), .ref (h 8), .ref (h 9), .ref (h 10), .ref (h 11), .ref (h 12), .int (nI (wln Wz)), .int co, .ref (h 15), .int (nI (rPw Wz + ([] : List Int32).length)), .int se, .ref (h 18), v19, v20])) := by rw [eG35, zg_up_ne (ne111_a)]; exact kk_a
                                            have k38 : G35 (h 1) = some (.inl (E.2.1 0, 65536, .inl fm)) := by rw [eG35, zg_up_ne (ne111_h_1)]; exact kk_h_1
                                            have k39 : G35 (h 4) = some (.inl (E.2.1 4, 2000, .inr (.inr (.inr (.inr fr))))) := by rw [eG35, zg_up_ne (ne111_h_4)]; exact kk_h_4
                                            have k40 : G35 qa = some (.inl (E.2.1 0, np_len ly + np_len lz, .inl fa)) := by rw [eG35, zg_up_ne (ne111_qa)]; exact kk_qa
                                            have k41 : G35 q111 = some (.inl (E.2.1 0, np_len ly + np_len lz + 20, .inl (upd fj (np_len ly + np_len lz + (4 * kz) + i) (vp_nar .byte ((x5 >>> ((nI (24 - (8 * i))) &&& 31)).toInt8.toInt32))))) := by rw [eG35]; exact zg_up_self _ _ _
                                            refine lv_iinc (v := nI (i + 1)) (lv' := [(13, .int (nI (i + 1))), (0, .ref a), (1, .int x1), (2, .int x2), (3, .int x3), (4, .int x4), (5, .int x5), (6, .int (nI (np_len lx))), (9, .ref qa), (10, .ref q111), (11, .int (nI kz)), (12, .int x5)]) hx hb d_Mo_origin_230 hl (k := 11) rfl (nI_add i 1) (by decide) rfl (fun ls hl => ?_)
                                            refine lv_goto (tgt := 198) hx hb d_Mo_origin_233 (by decide) ?_
                                            exact ih G35 (i + 1) (upd fj (np_len ly + np_len lz + (4 * kz) + i) (vp_nar .byte ((x5 >>> ((nI (24 - (8 * i))) &&& 31)).toInt8.toInt32))) _ _ (by omega) (by omega) (zf_fitu hftj) (ror_s hL9 (by omega) hvj (zby_i (by omega))) (k37) (k38) (k39) (k40) (k41) (hx36) hG hS ls (lv_sub hl [1, 2, 3, 4, 5, 6, 7, 8, 9, 10, 11, 0] rfl)
                                      exact loop198 _ Gx 0 fj _ _ (Nat.lt_succ_self _) (Nat.zero_le _) (hftj) (ror_e hL9 hA9) (kk_a) (kk_h_1) (kk_h_4) (kk_qa) (kk_q111) (hxl) hG hS ls (lv_sub hl [2, 3, 4, 5, 6, 7, 8, 9, 10, 11, 1, 0] rfl)
                                    · have b183 : kz = 3 := (nI_eq (a := kz) (b := 3) (by omega) (by omega)).mp c183
                                      refine lv_iload hx hb d_Mo_origin_186 (lv_at hl 4 rfl) ?_
                                      refine lv_goto (tgt := 193) hx hb d_Mo_origin_188 (by decide) ?_
                                      refine lv_istore (lv' := [(12, .int x4), (0, .ref a), (1, .int x1), (2, .int x2), (3, .int x3), (4, .int x4), (5, .int x5), (6, .int (nI (np_len lx))), (9, .ref qa), (10, .ref q111), (11, .int (nI kz))]) hx hb d_Mo_origin_193 hl (by decide) rfl (fun ls hl => ?_)
                                      have hv9 : rOv x2 x3 x4 x5 kz = x4 := by first | exact rOv_0 b153 | exact rOv_1 b163 | exact rOv_2 b173 | exact rOv_3 b183 | exact rOv_4 b153 b163 b173 b183
                                      have hL9 : (rOA (zlw tp (np_len lx)) x2 x3 x4 x5 (kz)).length = np_len ly + np_len lz + 4 * kz := by rw [rOA_len, zlw_len]; omega
                                      have hk95 : kz + 1 ≤ 5 := by omega
                                      refine lv_iconst (v := 0) hx hb d_Mo_origin_195 (by decide) ?_
                                      refine zi_as (y := nI 0) (nI_0.symm) ?_
                                      refine lv_istore (lv' := [(13, .int (nI 0)), (12, .int x4), (0, .ref a), (1, .int x1), (2, .int x2), (3, .int x3), (4, .int x4), (5, .int x5), (6, .int (nI (np_len lx))), (9, .ref qa), (10, .ref q111), (11, .int (nI kz))]) hx hb d_Mo_origin_196 hl (by decide) rfl (fun ls hl => ?_)
                                      have loop198 : ∀ (N : Nat) (Gx : zg_G) (i : Nat) (fj : Nat → Int32) (H : Heap) (locs : List Loc), (4 - i) < N → (i ≤ 4) → (sb_Fit fj) → (∀ j, j < np_len ly + np_len lz + 4 * kz + i → fj j = (rOA (zlw tp (np_len lx)) x2 x3 x4 x5 (kz) ++ zby x4).getD j 0) → (Gx a = some (.inr (11, [.int 0, .ref (h 1), .int (nI tp.length), .ref (h 3), .ref (h 4), .int (nI rs.length), .ref (h 6), .ref (h 7), .ref (h 8), .ref (h 9), .ref (h 10), .ref (h 11), .ref (h 12), .int (nI (wln Wz)), .int co, .ref (h 15), .int (nI (rPw Wz + ([] : List Int32).length)), .int se, .ref (h 18), v19, v20]))) → (Gx (h 1) = some (.inl (E.2.1 0, 65536, .inl fm))) → (Gx (h 4) = some (.inl (E.2.1 4, 2000, .inr (.inr (.inr (.inr fr)))))) → (Gx qa = some (.inl (E.2.1 0, np_len ly + np_len lz, .inl fa))) → (Gx q111 = some (.inl (E.2.1 0, np_len ly + np_len lz + 20, .inl fj))) → (zx (fun q => q = a ∨ q = h 4) G Gx) → zP E Gx H → zg_S (zc_b E) s.heap H locs → ∀ (ls : Array Slot), lv_has ls 14 [(0, .ref a), (1, .int x1), (2, .int x2), (3, .int x3), (4, .int x4), (5, .int x5), (6, .int (nI (np_len lx))), (9, .ref qa), (10, .ref q111), (11, .int (nI kz)), (12, .int x4), (13, .int (nI i))] → W p l e (rm_Mo_origin tp.length) s m args below meth c H locs 2 1100 Q (F0 m 198 ls []) := by
                                        intro N
                                        induction N with
                                        | zero =>
                                          intro Gx i fj H locs hlt
                                          exact absurd hlt (Nat.not_lt_zero _)
                                        | succ N ih =>
                                          intro Gx i fj H locs hlt hi hftj hvj kk_a kk_h_1 kk_h_4 kk_qa kk_q111 hxl hG hS ls hl
                                          refine lv_iload hx hb d_Mo_origin_198 (lv_at hl 11 rfl) ?_
                                          refine lv_iconst (v := 4) hx hb d_Mo_origin_200 (by decide) ?_
                                          refine lv_icmp_ge (tgt := 236) hx hb d_Mo_origin_201 (by decide) (fun c201 => ?_) (fun c201 => ?_)
                                          · have b201 : 4 ≤ i := (nI_leI (a := 4) (b := i) (by omega) (by omega)).mp c201
                                            have hA10 : ∀ j, j < np_len ly + np_len lz + 4 * (kz + 1) → fj j = (rOA (zlw tp (np_len lx)) x2 x3 x4 x5 (kz + 1)).getD j 0 := fun j hj => by rw [rOA_s, hv9]; exact hvj j (by omega)
                                            refine lv_iinc (v := nI (kz + 1)) (lv' := [(11, .int (nI (kz + 1))), (0, .ref a), (1, .int x1), (2, .int x2), (3, .int x3), (4, .int x4), (5, .int x5), (6, .int (nI (np_len lx))), (9, .ref qa), (10, .ref q111), (12, .int x4), (13, .int (nI i))]) hx hb d_Mo_origin_236 hl (k := 9) rfl (nI_add kz 1) (by decide) rfl (fun ls hl => ?_)
                                            refine lv_goto (tgt := 145) hx hb d_Mo_origin_239 (by decide) ?_
                                            exact ih145 Gx (kz + 1) fj _ _ (by omega) (hk95) (hftj) (hA10) (kk_a) (kk_h_1) (kk_h_4) (kk_qa) (kk_q111) (hxl) hG hS ls (lv_sub hl [1, 2, 3, 4, 5, 6, 7, 8, 9, 0] rfl)
                                          · have b201 : ¬ 4 ≤ i := fun q => c201 ((nI_leI (a := 4) (b := i) (by omega) (by omega)).mpr q)
                                            refine lv_aload hx hb d_Mo_origin_204 (lv_at hl 8 rfl) ?_
                                            refine lv_aload hx hb d_Mo_origin_206 (lv_at hl 7 rfl) ?_
                                            refine zg_alen hx hb hK hG 0 kk_qa rfl (v := nI (np_len ly + np_len lz)) rfl d_Mo_origin_208 ?_
                                            refine lv_iconst (v := 4) hx hb d_Mo_origin_209 (by decide) ?_
                                            refine lv_iload hx hb d_Mo_origin_210 (lv_at hl 9 rfl) ?_
                                            refine lv_imul hx hb d_Mo_origin_212 ?_
                                            refine zi_as (y := nI (4 * kz)) (pk_mul 4 kz) ?_
                                            refine lv_iadd hx hb d_Mo_origin_213 ?_
                                            refine zi_as (y := nI (np_len ly + np_len lz + (4 * kz))) (nI_add (np_len ly + np_len lz) (4 * kz)) ?_
                                            refine lv_iload hx hb d_Mo_origin_214 (lv_at hl 11 rfl) ?_
                                            refine lv_iadd hx hb d_Mo_origin_216 ?_
                                            refine zi_as (y := nI (np_len ly + np_len lz + (4 * kz) + i)) (nI_add (np_len ly + np_len lz + (4 * kz)) i) ?_
                                            refine lv_iload hx hb d_Mo_origin_217 (lv_at hl 10 rfl) ?_
                                            refine lv_bipush (v := 24) hx hb d_Mo_origin_219 (by decide) ?_
                                            refine lv_bipush (v := 8) hx hb d_Mo_origin_221 (by decide) ?_
                                            refine lv_iload hx hb d_Mo_origin_223 (lv_at hl 11 rfl) ?_
                                            refine lv_imul hx hb d_Mo_origin_225 ?_
                                            refine zi_as (y := nI (8 * i)) (pk_mul 8 i) ?_
                                            refine lv_isub hx hb d_Mo_origin_226 ?_
                                            refine zi_as (y := nI (24 - (8 * i))) (zi_sub (a := 24) (b := 8 * i) (by omega)) ?_
                                            refine lv_ishr hx hb d_Mo_origin_227 ?_
                                            refine lv_i2b hx hb d_Mo_origin_228 rfl ?_
                                            refine zg_bast hx hb hK hG hS 0 kk_q111 rfl (vp_in_nI (by omega) (by omega)) d_Mo_origin_229 (fun H locs hG hS => ?_)
                                            rw [zi_n (np_len ly + np_len lz + (4 * kz) + i) (by omega)] at hG
                                            obtain ⟨G42, eG42⟩ : ∃ z : zg_G, z = zg_up Gx q111 (.inl (E.2.1 0, np_len ly + np_len lz + 20, .inl (upd fj (np_len ly + np_len lz + (4 * kz) + i) (vp_nar .byte ((x4 >>> ((nI (24 - (8 * i))) &&& 31)).toInt8.toInt32))))) := ⟨_, rfl⟩
                                            have hG : zP E G42 H := by rw [eG42]; exact hG
                                            have hx43 : zx (fun q => q = a ∨ q = h 4) G G42 := by rw [eG42]; exact hxl.upn nf111
                                            have k44 : G42 a = some (.inr (11, [.int 0, .ref (h 1), .int (nI tp.length), .ref (h 3), .ref (h 4), .int (nI rs.length), .ref (h 6), .ref (h 7), .ref (h 8), .ref (h 9), .ref (h 10), .ref (h 11), .ref (h 12), .int (nI (wln Wz)), .int co, .ref (h 15), .int (nI (rPw Wz + ([] : List Int32).length)), .int se, .ref (h 18), v19, v20])) := by rw [eG42, zg_up_ne (ne111_a)]; exact kk_a
                                            have k45 : G42 (h 1) = some (.inl (E.2.1 0, 65536, .inl fm)) := by rw [eG42, zg_up_ne (ne111_h_1)]; exact kk_h_1
                                            have k46 : G42 (h 4) = some (.inl (E.2.1 4, 2000, .inr (.inr (.inr (.inr fr))))) := by rw [eG42, zg_up_ne (ne111_h_4)]; exact kk_h_4
                                            have k47 : G42 qa = some (.inl (E.2.1 0, np_len ly + np_len lz, .inl fa)) := by rw [eG42, zg_up_ne (ne111_qa)]; exact kk_qa
                                            have k48 : G42 q111 = some (.inl (E.2.1 0, np_len ly + np_len lz + 20, .inl (upd fj (np_len ly + np_len lz + (4 * kz) + i) (vp_nar .byte ((x4 >>> ((nI (24 - (8 * i))) &&& 31)).toInt8.toInt32))))) := by rw [eG42]; exact zg_up_self _ _ _
                                            refine lv_iinc (v := nI (i + 1)) (lv' := [(13, .int (nI (i + 1))), (0, .ref a), (1, .int x1), (2, .int x2), (3, .int x3), (4, .int x4), (5, .int x5), (6, .int (nI (np_len lx))), (9, .ref qa), (10, .ref q111), (11, .int (nI kz)), (12, .int x4)]) hx hb d_Mo_origin_230 hl (k := 11) rfl (nI_add i 1) (by decide) rfl (fun ls hl => ?_)
                                            refine lv_goto (tgt := 198) hx hb d_Mo_origin_233 (by decide) ?_
                                            exact ih G42 (i + 1) (upd fj (np_len ly + np_len lz + (4 * kz) + i) (vp_nar .byte ((x4 >>> ((nI (24 - (8 * i))) &&& 31)).toInt8.toInt32))) _ _ (by omega) (by omega) (zf_fitu hftj) (ror_s hL9 (by omega) hvj (zby_i (by omega))) (k44) (k45) (k46) (k47) (k48) (hx43) hG hS ls (lv_sub hl [1, 2, 3, 4, 5, 6, 7, 8, 9, 10, 11, 0] rfl)
                                      exact loop198 _ Gx 0 fj _ _ (Nat.lt_succ_self _) (Nat.zero_le _) (hftj) (ror_e hL9 hA9) (kk_a) (kk_h_1) (kk_h_4) (kk_qa) (kk_q111) (hxl) hG hS ls (lv_sub hl [2, 3, 4, 5, 6, 7, 8, 9, 10, 11, 1, 0] rfl)
                                  · have b173 : kz = 2 := (nI_eq (a := kz) (b := 2) (by omega) (by omega)).mp c173
                                    refine lv_iload_n hx hb d_Mo_origin_176 rfl (lv_at hl 3 rfl) ?_
                                    refine lv_goto (tgt := 193) hx hb d_Mo_origin_177 (by decide) ?_
                                    refine lv_istore (lv' := [(12, .int x3), (0, .ref a), (1, .int x1), (2, .int x2), (3, .int x3), (4, .int x4), (5, .int x5), (6, .int (nI (np_len lx))), (9, .ref qa), (10, .ref q111), (11, .int (nI kz))]) hx hb d_Mo_origin_193 hl (by decide) rfl (fun ls hl => ?_)
                                    have hv9 : rOv x2 x3 x4 x5 kz = x3 := by first | exact rOv_0 b153 | exact rOv_1 b163 | exact rOv_2 b173 | exact rOv_3 b183 | exact rOv_4 b153 b163 b173 b183
                                    have hL9 : (rOA (zlw tp (np_len lx)) x2 x3 x4 x5 (kz)).length = np_len ly + np_len lz + 4 * kz := by rw [rOA_len, zlw_len]; omega
                                    have hk95 : kz + 1 ≤ 5 := by omega
                                    refine lv_iconst (v := 0) hx hb d_Mo_origin_195 (by decide) ?_
                                    refine zi_as (y := nI 0) (nI_0.symm) ?_
                                    refine lv_istore (lv' := [(13, .int (nI 0)), (12, .int x3), (0, .ref a), (1, .int x1), (2, .int x2), (3, .int x3), (4, .int x4), (5, .int x5), (6, .int (nI (np_len lx))), (9, .ref qa), (10, .ref q111), (11, .int (nI kz))]) hx hb d_Mo_origin_196 hl (by decide) rfl (fun ls hl => ?_)
                                    have loop198 : ∀ (N : Nat) (Gx : zg_G) (i : Nat) (fj : Nat → Int32) (H : Heap) (locs : List Loc), (4 - i) < N → (i ≤ 4) → (sb_Fit fj) → (∀ j, j < np_len ly + np_len lz + 4 * kz + i → fj j = (rOA (zlw tp (np_len lx)) x2 x3 x4 x5 (kz) ++ zby x3).getD j 0) → (Gx a = some (.inr (11, [.int 0, .ref (h 1), .int (nI tp.length), .ref (h 3), .ref (h 4), .int (nI rs.length), .ref (h 6), .ref (h 7), .ref (h 8), .ref (h 9), .ref (h 10), .ref (h 11), .ref (h 12), .int (nI (wln Wz)), .int co, .ref (h 15), .int (nI (rPw Wz + ([] : List Int32).length)), .int se, .ref (h 18), v19, v20]))) → (Gx (h 1) = some (.inl (E.2.1 0, 65536, .inl fm))) → (Gx (h 4) = some (.inl (E.2.1 4, 2000, .inr (.inr (.inr (.inr fr)))))) → (Gx qa = some (.inl (E.2.1 0, np_len ly + np_len lz, .inl fa))) → (Gx q111 = some (.inl (E.2.1 0, np_len ly + np_len lz + 20, .inl fj))) → (zx (fun q => q = a ∨ q = h 4) G Gx) → zP E Gx H → zg_S (zc_b E) s.heap H locs → ∀ (ls : Array Slot), lv_has ls 14 [(0, .ref a), (1, .int x1), (2, .int x2), (3, .int x3), (4, .int x4), (5, .int x5), (6, .int (nI (np_len lx))), (9, .ref qa), (10, .ref q111), (11, .int (nI kz)), (12, .int x3), (13, .int (nI i))] → W p l e (rm_Mo_origin tp.length) s m args below meth c H locs 2 1100 Q (F0 m 198 ls []) := by
                                      intro N
                                      induction N with
                                      | zero =>
                                        intro Gx i fj H locs hlt
                                        exact absurd hlt (Nat.not_lt_zero _)
                                      | succ N ih =>
                                        intro Gx i fj H locs hlt hi hftj hvj kk_a kk_h_1 kk_h_4 kk_qa kk_q111 hxl hG hS ls hl
                                        refine lv_iload hx hb d_Mo_origin_198 (lv_at hl 11 rfl) ?_
                                        refine lv_iconst (v := 4) hx hb d_Mo_origin_200 (by decide) ?_
                                        refine lv_icmp_ge (tgt := 236) hx hb d_Mo_origin_201 (by decide) (fun c201 => ?_) (fun c201 => ?_)
                                        · have b201 : 4 ≤ i := (nI_leI (a := 4) (b := i) (by omega) (by omega)).mp c201
                                          have hA10 : ∀ j, j < np_len ly + np_len lz + 4 * (kz + 1) → fj j = (rOA (zlw tp (np_len lx)) x2 x3 x4 x5 (kz + 1)).getD j 0 := fun j hj => by rw [rOA_s, hv9]; exact hvj j (by omega)
                                          refine lv_iinc (v := nI (kz + 1)) (lv' := [(11, .int (nI (kz + 1))), (0, .ref a), (1, .int x1), (2, .int x2), (3, .int x3), (4, .int x4), (5, .int x5), (6, .int (nI (np_len lx))), (9, .ref qa), (10, .ref q111), (12, .int x3), (13, .int (nI i))]) hx hb d_Mo_origin_236 hl (k := 9) rfl (nI_add kz 1) (by decide) rfl (fun ls hl => ?_)
                                          refine lv_goto (tgt := 145) hx hb d_Mo_origin_239 (by decide) ?_
                                          exact ih145 Gx (kz + 1) fj _ _ (by omega) (hk95) (hftj) (hA10) (kk_a) (kk_h_1) (kk_h_4) (kk_qa) (kk_q111) (hxl) hG hS ls (lv_sub hl [1, 2, 3, 4, 5, 6, 7, 8, 9, 0] rfl)
                                        · have b201 : ¬ 4 ≤ i := fun q => c201 ((nI_leI (a := 4) (b := i) (by omega) (by omega)).mpr q)
                                          refine lv_aload hx hb d_Mo_origin_204 (lv_at hl 8 rfl) ?_
                                          refine lv_aload hx hb d_Mo_origin_206 (lv_at hl 7 rfl) ?_
                                          refine zg_alen hx hb hK hG 0 kk_qa rfl (v := nI (np_len ly + np_len lz)) rfl d_Mo_origin_208 ?_
                                          refine lv_iconst (v := 4) hx hb d_Mo_origin_209 (by decide) ?_
                                          refine lv_iload hx hb d_Mo_origin_210 (lv_at hl 9 rfl) ?_
                                          refine lv_imul hx hb d_Mo_origin_212 ?_
                                          refine zi_as (y := nI (4 * kz)) (pk_mul 4 kz) ?_
                                          refine lv_iadd hx hb d_Mo_origin_213 ?_
                                          refine zi_as (y := nI (np_len ly + np_len lz + (4 * kz))) (nI_add (np_len ly + np_len lz) (4 * kz)) ?_
                                          refine lv_iload hx hb d_Mo_origin_214 (lv_at hl 11 rfl) ?_
                                          refine lv_iadd hx hb d_Mo_origin_216 ?_
                                          refine zi_as (y := nI (np_len ly + np_len lz + (4 * kz) + i)) (nI_add (np_len ly + np_len lz + (4 * kz)) i) ?_
                                          refine lv_iload hx hb d_Mo_origin_217 (lv_at hl 10 rfl) ?_
                                          refine lv_bipush (v := 24) hx hb d_Mo_origin_219 (by decide) ?_
                                          refine lv_bipush (v := 8) hx hb d_Mo_origin_221 (by decide) ?_
                                          refine lv_iload hx hb d_Mo_origin_223 (lv_at hl 11 rfl) ?_
                                          refine lv_imul hx hb d_Mo_origin_225 ?_
                                          refine zi_as (y := nI (8 * i)) (pk_mul 8 i) ?_
                                          refine lv_isub hx hb d_Mo_origin_226 ?_
                                          refine zi_as (y := nI (24 - (8 * i))) (zi_sub (a := 24) (b := 8 * i) (by omega)) ?_
                                          refine lv_ishr hx hb d_Mo_origin_227 ?_
                                          refine lv_i2b hx hb d_Mo_origin_228 rfl ?_
                                          refine zg_bast hx hb hK hG hS 0 kk_q111 rfl (vp_in_nI (by omega) (by omega)) d_Mo_origin_229 (fun H locs hG hS => ?_)
                                          rw [zi_n (np_len ly + np_len lz + (4 * kz) + i) (by omega)] at hG
                                          obtain ⟨G49, eG49⟩ : ∃ z : zg_G, z = zg_up Gx q111 (.inl (E.2.1 0, np_len ly + np_len lz + 20, .inl (upd fj (np_len ly + np_len lz + (4 * kz) + i) (vp_nar .byte ((x3 >>> ((nI (24 - (8 * i))) &&& 31)).toInt8.toInt32))))) := ⟨_, rfl⟩
                                          have hG : zP E G49 H := by rw [eG49]; exact hG
                                          have hx50 : zx (fun q => q = a ∨ q = h 4) G G49 := by rw [eG49]; exact hxl.upn nf111
                                          have k51 : G49 a = some (.inr (11, [.int 0, .ref (h 1), .int (nI tp.length), .ref (h 3), .ref (h 4), .int (nI rs.length), .ref (h 6), .ref (h 7), .ref (h 8), .ref (h 9), .ref (h 10), .ref (h 11), .ref (h 12), .int (nI (wln Wz)), .int co, .ref (h 15), .int (nI (rPw Wz + ([] : List Int32).length)), .int se, .ref (h 18), v19, v20])) := by rw [eG49, zg_up_ne (ne111_a)]; exact kk_a
                                          have k52 : G49 (h 1) = some (.inl (E.2.1 0, 65536, .inl fm)) := by rw [eG49, zg_up_ne (ne111_h_1)]; exact kk_h_1
                                          have k53 : G49 (h 4) = some (.inl (E.2.1 4, 2000, .inr (.inr (.inr (.inr fr))))) := by rw [eG49, zg_up_ne (ne111_h_4)]; exact kk_h_4
                                          have k54 : G49 qa = some (.inl (E.2.1 0, np_len ly + np_len lz, .inl fa)) := by rw [eG49, zg_up_ne (ne111_qa)]; exact kk_qa
                                          have k55 : G49 q111 = some (.inl (E.2.1 0, np_len ly + np_len lz + 20, .inl (upd fj (np_len ly + np_len lz + (4 * kz) + i) (vp_nar .byte ((x3 >>> ((nI (24 - (8 * i))) &&& 31)).toInt8.toInt32))))) := by rw [eG49]; exact zg_up_self _ _ _
                                          refine lv_iinc (v := nI (i + 1)) (lv' := [(13, .int (nI (i + 1))), (0, .ref a), (1, .int x1), (2, .int x2), (3, .int x3), (4, .int x4), (5, .int x5), (6, .int (nI (np_len lx))), (9, .ref qa), (10, .ref q111), (11, .int (nI kz)), (12, .int x3)]) hx hb d_Mo_origin_230 hl (k := 11) rfl (nI_add i 1) (by decide) rfl (fun ls hl => ?_)
                                          refine lv_goto (tgt := 198) hx hb d_Mo_origin_233 (by decide) ?_
                                          exact ih G49 (i + 1) (upd fj (np_len ly + np_len lz + (4 * kz) + i) (vp_nar .byte ((x3 >>> ((nI (24 - (8 * i))) &&& 31)).toInt8.toInt32))) _ _ (by omega) (by omega) (zf_fitu hftj) (ror_s hL9 (by omega) hvj (zby_i (by omega))) (k51) (k52) (k53) (k54) (k55) (hx50) hG hS ls (lv_sub hl [1, 2, 3, 4, 5, 6, 7, 8, 9, 10, 11, 0] rfl)
                                    exact loop198 _ Gx 0 fj _ _ (Nat.lt_succ_self _) (Nat.zero_le _) (hftj) (ror_e hL9 hA9) (kk_a) (kk_h_1) (kk_h_4) (kk_qa) (kk_q111) (hxl) hG hS ls (lv_sub hl [2, 3, 4, 5, 6, 7, 8, 9, 10, 11, 1, 0] rfl)
                                · have b163 : kz = 1 := (nI_eq (a := kz) (b := 1) (by omega) (by omega)).mp c163
                                  refine lv_iload_n hx hb d_Mo_origin_166 rfl (lv_at hl 2 rfl) ?_
                                  refine lv_goto (tgt := 193) hx hb d_Mo_origin_167 (by decide) ?_
                                  refine lv_istore (lv' := [(12, .int x2), (0, .ref a), (1, .int x1), (2, .int x2), (3, .int x3), (4, .int x4), (5, .int x5), (6, .int (nI (np_len lx))), (9, .ref qa), (10, .ref q111), (11, .int (nI kz))]) hx hb d_Mo_origin_193 hl (by decide) rfl (fun ls hl => ?_)
                                  have hv9 : rOv x2 x3 x4 x5 kz = x2 := by first | exact rOv_0 b153 | exact rOv_1 b163 | exact rOv_2 b173 | exact rOv_3 b183 | exact rOv_4 b153 b163 b173 b183
                                  have hL9 : (rOA (zlw tp (np_len lx)) x2 x3 x4 x5 (kz)).length = np_len ly + np_len lz + 4 * kz := by rw [rOA_len, zlw_len]; omega
                                  have hk95 : kz + 1 ≤ 5 := by omega
                                  refine lv_iconst (v := 0) hx hb d_Mo_origin_195 (by decide) ?_
                                  refine zi_as (y := nI 0) (nI_0.symm) ?_
                                  refine lv_istore (lv' := [(13, .int (nI 0)), (12, .int x2), (0, .ref a), (1, .int x1), (2, .int x2), (3, .int x3), (4, .int x4), (5, .int x5), (6, .int (nI (np_len lx))), (9, .ref qa), (10, .ref q111), (11, .int (nI kz))]) hx hb d_Mo_origin_196 hl (by decide) rfl (fun ls hl => ?_)
                                  have loop198 : ∀ (N : Nat) (Gx : zg_G) (i : Nat) (fj : Nat → Int32) (H : Heap) (locs : List Loc), (4 - i) < N → (i ≤ 4) → (sb_Fit fj) → (∀ j, j < np_len ly + np_len lz + 4 * kz + i → fj j = (rOA (zlw tp (np_len lx)) x2 x3 x4 x5 (kz) ++ zby x2).getD j 0) → (Gx a = some (.inr (11, [.int 0, .ref (h 1), .int (nI tp.length), .ref (h 3), .ref (h 4), .int (nI rs.length), .ref (h 6), .ref (h 7), .ref (h 8), .ref (h 9), .ref (h 10), .ref (h 11), .ref (h 12), .int (nI (wln Wz)), .int co, .ref (h 15), .int (nI (rPw Wz + ([] : List Int32).length)), .int se, .ref (h 18), v19, v20]))) → (Gx (h 1) = some (.inl (E.2.1 0, 65536, .inl fm))) → (Gx (h 4) = some (.inl (E.2.1 4, 2000, .inr (.inr (.inr (.inr fr)))))) → (Gx qa = some (.inl (E.2.1 0, np_len ly + np_len lz, .inl fa))) → (Gx q111 = some (.inl (E.2.1 0, np_len ly + np_len lz + 20, .inl fj))) → (zx (fun q => q = a ∨ q = h 4) G Gx) → zP E Gx H → zg_S (zc_b E) s.heap H locs → ∀ (ls : Array Slot), lv_has ls 14 [(0, .ref a), (1, .int x1), (2, .int x2), (3, .int x3), (4, .int x4), (5, .int x5), (6, .int (nI (np_len lx))), (9, .ref qa), (10, .ref q111), (11, .int (nI kz)), (12, .int x2), (13, .int (nI i))] → W p l e (rm_Mo_origin tp.length) s m args below meth c H locs 2 1100 Q (F0 m 198 ls []) := by
                                    intro N
                                    induction N with
                                    | zero =>
                                      intro Gx i fj H locs hlt
                                      exact absurd hlt (Nat.not_lt_zero _)
                                    | succ N ih =>
                                      intro Gx i fj H locs hlt hi hftj hvj kk_a kk_h_1 kk_h_4 kk_qa kk_q111 hxl hG hS ls hl
                                      refine lv_iload hx hb d_Mo_origin_198 (lv_at hl 11 rfl) ?_
                                      refine lv_iconst (v := 4) hx hb d_Mo_origin_200 (by decide) ?_
                                      refine lv_icmp_ge (tgt := 236) hx hb d_Mo_origin_201 (by decide) (fun c201 => ?_) (fun c201 => ?_)
                                      · have b201 : 4 ≤ i := (nI_leI (a := 4) (b := i) (by omega) (by omega)).mp c201
                                        have hA10 : ∀ j, j < np_len ly + np_len lz + 4 * (kz + 1) → fj j = (rOA (zlw tp (np_len lx)) x2 x3 x4 x5 (kz + 1)).getD j 0 := fun j hj => by rw [rOA_s, hv9]; exact hvj j (by omega)
                                        refine lv_iinc (v := nI (kz + 1)) (lv' := [(11, .int (nI (kz + 1))), (0, .ref a), (1, .int x1), (2, .int x2), (3, .int x3), (4, .int x4), (5, .int x5), (6, .int (nI (np_len lx))), (9, .ref qa), (10, .ref q111), (12, .int x2), (13, .int (nI i))]) hx hb d_Mo_origin_236 hl (k := 9) rfl (nI_add kz 1) (by decide) rfl (fun ls hl => ?_)
                                        refine lv_goto (tgt := 145) hx hb d_Mo_origin_239 (by decide) ?_
                                        exact ih145 Gx (kz + 1) fj _ _ (by omega) (hk95) (hftj) (hA10) (kk_a) (kk_h_1) (kk_h_4) (kk_qa) (kk_q111) (hxl) hG hS ls (lv_sub hl [1, 2, 3, 4, 5, 6, 7, 8, 9, 0] rfl)
                                      · have b201 : ¬ 4 ≤ i := fun q => c201 ((nI_leI (a := 4) (b := i) (by omega) (by omega)).mpr q)
                                        refine lv_aload hx hb d_Mo_origin_204 (lv_at hl 8 rfl) ?_
                                        refine lv_aload hx hb d_Mo_origin_206 (lv_at hl 7 rfl) ?_
                                        refine zg_alen hx hb hK hG 0 kk_qa rfl (v := nI (np_len ly + np_len lz)) rfl d_Mo_origin_208 ?_
                                        refine lv_iconst (v := 4) hx hb d_Mo_origin_209 (by decide) ?_
                                        refine lv_iload hx hb d_Mo_origin_210 (lv_at hl 9 rfl) ?_
                                        refine lv_imul hx hb d_Mo_origin_212 ?_
                                        refine zi_as (y := nI (4 * kz)) (pk_mul 4 kz) ?_
                                        refine lv_iadd hx hb d_Mo_origin_213 ?_
                                        refine zi_as (y := nI (np_len ly + np_len lz + (4 * kz))) (nI_add (np_len ly + np_len lz) (4 * kz)) ?_
                                        refine lv_iload hx hb d_Mo_origin_214 (lv_at hl 11 rfl) ?_
                                        refine lv_iadd hx hb d_Mo_origin_216 ?_
                                        refine zi_as (y := nI (np_len ly + np_len lz + (4 * kz) + i)) (nI_add (np_len ly + np_len lz + (4 * kz)) i) ?_
                                        refine lv_iload hx hb d_Mo_origin_217 (lv_at hl 10 rfl) ?_
                                        refine lv_bipush (v := 24) hx hb d_Mo_origin_219 (by decide) ?_
                                        refine lv_bipush (v := 8) hx hb d_Mo_origin_221 (by decide) ?_
                                        refine lv_iload hx hb d_Mo_origin_223 (lv_at hl 11 rfl) ?_
                                        refine lv_imul hx hb d_Mo_origin_225 ?_
                                        refine zi_as (y := nI (8 * i)) (pk_mul 8 i) ?_
                                        refine lv_isub hx hb d_Mo_origin_226 ?_
                                        refine zi_as (y := nI (24 - (8 * i))) (zi_sub (a := 24) (b := 8 * i) (by omega)) ?_
                                        refine lv_ishr hx hb d_Mo_origin_227 ?_
                                        refine lv_i2b hx hb d_Mo_origin_228 rfl ?_
                                        refine zg_bast hx hb hK hG hS 0 kk_q111 rfl (vp_in_nI (by omega) (by omega)) d_Mo_origin_229 (fun H locs hG hS => ?_)
                                        rw [zi_n (np_len ly + np_len lz + (4 * kz) + i) (by omega)] at hG
                                        obtain ⟨G56, eG56⟩ : ∃ z : zg_G, z = zg_up Gx q111 (.inl (E.2.1 0, np_len ly + np_len lz + 20, .inl (upd fj (np_len ly + np_len lz + (4 * kz) + i) (vp_nar .byte ((x2 >>> ((nI (24 - (8 * i))) &&& 31)).toInt8.toInt32))))) := ⟨_, rfl⟩
                                        have hG : zP E G56 H := by rw [eG56]; exact hG
                                        have hx57 : zx (fun q => q = a ∨ q = h 4) G G56 := by rw [eG56]; exact hxl.upn nf111
                                        have k58 : G56 a = some (.inr (11, [.int 0, .ref (h 1), .int (nI tp.length), .ref (h 3), .ref (h 4), .int (nI rs.length), .ref (h 6), .ref (h 7), .ref (h 8), .ref (h 9), .ref (h 10), .ref (h 11), .ref (h 12), .int (nI (wln Wz)), .int co, .ref (h 15), .int (nI (rPw Wz + ([] : List Int32).length)), .int se, .ref (h 18), v19, v20])) := by rw [eG56, zg_up_ne (ne111_a)]; exact kk_a
                                        have k59 : G56 (h 1) = some (.inl (E.2.1 0, 65536, .inl fm)) := by rw [eG56, zg_up_ne (ne111_h_1)]; exact kk_h_1
                                        have k60 : G56 (h 4) = some (.inl (E.2.1 4, 2000, .inr (.inr (.inr (.inr fr))))) := by rw [eG56, zg_up_ne (ne111_h_4)]; exact kk_h_4
                                        have k61 : G56 qa = some (.inl (E.2.1 0, np_len ly + np_len lz, .inl fa)) := by rw [eG56, zg_up_ne (ne111_qa)]; exact kk_qa
                                        have k62 : G56 q111 = some (.inl (E.2.1 0, np_len ly + np_len lz + 20, .inl (upd fj (np_len ly + np_len lz + (4 * kz) + i) (vp_nar .byte ((x2 >>> ((nI (24 - (8 * i))) &&& 31)).toInt8.toInt32))))) := by rw [eG56]; exact zg_up_self _ _ _
                                        refine lv_iinc (v := nI (i + 1)) (lv' := [(13, .int (nI (i + 1))), (0, .ref a), (1, .int x1), (2, .int x2), (3, .int x3), (4, .int x4), (5, .int x5), (6, .int (nI (np_len lx))), (9, .ref qa), (10, .ref q111), (11, .int (nI kz)), (12, .int x2)]) hx hb d_Mo_origin_230 hl (k := 11) rfl (nI_add i 1) (by decide) rfl (fun ls hl => ?_)
                                        refine lv_goto (tgt := 198) hx hb d_Mo_origin_233 (by decide) ?_
                                        exact ih G56 (i + 1) (upd fj (np_len ly + np_len lz + (4 * kz) + i) (vp_nar .byte ((x2 >>> ((nI (24 - (8 * i))) &&& 31)).toInt8.toInt32))) _ _ (by omega) (by omega) (zf_fitu hftj) (ror_s hL9 (by omega) hvj (zby_i (by omega))) (k58) (k59) (k60) (k61) (k62) (hx57) hG hS ls (lv_sub hl [1, 2, 3, 4, 5, 6, 7, 8, 9, 10, 11, 0] rfl)
                                  exact loop198 _ Gx 0 fj _ _ (Nat.lt_succ_self _) (Nat.zero_le _) (hftj) (ror_e hL9 hA9) (kk_a) (kk_h_1) (kk_h_4) (kk_qa) (kk_q111) (hxl) hG hS ls (lv_sub hl [2, 3, 4, 5, 6, 7, 8, 9, 10, 11, 1, 0] rfl)
                              · have b153 : kz = 0 := (nI_eq (a := kz) (b := 0) (by omega) (by omega)).mp c153
                                refine lv_iconst (v := 1) hx hb d_Mo_origin_156 (by decide) ?_
                                refine lv_goto (tgt := 193) hx hb d_Mo_origin_157 (by decide) ?_
                                refine lv_istore (lv' := [(12, .int 1), (0, .ref a), (1, .int x1), (2, .int x2), (3, .int x3), (4, .int x4), (5, .int x5), (6, .int (nI (np_len lx))), (9, .ref qa), (10, .ref q111), (11, .int (nI kz))]) hx hb d_Mo_origin_193 hl (by decide) rfl (fun ls hl => ?_)
                                have hv9 : rOv x2 x3 x4 x5 kz = 1 := by first | exact rOv_0 b153 | exact rOv_1 b163 | exact rOv_2 b173 | exact rOv_3 b183 | exact rOv_4 b153 b163 b173 b183
                                have hL9 : (rOA (zlw tp (np_len lx)) x2 x3 x4 x5 (kz)).length = np_len ly + np_len lz + 4 * kz := by rw [rOA_len, zlw_len]; omega
                                have hk95 : kz + 1 ≤ 5 := by omega
                                refine lv_iconst (v := 0) hx hb d_Mo_origin_195 (by decide) ?_
                                refine zi_as (y := nI 0) (nI_0.symm) ?_
                                refine lv_istore (lv' := [(13, .int (nI 0)), (12, .int 1), (0, .ref a), (1, .int x1), (2, .int x2), (3, .int x3), (4, .int x4), (5, .int x5), (6, .int (nI (np_len lx))), (9, .ref qa), (10, .ref q111), (11, .int (nI kz))]) hx hb d_Mo_origin_196 hl (by decide) rfl (fun ls hl => ?_)
                                have loop198 : ∀ (N : Nat) (Gx : zg_G) (i : Nat) (fj : Nat → Int32) (H : Heap) (locs : List Loc), (4 - i) < N → (i ≤ 4) → (sb_Fit fj) → (∀ j, j < np_len ly + np_len lz + 4 * kz + i → fj j = (rOA (zlw tp (np_len lx)) x2 x3 x4 x5 (kz) ++ zby 1).getD j 0) → (Gx a = some (.inr (11, [.int 0, .ref (h 1), .int (nI tp.length), .ref (h 3), .ref (h 4), .int (nI rs.length), .ref (h 6), .ref (h 7), .ref (h 8), .ref (h 9), .ref (h 10), .ref (h 11), .ref (h 12), .int (nI (wln Wz)), .int co, .ref (h 15), .int (nI (rPw Wz + ([] : List Int32).length)), .int se, .ref (h 18), v19, v20]))) → (Gx (h 1) = some (.inl (E.2.1 0, 65536, .inl fm))) → (Gx (h 4) = some (.inl (E.2.1 4, 2000, .inr (.inr (.inr (.inr fr)))))) → (Gx qa = some (.inl (E.2.1 0, np_len ly + np_len lz, .inl fa))) → (Gx q111 = some (.inl (E.2.1 0, np_len ly + np_len lz + 20, .inl fj))) → (zx (fun q => q = a ∨ q = h 4) G Gx) → zP E Gx H → zg_S (zc_b E) s.heap H locs → ∀ (ls : Array Slot), lv_has ls 14 [(0, .ref a), (1, .int x1), (2, .int x2), (3, .int x3), (4, .int x4), (5, .int x5), (6, .int (nI (np_len lx))), (9, .ref qa), (10, .ref q111), (11, .int (nI kz)), (12, .int 1), (13, .int (nI i))] → W p l e (rm_Mo_origin tp.length) s m args below meth c H locs 2 1100 Q (F0 m 198 ls []) := by
                                  intro N
                                  induction N with
                                  | zero =>
                                    intro Gx i fj H locs hlt
                                    exact absurd hlt (Nat.not_lt_zero _)
                                  | succ N ih =>
                                    intro Gx i fj H locs hlt hi hftj hvj kk_a kk_h_1 kk_h_4 kk_qa kk_q111 hxl hG hS ls hl
                                    refine lv_iload hx hb d_Mo_origin_198 (lv_at hl 11 rfl) ?_
                                    refine lv_iconst (v := 4) hx hb d_Mo_origin_200 (by decide) ?_
                                    refine lv_icmp_ge (tgt := 236) hx hb d_Mo_origin_201 (by decide) (fun c201 => ?_) (fun c201 => ?_)
                                    · have b201 : 4 ≤ i := (nI_leI (a := 4) (b := i) (by omega) (by omega)).mp c201
                                      have hA10 : ∀ j, j < np_len ly + np_len lz + 4 * (kz + 1) → fj j = (rOA (zlw tp (np_len lx)) x2 x3 x4 x5 (kz + 1)).getD j 0 := fun j hj => by rw [rOA_s, hv9]; exact hvj j (by omega)
                                      refine lv_iinc (v := nI (kz + 1)) (lv' := [(11, .int (nI (kz + 1))), (0, .ref a), (1, .int x1), (2, .int x2), (3, .int x3), (4, .int x4), (5, .int x5), (6, .int (nI (np_len lx))), (9, .ref qa), (10, .ref q111), (12, .int 1), (13, .int (nI i))]) hx hb d_Mo_origin_236 hl (k := 9) rfl (nI_add kz 1) (by decide) rfl (fun ls hl => ?_)
                                      refine lv_goto (tgt := 145) hx hb d_Mo_origin_239 (by decide) ?_
                                      exact ih145 Gx (kz + 1) fj _ _ (by omega) (hk95) (hftj) (hA10) (kk_a) (kk_h_1) (kk_h_4) (kk_qa) (kk_q111) (hxl) hG hS ls (lv_sub hl [1, 2, 3, 4, 5, 6, 7, 8, 9, 0] rfl)
                                    · have b201 : ¬ 4 ≤ i := fun q => c201 ((nI_leI (a := 4) (b := i) (by omega) (by omega)).mpr q)
                                      refine lv_aload hx hb d_Mo_origin_204 (lv_at hl 8 rfl) ?_
                                      refine lv_aload hx hb d_Mo_origin_206 (lv_at hl 7 rfl) ?_
                                      refine zg_alen hx hb hK hG 0 kk_qa rfl (v := nI (np_len ly + np_len lz)) rfl d_Mo_origin_208 ?_
                                      refine lv_iconst (v := 4) hx hb d_Mo_origin_209 (by decide) ?_
                                      refine lv_iload hx hb d_Mo_origin_210 (lv_at hl 9 rfl) ?_
                                      refine lv_imul hx hb d_Mo_origin_212 ?_
                                      refine zi_as (y := nI (4 * kz)) (pk_mul 4 kz) ?_
                                      refine lv_iadd hx hb d_Mo_origin_213 ?_
                                      refine zi_as (y := nI (np_len ly + np_len lz + (4 * kz))) (nI_add (np_len ly + np_len lz) (4 * kz)) ?_
                                      refine lv_iload hx hb d_Mo_origin_214 (lv_at hl 11 rfl) ?_
                                      refine lv_iadd hx hb d_Mo_origin_216 ?_
                                      refine zi_as (y := nI (np_len ly + np_len lz + (4 * kz) + i)) (nI_add (np_len ly + np_len lz + (4 * kz)) i) ?_
                                      refine lv_iload hx hb d_Mo_origin_217 (lv_at hl 10 rfl) ?_
                                      refine lv_bipush (v := 24) hx hb d_Mo_origin_219 (by decide) ?_
                                      refine lv_bipush (v := 8) hx hb d_Mo_origin_221 (by decide) ?_
                                      refine lv_iload hx hb d_Mo_origin_223 (lv_at hl 11 rfl) ?_
                                      refine lv_imul hx hb d_Mo_origin_225 ?_
                                      refine zi_as (y := nI (8 * i)) (pk_mul 8 i) ?_
                                      refine lv_isub hx hb d_Mo_origin_226 ?_
                                      refine zi_as (y := nI (24 - (8 * i))) (zi_sub (a := 24) (b := 8 * i) (by omega)) ?_
                                      refine lv_ishr hx hb d_Mo_origin_227 ?_
                                      refine lv_i2b hx hb d_Mo_origin_228 rfl ?_
                                      refine zg_bast hx hb hK hG hS 0 kk_q111 rfl (vp_in_nI (by omega) (by omega)) d_Mo_origin_229 (fun H locs hG hS => ?_)
                                      rw [zi_n (np_len ly + np_len lz + (4 * kz) + i) (by omega)] at hG
                                      obtain ⟨G63, eG63⟩ : ∃ z : zg_G, z = zg_up Gx q111 (.inl (E.2.1 0, np_len ly + np_len lz + 20, .inl (upd fj (np_len ly + np_len lz + (4 * kz) + i) (vp_nar .byte ((1 >>> ((nI (24 - (8 * i))) &&& 31)).toInt8.toInt32))))) := ⟨_, rfl⟩
                                      have hG : zP E G63 H := by rw [eG63]; exact hG
                                      have hx64 : zx (fun q => q = a ∨ q = h 4) G G63 := by rw [eG63]; exact hxl.upn nf111
                                      have k65 : G63 a = some (.inr (11, [.int 0, .ref (h 1), .int (nI tp.length), .ref (h 3), .ref (h 4), .int (nI rs.length), .ref (h 6), .ref (h 7), .ref (h 8), .ref (h 9), .ref (h 10), .ref (h 11), .ref (h 12), .int (nI (wln Wz)), .int co, .ref (h 15), .int (nI (rPw Wz + ([] : List Int32).length)), .int se, .ref (h 18), v19, v20])) := by rw [eG63, zg_up_ne (ne111_a)]; exact kk_a
                                      have k66 : G63 (h 1) = some (.inl (E.2.1 0, 65536, .inl fm)) := by rw [eG63, zg_up_ne (ne111_h_1)]; exact kk_h_1
                                      have k67 : G63 (h 4) = some (.inl (E.2.1 4, 2000, .inr (.inr (.inr (.inr fr))))) := by rw [eG63, zg_up_ne (ne111_h_4)]; exact kk_h_4
                                      have k68 : G63 qa = some (.inl (E.2.1 0, np_len ly + np_len lz, .inl fa)) := by rw [eG63, zg_up_ne (ne111_qa)]; exact kk_qa
                                      have k69 : G63 q111 = some (.inl (E.2.1 0, np_len ly + np_len lz + 20, .inl (upd fj (np_len ly + np_len lz + (4 * kz) + i) (vp_nar .byte ((1 >>> ((nI (24 - (8 * i))) &&& 31)).toInt8.toInt32))))) := by rw [eG63]; exact zg_up_self _ _ _
                                      refine lv_iinc (v := nI (i + 1)) (lv' := [(13, .int (nI (i + 1))), (0, .ref a), (1, .int x1), (2, .int x2), (3, .int x3), (4, .int x4), (5, .int x5), (6, .int (nI (np_len lx))), (9, .ref qa), (10, .ref q111), (11, .int (nI kz)), (12, .int 1)]) hx hb d_Mo_origin_230 hl (k := 11) rfl (nI_add i 1) (by decide) rfl (fun ls hl => ?_)
                                      refine lv_goto (tgt := 198) hx hb d_Mo_origin_233 (by decide) ?_
                                      exact ih G63 (i + 1) (upd fj (np_len ly + np_len lz + (4 * kz) + i) (vp_nar .byte ((1 >>> ((nI (24 - (8 * i))) &&& 31)).toInt8.toInt32))) _ _ (by omega) (by omega) (zf_fitu hftj) (ror_s hL9 (by omega) hvj (zby_i (by omega))) (k65) (k66) (k67) (k68) (k69) (hx64) hG hS ls (lv_sub hl [1, 2, 3, 4, 5, 6, 7, 8, 9, 10, 11, 0] rfl)
                                exact loop198 _ Gx 0 fj _ _ (Nat.lt_succ_self _) (Nat.zero_le _) (hftj) (ror_e hL9 hA9) (kk_a) (kk_h_1) (kk_h_4) (kk_qa) (kk_q111) (hxl) hG hS ls (lv_sub hl [2, 3, 4, 5, 6, 7, 8, 9, 10, 11, 1, 0] rfl)
                        exact loop145 _ Gx 0 fj _ _ (Nat.lt_succ_self _) (Nat.zero_le _) (hftj) (fun j hj => by rw [hvj j (by omega), hloqa j (by omega), rt2 _ (by omega)]; exact (zlw_at (by omega)).symm) (kk_a) (kk_h_1) (kk_h_4) (kk_qa) (kk_q111) (hxl) hG hS ls (lv_sub hl [1, 2, 3, 4, 5, 6, 7, 8, 9, 0] rfl)
                      · have b123 : ¬ (np_len ly + np_len lz) ≤ i := fun q => c123 ((nI_leI (a := (np_len ly + np_len lz)) (b := i) (by omega) (by omega)).mpr q)
                        refine lv_aload hx hb d_Mo_origin_126 (lv_at hl 8 rfl) ?_
                        refine lv_iload hx hb d_Mo_origin_128 (lv_at hl 9 rfl) ?_
                        refine lv_aload hx hb d_Mo_origin_130 (lv_at hl 7 rfl) ?_
                        refine lv_iload hx hb d_Mo_origin_132 (lv_at hl 9 rfl) ?_
                        refine zg_bald hx hb hK hG 0 kk_qa rfl (vp_in_nI (by omega) (by omega)) d_Mo_origin_134 ?_
                        refine zi_as (y := fa i) (by rw [zi_n _ (by omega)]) ?_
                        refine zg_bast hx hb hK hG hS 0 kk_q111 rfl (vp_in_nI (by omega) (by omega)) d_Mo_origin_135 (fun H locs hG hS => ?_)
                        rw [zi_n i (by omega)] at hG
                        obtain ⟨G70, eG70⟩ : ∃ z : zg_G, z = zg_up Gx q111 (.inl (E.2.1 0, np_len ly + np_len lz + 20, .inl (upd fj i (vp_nar .byte (fa i))))) := ⟨_, rfl⟩
                        have hG : zP E G70 H := by rw [eG70]; exact hG
                        have hx71 : zx (fun q => q = a ∨ q = h 4) G G70 := by rw [eG70]; exact hxl.upn nf111
                        have k72 : G70 a = some (.inr (11, [.int 0, .ref (h 1), .int (nI tp.length), .ref (h 3), .ref (h 4), .int (nI rs.length), .ref (h 6), .ref (h 7), .ref (h 8), .ref (h 9), .ref (h 10), .ref (h 11), .ref (h 12), .int (nI (wln Wz)), .int co, .ref (h 15), .int (nI (rPw Wz + ([] : List Int32).length)), .int se, .ref (h 18), v19, v20])) := by rw [eG70, zg_up_ne (ne111_a)]; exact kk_a
                        have k73 : G70 (h 1) = some (.inl (E.2.1 0, 65536, .inl fm)) := by rw [eG70, zg_up_ne (ne111_h_1)]; exact kk_h_1
                        have k74 : G70 (h 4) = some (.inl (E.2.1 4, 2000, .inr (.inr (.inr (.inr fr))))) := by rw [eG70, zg_up_ne (ne111_h_4)]; exact kk_h_4
                        have k75 : G70 qa = some (.inl (E.2.1 0, np_len ly + np_len lz, .inl fa)) := by rw [eG70, zg_up_ne (ne111_qa)]; exact kk_qa
                        have k76 : G70 q111 = some (.inl (E.2.1 0, np_len ly + np_len lz + 20, .inl (upd fj i (vp_nar .byte (fa i))))) := by rw [eG70]; exact zg_up_self _ _ _
                        refine lv_iinc (v := nI (i + 1)) (lv' := [(11, .int (nI (i + 1))), (0, .ref a), (1, .int x1), (2, .int x2), (3, .int x3), (4, .int x4), (5, .int x5), (6, .int (nI (np_len lx))), (9, .ref qa), (10, .ref q111)]) hx hb d_Mo_origin_136 hl (k := 9) rfl (nI_add i 1) (by decide) rfl (fun ls hl => ?_)
                        refine lv_goto (tgt := 118) hx hb d_Mo_origin_139 (by decide) ?_
                        exact ih G70 (i + 1) (upd fj i (vp_nar .byte (fa i))) _ _ (by omega) (by omega) (zf_fitu hftj) (fun j hj => ror_c hvj (hftqa i) j hj) (k72) (k73) (k74) (k75) (k76) (hx71) hG hS ls (lv_sub hl [1, 2, 3, 4, 5, 6, 7, 8, 9, 0] rfl)
                  refine zW_more (cells2 := 2) (slots2 := 1100) (by first | omega | (dsimp only; omega)) (by first | omega | (dsimp only; omega)) ?_
                  exact loop118 _ G15 0 (fun _ => 0) _ _ (Nat.lt_succ_self _) (Nat.zero_le _) (zf_fit0) (fun j hj => absurd hj (Nat.not_lt_zero j)) (k17) (k19) (k18) (k20) (k21) (hx16) hG hS ls (lv_sub hl [6, 7, 8, 9, 10, 11, 5, 2, 1, 0] rfl)
                · have b88 : ¬ 0 ≤ 0 := fun q => c88 ((nI_leI (a := 0) (b := 0) (by omega) (by omega)).mpr q)
                  exact absurd (show (0 : Int32) ≤ 0 by decide) c88
              · have hbad : x1 < 0 ∨ ¬ ∃ x y z, zOrg tp x y z := Or.inl (Int32.not_le.mp c73)
                refine lv_iconst (v := 1) hx hb d_Mo_origin_76 (by decide) ?_
                refine lv_goto (tgt := 81) hx hb d_Mo_origin_77 (by decide) ?_
                refine zg_put (ci := 11) (v := .int 1) (ty := .int) (C := "ZoneAnswersModel") (T := T_Mo) (N := 21) hx hb hts zi_Mo t_Mo t_Mo_ok n_Mo hown hK hG hS ra rfl 0 (by decide) (hts _ w_1281) (fun _ h9 => h9) rfl (by decide +kernel) rfl rfl (Nat.le_of_ble_eq_true rfl) d_Mo_origin_81 (fun H locs hG hS => ?_)
                obtain ⟨G77, eG77⟩ : ∃ z : zg_G, z = zg_up G a (.inr (11, [.int 1, .ref (h 1), .int (nI tp.length), .ref (h 3), .ref (h 4), .int (nI rs.length), .ref (h 6), .ref (h 7), .ref (h 8), .ref (h 9), .ref (h 10), .ref (h 11), .ref (h 12), .int (nI (wln Wz)), .int co, .ref (h 15), .int (nI (rPw Wz + ([] : List Int32).length)), .int se, .ref (h 18), v19, v20])) := ⟨_, rfl⟩
                have hG : zP E G77 H := by rw [eG77]; exact hG
                have hx78 : zx (fun q => q = a ∨ q = h 4) G G77 := hx0.tr (by rw [eG77]; exact zx.up (Or.inl rfl))
                have k79 : G77 a = some (.inr (11, [.int 1, .ref (h 1), .int (nI tp.length), .ref (h 3), .ref (h 4), .int (nI rs.length), .ref (h 6), .ref (h 7), .ref (h 8), .ref (h 9), .ref (h 10), .ref (h 11), .ref (h 12), .int (nI (wln Wz)), .int co, .ref (h 15), .int (nI (rPw Wz + ([] : List Int32).length)), .int se, .ref (h 18), v19, v20])) := by rw [eG77]; exact zg_up_self _ _ _
                have k80 : G77 (h 4) = some (.inl (E.2.1 4, 2000, .inr (.inr (.inr (.inr fr))))) := by rw [eG77, zg_up_ne (zg_ne rm4 ra (by intro h; simp at h))]; exact rm4
                have k81 : G77 (h 1) = some (.inl (E.2.1 0, 65536, .inl fm)) := by rw [eG77, zg_up_ne (zg_ne rt1 ra (by intro h; simp at h))]; exact rt1
                obtain ⟨hst1, hs1⟩ := rSt.set hst 1 co se v19 v20 ra
                rw [← eG77] at hst1 hs1
                refine lv_aload_n hx hb d_Mo_origin_84 rfl (lv_at hl 3 rfl) ?_
                refine zg_get (ci := 11) (C := "ZoneAnswersModel") (T := T_Mo) (N := 21) hx hb hts zi_Mo hown hK hG k79 rfl 0 (by decide) (hts _ w_1281) (fun _ h9 => h9) rfl d_Mo_origin_85 ?_
                refine lv_if_le (tgt := 92) hx hb d_Mo_origin_88 (by decide) (fun c88 => ?_) (fun c88 => ?_)
                · have b88 : 1 ≤ 0 := (nI_leI (a := 1) (b := 0) (by omega) (by omega)).mp c88
                  exact absurd c88 (by decide)
                · have b88 : ¬ 1 ≤ 0 := fun q => c88 ((nI_leI (a := 1) (b := 0) (by omega) (by omega)).mpr q)
                  exact hret _ _ _ _ _ _ _ (Or.inl ⟨hbad, ro, hst1.o hse, hs1⟩) hG hS (by dsimp only; omega) (by dsimp only; omega) d_Mo_origin_91
          · have hG : zP E G H := eg57 ▸ hG
            refine zi_as (y := -1) er57 ?_
            have hno9 : ¬ ∃ ls, zNm (fun j => tp.getD (np_len lx + np_len ly + j) 0) (tp.length - (np_len lx + np_len ly)) ls := fun ⟨ls, z⟩ => hnr ⟨ls, zNm_cg (fun j hj => (rt2 _ (by omega)).symm) z⟩
            have hbad : x1 < 0 ∨ ¬ ∃ x y z, zOrg tp x y z := Or.inr (zOrg_n3 hnm0 hnm1 hno9)
            refine lv_istore (lv' := [(8, .int (-1)), (7, .int (nI (np_len lx + np_len ly))), (6, .int (nI (np_len lx))), (0, .ref a), (1, .int x1), (2, .int x2), (3, .int x3), (4, .int x4), (5, .int x5)]) hx hb d_Mo_origin_60 hl (by decide) rfl (fun ls hl => ?_)
            refine lv_aload_n hx hb d_Mo_origin_62 rfl (lv_at hl 3 rfl) ?_
            refine lv_iload hx hb d_Mo_origin_63 (lv_at hl 0 rfl) ?_
            refine lv_aload_n hx hb d_Mo_origin_65 rfl (lv_at hl 3 rfl) ?_
            refine zg_get (ci := 11) (C := "ZoneAnswersModel") (T := T_Mo) (N := 21) hx hb hts zi_Mo hown hK hG ra rfl 2 (by decide) (hts _ w_1283) (fun _ h9 => h9) rfl d_Mo_origin_66 ?_
            refine lv_icmp_ne (tgt := 76) hx hb d_Mo_origin_69 (by decide) (fun c69 => ?_) (fun c69 => ?_)
            · refine lv_iconst (v := 1) hx hb d_Mo_origin_76 (by decide) ?_
              refine lv_goto (tgt := 81) hx hb d_Mo_origin_77 (by decide) ?_
              refine zg_put (ci := 11) (v := .int 1) (ty := .int) (C := "ZoneAnswersModel") (T := T_Mo) (N := 21) hx hb hts zi_Mo t_Mo t_Mo_ok n_Mo hown hK hG hS ra rfl 0 (by decide) (hts _ w_1281) (fun _ h9 => h9) rfl (by decide +kernel) rfl rfl (Nat.le_of_ble_eq_true rfl) d_Mo_origin_81 (fun H locs hG hS => ?_)
              obtain ⟨G82, eG82⟩ : ∃ z : zg_G, z = zg_up G a (.inr (11, [.int 1, .ref (h 1), .int (nI tp.length), .ref (h 3), .ref (h 4), .int (nI rs.length), .ref (h 6), .ref (h 7), .ref (h 8), .ref (h 9), .ref (h 10), .ref (h 11), .ref (h 12), .int (nI (wln Wz)), .int co, .ref (h 15), .int (nI (rPw Wz + ([] : List Int32).length)), .int se, .ref (h 18), v19, v20])) := ⟨_, rfl⟩
              have hG : zP E G82 H := by rw [eG82]; exact hG
              have hx83 : zx (fun q => q = a ∨ q = h 4) G G82 := hx0.tr (by rw [eG82]; exact zx.up (Or.inl rfl))
              have k84 : G82 a = some (.inr (11, [.int 1, .ref (h 1), .int (nI tp.length), .ref (h 3), .ref (h 4), .int (nI rs.length), .ref (h 6), .ref (h 7), .ref (h 8), .ref (h 9), .ref (h 10), .ref (h 11), .ref (h 12), .int (nI (wln Wz)), .int co, .ref (h 15), .int (nI (rPw Wz + ([] : List Int32).length)), .int se, .ref (h 18), v19, v20])) := by rw [eG82]; exact zg_up_self _ _ _
              have k85 : G82 (h 4) = some (.inl (E.2.1 4, 2000, .inr (.inr (.inr (.inr fr))))) := by rw [eG82, zg_up_ne (zg_ne rm4 ra (by intro h; simp at h))]; exact rm4
              have k86 : G82 (h 1) = some (.inl (E.2.1 0, 65536, .inl fm)) := by rw [eG82, zg_up_ne (zg_ne rt1 ra (by intro h; simp at h))]; exact rt1
              obtain ⟨hst1, hs1⟩ := rSt.set hst 1 co se v19 v20 ra
              rw [← eG82] at hst1 hs1
              refine lv_aload_n hx hb d_Mo_origin_84 rfl (lv_at hl 3 rfl) ?_
              refine zg_get (ci := 11) (C := "ZoneAnswersModel") (T := T_Mo) (N := 21) hx hb hts zi_Mo hown hK hG k84 rfl 0 (by decide) (hts _ w_1281) (fun _ h9 => h9) rfl d_Mo_origin_85 ?_
              refine lv_if_le (tgt := 92) hx hb d_Mo_origin_88 (by decide) (fun c88 => ?_) (fun c88 => ?_)
              · have b88 : 1 ≤ 0 := (nI_leI (a := 1) (b := 0) (by omega) (by omega)).mp c88
                exact absurd c88 (by decide)
              · have b88 : ¬ 1 ≤ 0 := fun q => c88 ((nI_leI (a := 1) (b := 0) (by omega) (by omega)).mpr q)
                exact hret _ _ _ _ _ _ _ (Or.inl ⟨hbad, ro, hst1.o hse, hs1⟩) hG hS (by dsimp only; omega) (by dsimp only; omega) d_Mo_origin_91
            · exact absurd (show nI tp.length < 0 by rw [← c69]; decide) (nI_pos (by omega))
        · have b40 : ¬ 0 ≤ (np_len lx + np_len ly) := fun q => c40 ((nI_leI (a := 0) (b := (np_len lx + np_len ly)) (by omega) (by omega)).mpr q)
          exact absurd (Nat.zero_le _) b40
      · have hG : zP E G H := eg33 ▸ hG
        refine zi_as (y := -1) er33 ?_
        have hno9 : ¬ ∃ ls, zNm (fun j => tp.getD (np_len lx + j) 0) (tp.length - (np_len lx)) ls := fun ⟨ls, z⟩ => hnr ⟨ls, zNm_cg (fun j hj => (rt2 _ (by omega)).symm) z⟩
        have hbad : x1 < 0 ∨ ¬ ∃ x y z, zOrg tp x y z := Or.inr (zOrg_n2 hnm0 hno9)
        refine lv_istore (lv' := [(7, .int (-1)), (6, .int (nI (np_len lx))), (0, .ref a), (1, .int x1), (2, .int x2), (3, .int x3), (4, .int x4), (5, .int x5)]) hx hb d_Mo_origin_36 hl (by decide) rfl (fun ls hl => ?_)
        refine lv_iload hx hb d_Mo_origin_38 (lv_at hl 0 rfl) ?_
        refine lv_if_ge (tgt := 47) hx hb d_Mo_origin_40 (by decide) (fun c40 => ?_) (fun c40 => ?_)
        · exact absurd c40 (by decide)
        · refine lv_iconst (v := -1) hx hb d_Mo_origin_43 (by decide) ?_
          refine lv_goto (tgt := 60) hx hb d_Mo_origin_44 (by decide) ?_
          refine lv_istore (lv' := [(8, .int (-1)), (7, .int (-1)), (6, .int (nI (np_len lx))), (0, .ref a), (1, .int x1), (2, .int x2), (3, .int x3), (4, .int x4), (5, .int x5)]) hx hb d_Mo_origin_60 hl (by decide) rfl (fun ls hl => ?_)
          refine lv_aload_n hx hb d_Mo_origin_62 rfl (lv_at hl 3 rfl) ?_
          refine lv_iload hx hb d_Mo_origin_63 (lv_at hl 0 rfl) ?_
          refine lv_aload_n hx hb d_Mo_origin_65 rfl (lv_at hl 3 rfl) ?_
          refine zg_get (ci := 11) (C := "ZoneAnswersModel") (T := T_Mo) (N := 21) hx hb hts zi_Mo hown hK hG ra rfl 2 (by decide) (hts _ w_1283) (fun _ h9 => h9) rfl d_Mo_origin_66 ?_
          refine lv_icmp_ne (tgt := 76) hx hb d_Mo_origin_69 (by decide) (fun c69 => ?_) (fun c69 => ?_)
          · refine lv_iconst (v := 1) hx hb d_Mo_origin_76 (by decide) ?_
            refine lv_goto (tgt := 81) hx hb d_Mo_origin_77 (by decide) ?_
            refine zg_put (ci := 11) (v := .int 1) (ty := .int) (C := "ZoneAnswersModel") (T := T_Mo) (N := 21) hx hb hts zi_Mo t_Mo t_Mo_ok n_Mo hown hK hG hS ra rfl 0 (by decide) (hts _ w_1281) (fun _ h9 => h9) rfl (by decide +kernel) rfl rfl (Nat.le_of_ble_eq_true rfl) d_Mo_origin_81 (fun H locs hG hS => ?_)
            obtain ⟨G87, eG87⟩ : ∃ z : zg_G, z = zg_up G a (.inr (11, [.int 1, .ref (h 1), .int (nI tp.length), .ref (h 3), .ref (h 4), .int (nI rs.length), .ref (h 6), .ref (h 7), .ref (h 8), .ref (h 9), .ref (h 10), .ref (h 11), .ref (h 12), .int (nI (wln Wz)), .int co, .ref (h 15), .int (nI (rPw Wz + ([] : List Int32).length)), .int se, .ref (h 18), v19, v20])) := ⟨_, rfl⟩
            have hG : zP E G87 H := by rw [eG87]; exact hG
            have hx88 : zx (fun q => q = a ∨ q = h 4) G G87 := hx0.tr (by rw [eG87]; exact zx.up (Or.inl rfl))
            have k89 : G87 a = some (.inr (11, [.int 1, .ref (h 1), .int (nI tp.length), .ref (h 3), .ref (h 4), .int (nI rs.length), .ref (h 6), .ref (h 7), .ref (h 8), .ref (h 9), .ref (h 10), .ref (h 11), .ref (h 12), .int (nI (wln Wz)), .int co, .ref (h 15), .int (nI (rPw Wz + ([] : List Int32).length)), .int se, .ref (h 18), v19, v20])) := by rw [eG87]; exact zg_up_self _ _ _
            have k90 : G87 (h 4) = some (.inl (E.2.1 4, 2000, .inr (.inr (.inr (.inr fr))))) := by rw [eG87, zg_up_ne (zg_ne rm4 ra (by intro h; simp at h))]; exact rm4
            have k91 : G87 (h 1) = some (.inl (E.2.1 0, 65536, .inl fm)) := by rw [eG87, zg_up_ne (zg_ne rt1 ra (by intro h; simp at h))]; exact rt1
            obtain ⟨hst1, hs1⟩ := rSt.set hst 1 co se v19 v20 ra
            rw [← eG87] at hst1 hs1
            refine lv_aload_n hx hb d_Mo_origin_84 rfl (lv_at hl 3 rfl) ?_
            refine zg_get (ci := 11) (C := "ZoneAnswersModel") (T := T_Mo) (N := 21) hx hb hts zi_Mo hown hK hG k89 rfl 0 (by decide) (hts _ w_1281) (fun _ h9 => h9) rfl d_Mo_origin_85 ?_
            refine lv_if_le (tgt := 92) hx hb d_Mo_origin_88 (by decide) (fun c88 => ?_) (fun c88 => ?_)
            · have b88 : 1 ≤ 0 := (nI_leI (a := 1) (b := 0) (by omega) (by omega)).mp c88
              exact absurd c88 (by decide)
            · have b88 : ¬ 1 ≤ 0 := fun q => c88 ((nI_leI (a := 1) (b := 0) (by omega) (by omega)).mpr q)
              exact hret _ _ _ _ _ _ _ (Or.inl ⟨hbad, ro, hst1.o hse, hs1⟩) hG hS (by dsimp only; omega) (by dsimp only; omega) d_Mo_origin_91
          · exact absurd (show nI tp.length < 0 by rw [← c69]; decide) (nI_pos (by omega))
    · have b16 : ¬ 0 ≤ (np_len lx) := fun q => c16 ((nI_leI (a := 0) (b := (np_len lx)) (by omega) (by omega)).mpr q)
      exact absurd (Nat.zero_le _) b16
  · have hG : zP E G H := eg9 ▸ hG
    refine zi_as (y := -1) er9 ?_
    have hno9 : ¬ ∃ ls, zNm (fun j => tp.getD (0 + j) 0) (tp.length - (0)) ls := fun ⟨ls, z⟩ => hnr ⟨ls, zNm_cg (fun j hj => (rt2 _ (by omega)).symm) z⟩
    have hbad : x1 < 0 ∨ ¬ ∃ x y z, zOrg tp x y z := Or.inr (zOrg_n1 hno9)
    refine lv_istore (lv' := [(6, .int (-1)), (0, .ref a), (1, .int x1), (2, .int x2), (3, .int x3), (4, .int x4), (5, .int x5)]) hx hb d_Mo_origin_12 hl (by decide) rfl (fun ls hl => ?_)
    refine lv_iload hx hb d_Mo_origin_14 (lv_at hl 0 rfl) ?_
    refine lv_if_ge (tgt := 23) hx hb d_Mo_origin_16 (by decide) (fun c16 => ?_) (fun c16 => ?_)
    · exact absurd c16 (by decide)
    · refine lv_iconst (v := -1) hx hb d_Mo_origin_19 (by decide) ?_
      refine lv_goto (tgt := 36) hx hb d_Mo_origin_20 (by decide) ?_
      refine lv_istore (lv' := [(7, .int (-1)), (6, .int (-1)), (0, .ref a), (1, .int x1), (2, .int x2), (3, .int x3), (4, .int x4), (5, .int x5)]) hx hb d_Mo_origin_36 hl (by decide) rfl (fun ls hl => ?_)
      refine lv_iload hx hb d_Mo_origin_38 (lv_at hl 0 rfl) ?_
      refine lv_if_ge (tgt := 47) hx hb d_Mo_origin_40 (by decide) (fun c40 => ?_) (fun c40 => ?_)
      · exact absurd c40 (by decide)
      · refine lv_iconst (v := -1) hx hb d_Mo_origin_43 (by decide) ?_
        refine lv_goto (tgt := 60) hx hb d_Mo_origin_44 (by decide) ?_
        refine lv_istore (lv' := [(8, .int (-1)), (7, .int (-1)), (6, .int (-1)), (0, .ref a), (1, .int x1), (2, .int x2), (3, .int x3), (4, .int x4), (5, .int x5)]) hx hb d_Mo_origin_60 hl (by decide) rfl (fun ls hl => ?_)
        refine lv_aload_n hx hb d_Mo_origin_62 rfl (lv_at hl 3 rfl) ?_
        refine lv_iload hx hb d_Mo_origin_63 (lv_at hl 0 rfl) ?_
        refine lv_aload_n hx hb d_Mo_origin_65 rfl (lv_at hl 3 rfl) ?_
        refine zg_get (ci := 11) (C := "ZoneAnswersModel") (T := T_Mo) (N := 21) hx hb hts zi_Mo hown hK hG ra rfl 2 (by decide) (hts _ w_1283) (fun _ h9 => h9) rfl d_Mo_origin_66 ?_
        refine lv_icmp_ne (tgt := 76) hx hb d_Mo_origin_69 (by decide) (fun c69 => ?_) (fun c69 => ?_)
        · refine lv_iconst (v := 1) hx hb d_Mo_origin_76 (by decide) ?_
          refine lv_goto (tgt := 81) hx hb d_Mo_origin_77 (by decide) ?_
          refine zg_put (ci := 11) (v := .int 1) (ty := .int) (C := "ZoneAnswersModel") (T := T_Mo) (N := 21) hx hb hts zi_Mo t_Mo t_Mo_ok n_Mo hown hK hG hS ra rfl 0 (by decide) (hts _ w_1281) (fun _ h9 => h9) rfl (by decide +kernel) rfl rfl (Nat.le_of_ble_eq_true rfl) d_Mo_origin_81 (fun H locs hG hS => ?_)
          obtain ⟨G92, eG92⟩ : ∃ z : zg_G, z = zg_up G a (.inr (11, [.int 1, .ref (h 1), .int (nI tp.length), .ref (h 3), .ref (h 4), .int (nI rs.length), .ref (h 6), .ref (h 7), .ref (h 8), .ref (h 9), .ref (h 10), .ref (h 11), .ref (h 12), .int (nI (wln Wz)), .int co, .ref (h 15), .int (nI (rPw Wz + ([] : List Int32).length)), .int se, .ref (h 18), v19, v20])) := ⟨_, rfl⟩
          have hG : zP E G92 H := by rw [eG92]; exact hG
          have hx93 : zx (fun q => q = a ∨ q = h 4) G G92 := hx0.tr (by rw [eG92]; exact zx.up (Or.inl rfl))
          have k94 : G92 a = some (.inr (11, [.int 1, .ref (h 1), .int (nI tp.length), .ref (h 3), .ref (h 4), .int (nI rs.length), .ref (h 6), .ref (h 7), .ref (h 8), .ref (h 9), .ref (h 10), .ref (h 11), .ref (h 12), .int (nI (wln Wz)), .int co, .ref (h 15), .int (nI (rPw Wz + ([] : List Int32).length)), .int se, .ref (h 18), v19, v20])) := by rw [eG92]; exact zg_up_self _ _ _
          have k95 : G92 (h 4) = some (.inl (E.2.1 4, 2000, .inr (.inr (.inr (.inr fr))))) := by rw [eG92, zg_up_ne (zg_ne rm4 ra (by intro h; simp at h))]; exact rm4
          have k96 : G92 (h 1) = some (.inl (E.2.1 0, 65536, .inl fm)) := by rw [eG92, zg_up_ne (zg_ne rt1 ra (by intro h; simp at h))]; exact rt1
          obtain ⟨hst1, hs1⟩ := rSt.set hst 1 co se v19 v20 ra
          rw [← eG92] at hst1 hs1
          refine lv_aload_n hx hb d_Mo_origin_84 rfl (lv_at hl 3 rfl) ?_
          refine zg_get (ci := 11) (C := "ZoneAnswersModel") (T := T_Mo) (N := 21) hx hb hts zi_Mo hown hK hG k94 rfl 0 (by decide) (hts _ w_1281) (fun _ h9 => h9) rfl d_Mo_origin_85 ?_
          refine lv_if_le (tgt := 92) hx hb d_Mo_origin_88 (by decide) (fun c88 => ?_) (fun c88 => ?_)
          · have b88 : 1 ≤ 0 := (nI_leI (a := 1) (b := 0) (by omega) (by omega)).mp c88
            exact absurd c88 (by decide)
          · have b88 : ¬ 1 ≤ 0 := fun q => c88 ((nI_leI (a := 1) (b := 0) (by omega) (by omega)).mpr q)
            exact hret _ _ _ _ _ _ _ (Or.inl ⟨hbad, ro, hst1.o hse, hs1⟩) hG hS (by dsimp only; omega) (by dsimp only; omega) d_Mo_origin_91
        · exact absurd (show nI tp.length < 0 by rw [← c69]; decide) (nI_pos (by omega))
