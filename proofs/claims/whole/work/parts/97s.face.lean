/-! THE REFERENCE'S FACE: feed, end, records, told -/
theorem rCx.x1 {E : zc_E} {G : zg_G} {ro : zRo} {h : Nat → Nat} {lo : np_N} {rs : List zRt} {W : zW} {px : List Int32} {qp : Prop} {nq : Nat × Int32 × np_N × zWs} {th co se : Int32} {tp : List Int32} {v19 v20 : Value} {G2 : zg_G} {th2 co2 se2 : Int32} {w19 w20 : Value} (hc : rCx E G ro h lo rs W px qp nq th tp co se v19 v20) (hx : zx (fun q => q = h 0) G G2) (n : Nat) (hn : n ≤ tp.length) (he : G2 (h 0) = some (.inr (11, [.int th2, .ref (h 1), .int (nI n), .ref (h 3), .ref (h 4), .int (nI rs.length), .ref (h 6), .ref (h 7), .ref (h 8), .ref (h 9), .ref (h 10), .ref (h 11), .ref (h 12), .int (nI (wln W)), .int co2, .ref (h 15), .int (nI (rPw W + px.length)), .int se2, .ref (h 18), w19, w20]))) : rCx E G2 ro h lo rs W px qp nq th2 (tp.take n) co2 se2 w19 w20 ∧ zfr ro zKr G ro G2 := by
  obtain ⟨a1, a2, ⟨fm, a3, a4, a5, a6⟩, a7, a8, a9, b1, b2⟩ := hc
  have hl : (tp.take n).length = n := by rw [List.length_take]; omega
  have hf : zfr ro (fun r => r = (20, 0)) G ro G2 := fun q e hq hn => ⟨hx q e (fun z => hn (by rw [z]; exact a2)) hq, rfl⟩
  have q2 := hf _ _ a3 (by rw [a6]; simp)
  refine ⟨⟨?_, a2, ⟨fm, q2.1, fun j hj => ?_, a5, a6⟩, by rw [hl]; omega, a8.fr hf (by simp), a9.fr hf (by simp) (by simp) (by simp), b1, b2.fr hf (by simp) (fun i hi => by simp; omega)⟩, hf.w (fun k z => by rw [z]; exact Or.inl rfl)⟩
  · rw [hl]; exact he
  · rw [hl] at hj
    rw [a4 j (by omega), List.getD_eq_getElem?_getD, List.getD_eq_getElem?_getD, List.getElem?_take_of_lt hj]
theorem rCx.x2 {E : zc_E} {G : zg_G} {ro : zRo} {h : Nat → Nat} {lo : np_N} {rs : List zRt} {W : zW} {px : List Int32} {qp : Prop} {nq : Nat × Int32 × np_N × zWs} {th co se : Int32} {tp : List Int32} {v19 v20 : Value} {G2 : zg_G} {th2 : Int32} {fm : Nat → Int32} {tp2 : List Int32} (hc : rCx E G ro h lo rs W px qp nq th tp co se v19 v20) (hx : zx (fun q => q = h 0 ∨ q = h 1) G G2) (hl : tp2.length ≤ 65536) (he : G2 (h 0) = some (.inr (11, [.int th2, .ref (h 1), .int (nI tp2.length), .ref (h 3), .ref (h 4), .int (nI rs.length), .ref (h 6), .ref (h 7), .ref (h 8), .ref (h 9), .ref (h 10), .ref (h 11), .ref (h 12), .int (nI (wln W)), .int co, .ref (h 15), .int (nI (rPw W + px.length)), .int se, .ref (h 18), v19, v20]))) (hm : G2 (h 1) = some (.inl (E.2.1 0, 65536, .inl fm))) (hft : sb_Fit fm) (hv : ∀ j, j < tp2.length → fm j = tp2.getD j 0) : rCx E G2 ro h lo rs W px qp nq th2 tp2 co se v19 v20 ∧ zfr ro zKr G ro G2 := by
  obtain ⟨a1, a2, ⟨fm0, a3, a4, a5, a6⟩, a7, a8, a9, b1, b2⟩ := hc
  have hf : zfr ro (fun r => r = (20, 0) ∨ r = (20, 1)) G ro G2 := fun q e hq hn => ⟨hx q e (fun z => hn (z.elim (fun z => Or.inl (by rw [z]; exact a2)) (fun z => Or.inr (by rw [z]; exact a6)))) hq, rfl⟩
  exact ⟨⟨he, a2, ⟨fm, hm, hv, hft, a6⟩, hl, a8.fr hf (by simp), a9.fr hf (by simp) (by simp) (by simp), b1, b2.fr hf (by simp) (fun i hi => by simp; omega)⟩, hf.w (fun k z => by rcases z with z | z <;> (rw [z]; exact Or.inl rfl))⟩
theorem wsel_tk {ws : zWs} {y : Int32} {i : Nat} (hi : i < ws.length) (h : (we ws i).1 = y) : (wsel y ws)[(wsel y (ws.take i)).length]? = some (we ws i).2 := by
  have e : wsel y ws = wsel y (ws.take (i + 1)) ++ wsel y (ws.drop (i + 1)) := by rw [← wsel_app, List.take_append_drop]
  rw [e, wsel_take hi, if_pos h, List.append_assoc, List.getElem?_append_right (Nat.le_refl _), Nat.sub_self]
  rfl
theorem zas_w {E : zc_E} {G : zg_G} {ro : zRo} {pl : List Int32} {an : List zAt} {ws : zWs} {y : Int32} (h : ∀ i, i < ws.length → rAw E G ro pl (ae an i) (we ws i)) : ∀ i, i ≤ ws.length → zas an y i = (wsel y (ws.take i)).length
  | 0, _ => rfl
  | i + 1, hi => by
    show zas an y i + _ = _
    rw [zas_w h i (by omega), wsel_take (by omega), List.length_append, (h i (by omega)).1]
    split <;> rfl
theorem wsq_y {y : Int32} {ws : zWs} (h : y = 1 ∨ y = 2 ∨ y = 3) : wsq y (rW ws) = some (wsel y ws) := by
  rcases h with rfl | rfl | rfl <;> rfl
theorem wsq_o {y : Int32} {W : zW} (h : ¬ y = 1 ∧ ¬ y = 2 ∧ ¬ y = 3) : wsq y W = none := by
  unfold wsq
  rw [if_neg h.1, if_neg h.2.1, if_neg h.2.2]
theorem wsel_ln {ws : zWs} {y : Int32} : (wsel y ws).length ≤ ws.length := by
  unfold wsel
  rw [List.length_map]; exact List.length_filter_le _ _
theorem rpl_y {E : zc_E} {G : zg_G} {ro : zRo} {pl : List Int32} {an : List zAt} {ws : zWs} {y z : Int32} {i : Nat} (h : ∀ i, i < ws.length → rAw E G ro pl (ae an i) (we ws i)) (hl : an.length = ws.length) (hi : i < an.length) (h1 : aS (ae an i) = y) (h2 : z = nI (zas an y i)) (h3 : y = 1 ∨ y = 2 ∨ y = 3) : wrw y z (rW ws) (we ws i).2 := by
  refine ⟨_, zas an y i, wsq_y h3, h2, ?_⟩
  rw [zas_w h i (by omega)]
  exact wsel_tk (by omega) ((h i (by omega)).1.symm.trans h1)
theorem rpl_n {E : zc_E} {G : zg_G} {ro : zRo} {pl : List Int32} {an : List zAt} {ws : zWs} {y z : Int32} (h : ∀ i, i < ws.length → rAw E G ro pl (ae an i) (we ws i)) (hl : an.length = ws.length) (hb : an.length ≤ 2 ^ 20) (hn : z < 0 ∨ (¬ y = 1 ∧ ¬ y = 2 ∧ ¬ y = 3) ∨ nI (zas an y an.length) ≤ z) : ¬ ∃ e, wrw y z (rW ws) e := fun ⟨e, L, j, h1, h2, h3⟩ => by
  by_cases hy : ¬ y = 1 ∧ ¬ y = 2 ∧ ¬ y = 3
  · rw [wsq_o hy] at h1; cases h1
  have hy2 : y = 1 ∨ y = 2 ∨ y = 3 := by
    by_cases q1 : y = 1
    · exact Or.inl q1
    · by_cases q2 : y = 2
      · exact Or.inr (Or.inl q2)
      · exact Or.inr (Or.inr (Decidable.byContradiction (fun q3 => hy ⟨q1, q2, q3⟩)))
  rw [wsq_y hy2] at h1
  cases h1
  have hj : j < (wsel y ws).length := (List.getElem?_eq_some_iff.mp h3).1
  have hw := wsel_ln (ws := ws) (y := y)
  rcases hn with hn | hn | hn
  · rw [h2] at hn; exact Int32.not_lt.mpr (Int32.not_lt.mp (nI_pos (by omega))) hn
  · exact hy hn
  · rw [h2, zas_w h _ (by omega), hl, List.take_length] at hn
    have := (nI_leI (by omega) (by omega)).mp hn
    omega
theorem t_Mo_records_s (l : Launch) {E : zc_E} {G : zg_G} {ro : zRo} {a c1 c2 : Nat} {lo : np_N} {rs : List zRt} {W : zW} {px : List Int32} {qp : Prop} {nq : Nat × Int32 × np_N × zWs} {th co se : Int32} {tp : List Int32} {v19 v20 : Value} (hs : rSt E G ro a c1 c2 lo rs W px qp nq th tp co se v19 v20) (y : Int32) : zMi l E y_Mo_records c_Mo_records 4 (some .int) rm_Mo_records [.ref a, .int y] G (fun (r : Int32) G2 => ((wsq y W = none ∧ r = 0 ∧ rSt E G2 ro a c1 c2 lo rs W px qp nq 1 tp co se v19 v20) ∨ (∃ L, wsq y W = some L ∧ r = nI L.length ∧ rSt E G2 ro a c1 c2 lo rs W px qp nq 0 tp co se v19 v20)) ∧ zfr ro zKr G ro G2) := by
  obtain ⟨h, rfl, rfl, rfl, hc⟩ := hs
  obtain ⟨a1, a2, ⟨fm, a3⟩, a4, ⟨fo, o1, o2, o3, o4, o5⟩, rr, rg, ws, an, pl, ff, fp, p1, p2, p3, p4, p5, p6, p7, p8, p9⟩ := id hc
  have hwl : an.length = wln W := by rw [← p1, rW_len p2, p3]
  have hwb : wln W ≤ 2 ^ 20 := by have := p6.1.2.1; have := p6.1.1; omega
  have hwq : nI (wln W) = nI an.length := by rw [hwl]
  rw [hwq] at a1
  refine (t_Mo_records l E G an (rcp (h 40) (wln W)) (h 0) (h 1) (h 3) (h 4) (h 6) (h 7) (h 8) (h 9) (h 10) (h 11) (h 12) (h 15) (h 18) th (nI tp.length) (nI rs.length) co (nI (rPw W + px.length)) se v19 v20 a1 p6.1 y).imp (fun r G9 z => ?_)
  rw [← hwq] at z
  rcases z.2 with ⟨z1, z2, z3⟩ | ⟨z1, z2, z3⟩
  · have q := hc.x1 z.1 tp.length (Nat.le_refl _) z3
    rw [List.take_length] at q
    exact ⟨Or.inl ⟨wsq_o z1, z2, h, rfl, rfl, rfl, q.1⟩, q.2⟩
  · have q := hc.x1 z.1 tp.length (Nat.le_refl _) z3
    rw [List.take_length] at q
    refine ⟨Or.inr ⟨wsel y ws, by rw [← p1]; exact wsq_y z1, ?_, h, rfl, rfl, rfl, q.1⟩, q.2⟩
    rw [z2, zas_w p8 _ (by omega), p3, List.take_length]
theorem t_Mo_told_s (l : Launch) {E : zc_E} {G : zg_G} {ro : zRo} {a c1 c2 : Nat} {lo : np_N} {rs : List zRt} {W : zW} {px : List Int32} {qp : Prop} {nq : Nat × Int32 × np_N × zWs} {th co se : Int32} {tp : List Int32} {v19 v20 : Value} (hs : rSt E G ro a c1 c2 lo rs W px qp nq th tp co se v19 v20) (y z u : Int32) : zMi l E y_Mo_told c_Mo_told 5 (some .int) rm_Mo_told [.ref a, .int y, .int z, .int u] G (fun (r : Int32) G2 => (((¬ ∃ e, wrw y z W e) ∧ r = 0 ∧ rSt E G2 ro a c1 c2 lo rs W px qp nq 1 tp co se v19 v20) ∨ (∃ e, wrw y z W e ∧ ((wtl u e = some r ∧ rSt E G2 ro a c1 c2 lo rs W px qp nq 0 tp co se v19 v20) ∨ (wtl u e = none ∧ r = 0 ∧ rSt E G2 ro a c1 c2 lo rs W px qp nq 2 tp co se v19 v20)))) ∧ zfr ro zKr G ro G2) := by
  obtain ⟨h, rfl, rfl, rfl, hc⟩ := hs
  obtain ⟨a1, a2, ⟨fm, a3⟩, a4, ⟨fo, o1, o2, o3, o4, o5⟩, rr, rg, ws, an, pl, ff, fp, p1, p2, p3, p4, p5, p6, p7, p8, p9⟩ := id hc
  have hwl : an.length = wln W := by rw [← p1, rW_len p2, p3]
  have hwb : wln W ≤ 2 ^ 20 := by have := p6.1.2.1; have := p6.1.1; omega
  have hwq : nI (wln W) = nI an.length := by rw [hwl]
  rw [hwq] at a1
  refine (t_Mo_told l E G an (rcp (h 40) (wln W)) (h 0) (h 1) (h 3) (h 4) (h 6) (h 7) (h 8) (h 9) (h 10) (h 11) (h 12) (h 15) (h 18) th (nI tp.length) (nI rs.length) co (nI (rPw W + px.length)) se v19 v20 a1 p6.1 y z u).imp (fun r G9 w => ?_)
  rw [← hwq] at w
  have fin : ∀ th2 : Int32, G9 (h 0) = some (.inr (11, [.int th2, .ref (h 1), .int (nI tp.length), .ref (h 3), .ref (h 4), .int (nI rs.length), .ref (h 6), .ref (h 7), .ref (h 8), .ref (h 9), .ref (h 10), .ref (h 11), .ref (h 12), .int (nI (wln W)), .int co, .ref (h 15), .int (nI (rPw W + px.length)), .int se, .ref (h 18), v19, v20])) → rSt E G9 ro (h 0) (h 40) (h 41) lo rs W px qp nq th2 tp co se v19 v20 ∧ zfr ro zKr G ro G9 := fun th2 z3 => by
    have q := hc.x1 w.1 tp.length (Nat.le_refl _) z3
    rw [List.take_length] at q
    exact ⟨⟨h, rfl, rfl, rfl, q.1⟩, q.2⟩
  rcases w.2 with ⟨z1, z2, z3⟩ | ⟨i, hi, ⟨z1, z2, z3⟩, w2⟩
  · exact ⟨Or.inl ⟨by rw [← p1]; exact rpl_n p8 p3 (by omega) z1, z2, (fin _ z3).1⟩, (fin _ z3).2⟩
  · have hw := rpl_y p8 p3 hi z1 z2 z3
    rw [p1] at hw
    obtain ⟨q1, q2, q3, q4, q5⟩ := p8 i (by omega)
    have qz : aZ (ae an i) = (we ws i).2.2.2.2.length := by
      rcases q5 with ⟨q, -, -, e, -⟩ | ⟨-, e1, e2⟩
      · exact e
      · rw [e2, List.length_take, List.length_drop]; omega
    rcases w2 with ⟨u0, u1, u2⟩ | ⟨u0, u1, u2⟩ | ⟨u0, u1, u2⟩ | ⟨u0, u1, u2⟩ | ⟨u0, u1, u2⟩
    · exact ⟨Or.inr ⟨_, hw, Or.inl ⟨by rw [u0, u1, q3]; rfl, (fin _ u2).1⟩⟩, (fin _ u2).2⟩
    · exact ⟨Or.inr ⟨_, hw, Or.inl ⟨by rw [u0, u1, q4]; rfl, (fin _ u2).1⟩⟩, (fin _ u2).2⟩
    · exact ⟨Or.inr ⟨_, hw, Or.inl ⟨by rw [u0, u1, q2]; rfl, (fin _ u2).1⟩⟩, (fin _ u2).2⟩
    · exact ⟨Or.inr ⟨_, hw, Or.inl ⟨by rw [u0, u1, qz]; rfl, (fin _ u2).1⟩⟩, (fin _ u2).2⟩
    · exact ⟨Or.inr ⟨_, hw, Or.inr ⟨wtl_n u0.1 u0.2.1 u0.2.2.1 u0.2.2.2, u1, (fin _ u2).1⟩⟩, (fin _ u2).2⟩
theorem t_Mo_end_s (l : Launch) {E : zc_E} {G : zg_G} {ro : zRo} {a c1 c2 : Nat} {lo : np_N} {rs : List zRt} {W : zW} {px : List Int32} {qp : Prop} {nq : Nat × Int32 × np_N × zWs} {th co se : Int32} {tp : List Int32} {v19 v20 : Value} (hs : rSt E G ro a c1 c2 lo rs W px qp nq th tp co se v19 v20) (k : Int32) : zMi l E y_Mo_end c_Mo_end 2 (some .int) rm_Mo_end [.ref a, .int k] G (fun (r : Int32) G2 => (((k < 0 ∨ nI tp.length < k) ∧ r = 0 ∧ rSt E G2 ro a c1 c2 lo rs W px qp nq 1 tp co se v19 v20) ∨ (∃ n, n ≤ tp.length ∧ k = nI n ∧ ¬ k < 0 ∧ ¬ nI tp.length < k ∧ r = k ∧ rSt E G2 ro a c1 c2 lo rs W px qp nq 0 (tp.take n) co se v19 v20)) ∧ zfr ro zKr G ro G2) := by
  obtain ⟨h, rfl, rfl, rfl, hc⟩ := hs
  refine (t_Mo_end l E G (h 0) (h 1) (h 3) (h 4) (h 6) (h 7) (h 8) (h 9) (h 10) (h 11) (h 12) (h 15) (h 18) th (nI tp.length) (nI rs.length) (nI (wln W)) co (nI (rPw W + px.length)) se v19 v20 hc.1 k).imp (fun r G9 z => ?_)
  have hlt := hc.2.2.2.1
  rcases z with ⟨z1, z2, z3⟩ | ⟨z0, z1, z2, z3⟩
  · have g1 : zx (fun q => q = h 0) G G9 := by rw [z3]; exact zx.up rfl
    have g2 := congrFun z3 (h 0)
    rw [zg_up_self] at g2
    have q := hc.x1 g1 tp.length (Nat.le_refl _) g2
    rw [List.take_length] at q
    exact ⟨Or.inl ⟨z1, z2, h, rfl, rfl, rfl, q.1⟩, q.2⟩
  · obtain ⟨n, hn, e⟩ := nI_of z0
    rw [e] at z1
    have hle : n ≤ tp.length := Nat.le_of_not_lt (fun q => z1 ((nI_ltI (by omega) (by omega)).mpr q))
    have g1 : zx (fun q => q = h 0) G G9 := by rw [z3]; exact zx.up rfl
    have g2 := congrFun z3 (h 0)
    rw [zg_up_self, e] at g2
    have q := hc.x1 g1 n hle g2
    exact ⟨Or.inr ⟨n, hle, e, z0, by rw [e]; exact z1, z2, h, rfl, rfl, rfl, q.1⟩, q.2⟩
theorem zw4_5 {f : Nat → Int32} {tp : List Int32} (x1 x2 x3 x4 x5 : Int32) (h : ∀ j, j < tp.length → f j = tp.getD j 0) (hft : sb_Fit f) : (∀ j, j < (tp ++ zby x1 ++ zby x2 ++ zby x3 ++ zby x4 ++ zby x5).length → zw4 (zw4 (zw4 (zw4 (zw4 f tp.length x1) (tp.length + 4) x2) (tp.length + 8) x3) (tp.length + 12) x4) (tp.length + 16) x5 j = (tp ++ zby x1 ++ zby x2 ++ zby x3 ++ zby x4 ++ zby x5).getD j 0) ∧ sb_Fit (zw4 (zw4 (zw4 (zw4 (zw4 f tp.length x1) (tp.length + 4) x2) (tp.length + 8) x3) (tp.length + 12) x4) (tp.length + 16) x5) := by
  have h1 := zw4_tp (x := x1) h
  have h2 := zw4_tp (x := x2) h1
  have h3 := zw4_tp (x := x3) h2
  have h4 := zw4_tp (x := x4) h3
  have h5 := zw4_tp (x := x5) h4
  simp only [List.length_append, zby_len, Nat.add_assoc, Nat.reduceAdd] at h5 ⊢
  exact ⟨h5, zw4_fit (zw4_fit (zw4_fit (zw4_fit (zw4_fit hft))))⟩
theorem t_Mo_feed_s (l : Launch) {E : zc_E} {G : zg_G} {ro : zRo} {a c1 c2 : Nat} {lo : np_N} {rs : List zRt} {W : zW} {px : List Int32} {qp : Prop} {nq : Nat × Int32 × np_N × zWs} {th co se : Int32} {tp : List Int32} {v19 v20 : Value} (hs : rSt E G ro a c1 c2 lo rs W px qp nq th tp co se v19 v20) (x1 x2 x3 x4 x5 : Int32) : zMi l E y_Mo_feed c_Mo_feed 8 (some .int) rm_Mo_feed [.ref a, .int x1, .int x2, .int x3, .int x4, .int x5] G (fun (r : Int32) G2 => ((65516 < tp.length ∧ r = 0 ∧ rSt E G2 ro a c1 c2 lo rs W px qp nq 1 tp co se v19 v20) ∨ (tp.length ≤ 65516 ∧ r = nI (tp.length + 20) ∧ rSt E G2 ro a c1 c2 lo rs W px qp nq 0 (tp ++ zby x1 ++ zby x2 ++ zby x3 ++ zby x4 ++ zby x5) co se v19 v20)) ∧ zfr ro zKr G ro G2) := by
  obtain ⟨h, rfl, rfl, rfl, hc⟩ := hs
  obtain ⟨a1, a2, ⟨fm, a3, a3a, a3b, a3c⟩, a4, a5⟩ := id hc
  refine (t_Mo_feed l E G tp.length (h 0) (h 1) (h 3) (h 4) (h 6) (h 7) (h 8) (h 9) (h 10) (h 11) (h 12) (h 15) (h 18) th (nI rs.length) (nI (wln W)) co (nI (rPw W + px.length)) se v19 v20 a1 fm a3 a3b a4 x1 x2 x3 x4 x5).imp (fun r G9 z => ?_)
  rcases z with ⟨z1, z2, z3, z4, z5⟩ | ⟨z1, z2, z3, z4, z5⟩
  · have q := hc.x2 z3 a4 z4 z5 a3b a3a
    exact ⟨Or.inl ⟨z1, z2, h, rfl, rfl, rfl, q.1⟩, q.2⟩
  · have w := zw4_5 x1 x2 x3 x4 x5 a3a a3b
    have hln : (tp ++ zby x1 ++ zby x2 ++ zby x3 ++ zby x4 ++ zby x5).length = tp.length + 20 := by simp [List.length_append, zby_len]
    have q := hc.x2 (tp2 := tp ++ zby x1 ++ zby x2 ++ zby x3 ++ zby x4 ++ zby x5) z3 (by rw [hln]; omega) (by rw [hln]; exact z4) z5 w.2 w.1
    exact ⟨Or.inr ⟨z1, z2, h, rfl, rfl, rfl, q.1⟩, q.2⟩
