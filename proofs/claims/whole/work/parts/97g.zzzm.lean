/-! WHAT THE REFERENCE FINDS, over the state -/
/-- the section of that number -/
def wof (y : Int32) (W : zW) : List aV := if y = 1 then W.1 else if y = 2 then W.2.1 else W.2.2
theorem wof_s {y : Int32} {ws : zWs} (h : y = 1 ∨ y = 2 ∨ y = 3) : wsel y ws = wof y (rW ws) := by
  rcases h with rfl | rfl | rfl <;> rfl
theorem rAn_has {E : zc_E} {G : zg_G} {ro : zRo} {pl : List Int32} {an : List zAt} {ws : zWs} {y t : Int32} {x : np_N} (h : ∀ i, i < ws.length → rAw E G ro pl (ae an i) (we ws i)) (hl : an.length = ws.length) (hy : y = 1 ∨ y = 2 ∨ y = 3) : (∃ e ∈ an, aS e = y ∧ aT e = t ∧ aM e = x) ↔ aHas (wof y (rW ws)) x t := by
  rw [← wof_s hy]
  constructor
  · rintro ⟨e, he, e1, e2, e3⟩
    obtain ⟨i, hi, rfl⟩ := List.getElem_of_mem he
    have q := h i (by omega)
    rw [ae_at hi] at q
    obtain ⟨q1, q2, q3, -⟩ := q
    refine ⟨(we ws i).2, wsel_mem.mpr ?_, by rw [← q3]; exact e2, by rw [← q2]; exact e3⟩
    rw [← e1, q1]; exact we_mem (by omega)
  · rintro ⟨w, hw, e1, e2⟩
    obtain ⟨i, hi, e⟩ := List.getElem_of_mem (wsel_mem.mp hw)
    have q := h i hi
    rw [we_at hi, e] at q
    obtain ⟨q1, q2, q3, -⟩ := q
    exact ⟨ae an i, ae_mem (by omega), q1, q3.trans e1, q2.trans e2⟩
theorem rSt.nm {E : zc_E} {G : zg_G} {ro : zRo} {a c1 c2 : Nat} {lo : np_N} {rs : List zRt} {W : zW} {px : List Int32} {qp : Prop} {nq : Nat × Int32 × np_N × zWs} {th co se : Int32} {tp : List Int32} {v19 v20 : Value} (hs : rSt E G ro a c1 c2 lo rs W px qp nq th tp co se v19 v20) {j : Nat} (hj : j < rs.length) : rNm E G ro (rN (re rs j)) (rM (re rs j)) ∧ zBy E G (rD (re rs j)) (rB (re rs j)) ∧ ro (rD (re rs j)) = (0, 0) := by
  obtain ⟨h, rfl, rfl, rfl, a1, a2, ⟨fm, a3⟩, a4, ⟨fo, o1, o2, o3, o4, o5⟩, rr, rg, as⟩ := hs
  obtain ⟨⟨hf, hn2, hR⟩, r1, r2, r3, r4⟩ := rr
  obtain ⟨q1, ⟨f, q2, q3, q4, q5⟩, q6⟩ := hR _ (re_mem hj)
  obtain ⟨s1, s2, s3, s4⟩ := r4 _ (re_mem hj)
  exact ⟨⟨f, q2, q3, q4, q5, s2⟩, q6, s3⟩
theorem rSt.org {E : zc_E} {G : zg_G} {ro : zRo} {a c1 c2 : Nat} {lo : np_N} {rs : List zRt} {W : zW} {px : List Int32} {qp : Prop} {nq : Nat × Int32 × np_N × zWs} {th co se : Int32} {tp : List Int32} {v19 v20 : Value} (hs : rSt E G ro a c1 c2 lo rs W px qp nq th tp co se v19 v20) : ∃ h3, rNm E G ro h3 lo ∧ rs.length ≤ 2000 := by
  obtain ⟨h, rfl, rfl, rfl, a1, a2, a3, a4, a5, rr, rg, as⟩ := hs
  exact ⟨h 3, a5, rr.1.2.1⟩
theorem t_Mo_any_s (l : Launch) {E : zc_E} {G : zg_G} {ro : zRo} {a c1 c2 : Nat} {lo : np_N} {rs : List zRt} {W : zW} {px : List Int32} {qp : Prop} {nq : Nat × Int32 × np_N × zWs} {th co se : Int32} {tp : List Int32} {v19 v20 : Value} (hs : rSt E G ro a c1 c2 lo rs W px qp nq th tp co se v19 v20) (b1 : Nat) (ls1 : np_N) (hn1 : rNm E G ro b1 ls1) : zMi l E y_Mo_any c_Mo_any 3 (some .boolean) rm_Mo_any [.ref a, .ref b1] G (fun (r : Int32) G2 => zb r (vD (rVf rs) ls1) ∧ G2 = G) := by
  obtain ⟨h, rfl, rfl, rfl, a1, a2, ⟨fm, a3⟩, a4, ⟨fo, o1, o2, o3, o4, o5⟩, rr, rg, as⟩ := hs
  obtain ⟨f1, n1, n2, n3, n4, n5⟩ := id hn1
  exact (t_Mo_any l E G rs (h 0) (h 1) (h 3) (h 4) (h 6) (h 7) (h 8) (h 9) (h 10) (h 11) (h 12) (h 15) (h 18) th (nI tp.length) (nI (wln W)) co (nI (rPw W + px.length)) se v19 v20 a1 rr.1 b1 ls1 f1 n1 n2 n3).imp (fun r G9 z => ⟨z.1.iff rVf_D.symm, z.2⟩)
theorem t_Mo_has_s (l : Launch) {E : zc_E} {G : zg_G} {ro : zRo} {a c1 c2 : Nat} {lo : np_N} {rs : List zRt} {W : zW} {px : List Int32} {qp : Prop} {nq : Nat × Int32 × np_N × zWs} {th co se : Int32} {tp : List Int32} {v19 v20 : Value} (hs : rSt E G ro a c1 c2 lo rs W px qp nq th tp co se v19 v20) (kk : Nat) (t : Int32) (b1 : Nat) (ls1 : np_N) (hn1 : rNm E G ro b1 ls1) (hkk : kk ≤ ls1.length) : zMi l E y_Mo_has c_Mo_has 5 (some .boolean) rm_Mo_has [.ref a, .ref b1, .int (nI (np_pos ls1 kk)), .int t] G (fun (r : Int32) G2 => zb r ((rVf rs) (ls1.drop kk) t ≠ []) ∧ G2 = G) := by
  obtain ⟨h, rfl, rfl, rfl, a1, a2, ⟨fm, a3⟩, a4, ⟨fo, o1, o2, o3, o4, o5⟩, rr, rg, as⟩ := hs
  obtain ⟨f1, n1, n2, n3, n4, n5⟩ := id hn1
  exact (t_Mo_has l E G rs (h 0) (h 1) (h 3) (h 4) (h 6) (h 7) (h 8) (h 9) (h 10) (h 11) (h 12) (h 15) (h 18) th (nI tp.length) (nI (wln W)) co (nI (rPw W + px.length)) se v19 v20 a1 rr.1 b1 ls1 f1 n1 n2 n3 kk hkk t).imp (fun r G9 z => ⟨z.1.iff rVf_ne.symm, z.2⟩)
theorem t_Mo_there_s (l : Launch) {E : zc_E} {G : zg_G} {ro : zRo} {a c1 c2 : Nat} {lo : np_N} {rs : List zRt} {W : zW} {px : List Int32} {qp : Prop} {nq : Nat × Int32 × np_N × zWs} {th co se : Int32} {tp : List Int32} {v19 v20 : Value} (hs : rSt E G ro a c1 c2 lo rs W px qp nq th tp co se v19 v20) (kk : Nat) (b1 : Nat) (ls1 : np_N) (hn1 : rNm E G ro b1 ls1) (hkk : kk ≤ ls1.length) : zMi l E y_Mo_there c_Mo_there 4 (some .boolean) rm_Mo_there [.ref a, .ref b1, .int (nI (np_pos ls1 kk))] G (fun (r : Int32) G2 => zb r (lo <:+ ls1 ∧ np_len lo ≤ np_len (ls1.drop kk) ∧ vth (rVf rs) (ls1.drop kk)) ∧ G2 = G) := by
  obtain ⟨h, rfl, rfl, rfl, a1, a2, ⟨fm, a3⟩, a4, ⟨fo, o1, o2, o3, o4, o5⟩, rr, rg, as⟩ := hs
  obtain ⟨f1, n1, n2, n3, n4, n5⟩ := id hn1
  exact (t_Mo_there l E G rs (h 0) (h 1) (h 3) (h 4) (h 6) (h 7) (h 8) (h 9) (h 10) (h 11) (h 12) (h 15) (h 18) th (nI tp.length) (nI (wln W)) co (nI (rPw W + px.length)) se v19 v20 a1 rr.1 lo fo o1 o2 o3 b1 ls1 f1 n1 n2 n3 kk hkk).imp (fun r G9 z => ⟨z.1.iff (by rw [rVf_th]), z.2⟩)
theorem t_Mo_cut_s (l : Launch) {E : zc_E} {G : zg_G} {ro : zRo} {a c1 c2 : Nat} {lo : np_N} {rs : List zRt} {W : zW} {px : List Int32} {qp : Prop} {nq : Nat × Int32 × np_N × zWs} {th co se : Int32} {tp : List Int32} {v19 v20 : Value} (hs : rSt E G ro a c1 c2 lo rs W px qp nq th tp co se v19 v20) (kk : Nat) (b1 : Nat) (ls1 : np_N) (hn1 : rNm E G ro b1 ls1) (hkk : kk ≤ ls1.length) : zMi l E y_Mo_cut c_Mo_cut 3 (some .boolean) rm_Mo_cut [.ref a, .ref b1, .int (nI (np_pos ls1 kk))] G (fun (r : Int32) G2 => zb r (zcut lo rs (ls1.drop kk)) ∧ G2 = G) := by
  obtain ⟨h, rfl, rfl, rfl, a1, a2, ⟨fm, a3⟩, a4, ⟨fo, o1, o2, o3, o4, o5⟩, rr, rg, as⟩ := hs
  obtain ⟨f1, n1, n2, n3, n4, n5⟩ := id hn1
  exact (t_Mo_cut l E G rs (h 0) (h 1) (h 3) (h 4) (h 6) (h 7) (h 8) (h 9) (h 10) (h 11) (h 12) (h 15) (h 18) th (nI tp.length) (nI (wln W)) co (nI (rPw W + px.length)) se v19 v20 a1 rr.1 lo fo o1 o2 o3 b1 ls1 f1 n1 n2 n3 kk hkk).imp (fun r G9 z => z)
theorem t_Mo_cutOver_s (l : Launch) {E : zc_E} {G : zg_G} {ro : zRo} {a c1 c2 : Nat} {lo : np_N} {rs : List zRt} {W : zW} {px : List Int32} {qp : Prop} {nq : Nat × Int32 × np_N × zWs} {th co se : Int32} {tp : List Int32} {v19 v20 : Value} (hs : rSt E G ro a c1 c2 lo rs W px qp nq th tp co se v19 v20) (b1 : Nat) (ls1 : np_N) (hn1 : rNm E G ro b1 ls1) : zMi l E y_Mo_cutOver c_Mo_cutOver 4 (some .int) rm_Mo_cutOver [.ref a, .ref b1] G (fun (r : Int32) G2 => ((∃ k, k ≤ ls1.length ∧ vco (rVf rs) lo ls1 = some (ls1.drop k) ∧ r = nI (np_pos ls1 k)) ∨ (vco (rVf rs) lo ls1 = none ∧ r = -1)) ∧ G2 = G) := by
  obtain ⟨h, rfl, rfl, rfl, a1, a2, ⟨fm, a3⟩, a4, ⟨fo, o1, o2, o3, o4, o5⟩, rr, rg, as⟩ := hs
  obtain ⟨f1, n1, n2, n3, n4, n5⟩ := id hn1
  exact (t_Mo_cutOver l E G rs (h 0) (h 1) (h 3) (h 4) (h 6) (h 7) (h 8) (h 9) (h 10) (h 11) (h 12) (h 15) (h 18) th (nI tp.length) (nI (wln W)) co (nI (rPw W + px.length)) se v19 v20 a1 rr.1 lo fo o1 o2 o3 b1 ls1 f1 n1 n2 n3).imp (fun r G9 z => ⟨z.1.elim (fun ⟨k, k1, k2, k3, k4, k5⟩ => Or.inl ⟨ls1.length - k, by omega, rco_y k1 k2 k3 k4, k5⟩) (fun ⟨k1, k2⟩ => Or.inr ⟨rco_n k1, k2⟩), z.2⟩)
theorem t_Mo_away_s (l : Launch) {E : zc_E} {G : zg_G} {ro : zRo} {a c1 c2 : Nat} {lo : np_N} {rs : List zRt} {W : zW} {px : List Int32} {qp : Prop} {nq : Nat × Int32 × np_N × zWs} {th co se : Int32} {tp : List Int32} {v19 v20 : Value} (hs : rSt E G ro a c1 c2 lo rs W px qp nq th tp co se v19 v20) (b1 : Nat) (ls1 : np_N) (hn1 : rNm E G ro b1 ls1) : zMi l E y_Mo_away c_Mo_away 2 (some .boolean) rm_Mo_away [.ref a, .ref b1] G (fun (r : Int32) G2 => zb r (vaw (rVf rs) lo ls1) ∧ G2 = G) := by
  obtain ⟨h, rfl, rfl, rfl, a1, a2, ⟨fm, a3⟩, a4, ⟨fo, o1, o2, o3, o4, o5⟩, rr, rg, as⟩ := hs
  obtain ⟨f1, n1, n2, n3, n4, n5⟩ := id hn1
  exact (t_Mo_away l E G rs (h 0) (h 1) (h 3) (h 4) (h 6) (h 7) (h 8) (h 9) (h 10) (h 11) (h 12) (h 15) (h 18) th (nI tp.length) (nI (wln W)) co (nI (rPw W + px.length)) se v19 v20 a1 rr.1 lo fo o1 o2 o3 b1 ls1 f1 n1 n2 n3).imp (fun r G9 z => ⟨z.1.iff raw_V, z.2⟩)
theorem t_Mo_inChain_s (l : Launch) {E : zc_E} {G : zg_G} {ro : zRo} {a c1 c2 : Nat} {lo : np_N} {rs : List zRt} {W : zW} {px : List Int32} {qp : Prop} {nq : Nat × Int32 × np_N × zWs} {th co se : Int32} {tp : List Int32} {v19 v20 : Value} (hs : rSt E G ro a c1 c2 lo rs W px qp nq th tp co se v19 v20) (b1 : Nat) (ls1 : np_N) (hn1 : rNm E G ro b1 ls1) : zMi l E y_Mo_inChain c_Mo_inChain 2 (some .boolean) rm_Mo_inChain [.ref a, .ref b1] G (fun (r : Int32) G2 => zb r (vch (rVf rs) lo ls1) ∧ G2 = G) := by
  obtain ⟨h, rfl, rfl, rfl, a1, a2, ⟨fm, a3⟩, a4, ⟨fo, o1, o2, o3, o4, o5⟩, rr, rg, as⟩ := hs
  obtain ⟨f1, n1, n2, n3, n4, n5⟩ := id hn1
  exact (t_Mo_inChain l E G rs (h 0) (h 1) (h 3) (h 4) (h 6) (h 7) (h 8) (h 9) (h 10) (h 11) (h 12) (h 15) (h 18) th (nI tp.length) (nI (wln W)) co (nI (rPw W + px.length)) se v19 v20 a1 rr.1 lo fo o1 o2 o3 b1 ls1 f1 n1 n2 n3).imp (fun r G9 z => ⟨z.1.iff rch_V.symm, z.2⟩)
theorem t_Mo_before_s (l : Launch) {E : zc_E} {G : zg_G} {ro : zRo} {a c1 c2 : Nat} {lo : np_N} {rs : List zRt} {W : zW} {px : List Int32} {qp : Prop} {nq : Nat × Int32 × np_N × zWs} {th co se : Int32} {tp : List Int32} {v19 v20 : Value} (hs : rSt E G ro a c1 c2 lo rs W px qp nq th tp co se v19 v20) (b1 : Nat) (ls1 : np_N) (hn1 : rNm E G ro b1 ls1) (hzl : zl lo ls1) : zMq l E y_Mo_before c_Mo_before 5 (some (.array .byte)) rm_Mo_before [.ref a, .ref b1] G (fun (r : Option Nat) G2 => (∃ j, j < rs.length ∧ r = some (rN (re rs j)) ∧ isOv (rVf rs) lo ls1 (rM (re rs j)) ∧ vov (rVf rs) lo ls1 = rM (re rs j)) ∧ G2 = G) := by
  obtain ⟨h, rfl, rfl, rfl, a1, a2, ⟨fm, a3⟩, a4, ⟨fo, o1, o2, o3, o4, o5⟩, rr, rg, as⟩ := hs
  obtain ⟨f1, n1, n2, n3, n4, n5⟩ := id hn1
  exact (t_Mo_before l E G rs (h 0) (h 1) (h 3) (h 4) (h 6) (h 7) (h 8) (h 9) (h 10) (h 11) (h 12) (h 15) (h 18) th (nI tp.length) (nI (wln W)) co (nI (rPw W + px.length)) se v19 v20 a1 rr.1 lo fo o1 o2 o3 b1 ls1 f1 n1 n2 n3 n4).imp (fun r G9 z => ⟨by obtain ⟨j, j1, j2, j3⟩ := rov_y z.1 rg.chain hzl; exact ⟨j, j1, j2, j3, vov_y rg.vgd j3⟩, z.2⟩)
theorem t_Mo_behind_s (l : Launch) {E : zc_E} {G : zg_G} {ro : zRo} {a c1 c2 : Nat} {lo : np_N} {rs : List zRt} {W : zW} {px : List Int32} {qp : Prop} {nq : Nat × Int32 × np_N × zWs} {th co se : Int32} {tp : List Int32} {v19 v20 : Value} (hs : rSt E G ro a c1 c2 lo rs W px qp nq th tp co se v19 v20) (b1 : Nat) (ls1 : np_N) (hn1 : rNm E G ro b1 ls1) : zMq l E y_Mo_behind c_Mo_behind 8 (some (.array .byte)) rm_Mo_behind [.ref a, .ref b1] G (fun (r : Option Nat) G2 => (∃ j, j < rs.length ∧ r = some (rN (re rs j)) ∧ vnx (rVf rs) lo ls1 = rM (re rs j)) ∧ G2 = G) := by
  obtain ⟨h, rfl, rfl, rfl, a1, a2, ⟨fm, a3⟩, a4, ⟨fo, o1, o2, o3, o4, o5⟩, rr, rg, as⟩ := hs
  obtain ⟨f1, n1, n2, n3, n4, n5⟩ := id hn1
  exact (t_Mo_behind l E G rs (h 0) (h 1) (h 3) (h 4) (h 6) (h 7) (h 8) (h 9) (h 10) (h 11) (h 12) (h 15) (h 18) th (nI tp.length) (nI (wln W)) co (nI (rPw W + px.length)) se v19 v20 a1 rr.1 lo fo o1 o2 o3 b1 ls1 f1 n1 n2 n3 n4).imp (fun r G9 z => ⟨by obtain ⟨bo, fo9, z1, z2, z3⟩ := z.1; obtain ⟨j, j1, j2, j3⟩ := rnx_y z3 z1 z2 rg.chain; exact ⟨j, j1, j2, vnx_y rg.vgd j3⟩, z.2⟩)
theorem t_Mo_shown_s (l : Launch) {E : zc_E} {G : zg_G} {ro : zRo} {a c1 c2 : Nat} {lo : np_N} {rs : List zRt} {W : zW} {px : List Int32} {qp : Prop} {nq : Nat × Int32 × np_N × zWs} {th co se : Int32} {tp : List Int32} {v19 v20 : Value} (hs : rSt E G ro a c1 c2 lo rs W px qp nq th tp co se v19 v20) (y t : Int32) (hy : y = 1 ∨ y = 2 ∨ y = 3) (b1 : Nat) (ls1 : np_N) (hn1 : rNm E G ro b1 ls1) : zMi l E y_Mo_shown c_Mo_shown 5 (some .boolean) rm_Mo_shown [.ref a, .int y, .ref b1, .int t] G (fun (r : Int32) G2 => zb r (aHas (wof y W) ls1 t) ∧ G2 = G) := by
  obtain ⟨h, rfl, rfl, rfl, a1, a2, ⟨fm, a3⟩, a4, ⟨fo, o1, o2, o3, o4, o5⟩, rr, rg, as⟩ := hs
  obtain ⟨f1, n1, n2, n3, n4, n5⟩ := id hn1
  obtain ⟨ws, an, pl, ff, fp, p1, p2, p3, p4, p5, p6, p7, p8, p9⟩ := as
  have hwl : wln W = an.length := by rw [← p1, rW_len p2, p3]
  rw [show nI (wln W) = nI an.length by rw [hwl]] at a1
  exact (t_Mo_shown l E G an (rcp (h 40) (wln W)) (h 0) (h 1) (h 3) (h 4) (h 6) (h 7) (h 8) (h 9) (h 10) (h 11) (h 12) (h 15) (h 18) th (nI tp.length) (nI rs.length) co (nI (rPw W + px.length)) se v19 v20 a1 p6.1 y t b1 ls1 f1 n1 n2 n3).imp (fun r G9 z => ⟨z.1.iff (by rw [← p1]; exact rAn_has p8 p3 hy), z.2⟩)
theorem t_Mo_own_s (l : Launch) {E : zc_E} {G : zg_G} {ro : zRo} {a c1 c2 : Nat} {lo : np_N} {rs : List zRt} {W : zW} {px : List Int32} {qp : Prop} {nq : Nat × Int32 × np_N × zWs} {th co se : Int32} {tp : List Int32} {v19 v20 : Value} (hs : rSt E G ro a c1 c2 lo rs W px qp nq th tp co se v19 v20) (t : Int32) (hnq : nq.1 = wln W) (hbd : wln W ≤ 4096) (b1 : Nat) (ls1 : np_N) (hn1 : rNm E G ro b1 ls1) : zMi l E y_Mo_own c_Mo_own 4 (some .boolean) rm_Mo_own [.ref a, .ref b1, .int t] G (fun (r : Int32) G2 => (∃ R : Prop, zb r R ∧ (R → aHas W.1 ls1 t) ∧ (aHas W.1 ls1 t → vD (rVf rs) ls1 → R)) ∧ G2 = G) := by
  obtain ⟨h, rfl, rfl, rfl, a1, a2, ⟨fm, a3⟩, a4, ⟨fo, o1, o2, o3, o4, o5⟩, rr, rg, as⟩ := hs
  obtain ⟨f1, n1, n2, n3, n4, n5⟩ := id hn1
  obtain ⟨ws, an, pl, ff, fp, p1, p2, p3, p4, p5, p6, p7, p8, p9, p10, p11, p12, p13⟩ := as
  have hwl : wln W = an.length := by rw [← p1, rW_len p2, p3]
  rw [show nI (wln W) = nI an.length by rw [hwl]] at a1
  have hR1 : (∃ i, i < an.length ∧ (fun j => aS (ae an j) = 1 ∧ aT (ae an j) = t ∧ aM (ae an j) = ls1 ∧ ff j = 1) i) → aHas W.1 ls1 t := fun ⟨i, hi, e1, e2, e3, e4⟩ => by
    have q := (rAn_has (y := 1) (t := t) (x := ls1) p8 p3 (Or.inl rfl)).mp ⟨_, ae_mem hi, e1, e2, e3⟩
    rw [p1] at q; exact q
  have hR2 : aHas W.1 ls1 t → vD (rVf rs) ls1 → (∃ i, i < an.length ∧ (fun j => aS (ae an j) = 1 ∧ aT (ae an j) = t ∧ aM (ae an j) = ls1 ∧ ff j = 1) i) := fun hh hd => by
    rw [← p1] at hh
    obtain ⟨e, he, e1, e2, e3⟩ := (rAn_has (y := 1) (t := t) (x := ls1) p8 p3 (Or.inl rfl)).mpr hh
    obtain ⟨i, hi, rfl⟩ := List.getElem_of_mem he
    rw [← ae_at hi] at e1 e2 e3
    obtain ⟨q1, q2, -⟩ := p8 i (by omega)
    exact ⟨i, hi, e1, e2, e3, p13.1 i (by omega) (q1.symm.trans e1) (by rw [← q2, e3]; exact hd)⟩
  exact (t_Mo_own l E G an (rcp (h 40) (wln W)) (h 0) (h 1) (h 3) (h 4) (h 6) (h 7) (h 8) (h 9) (h 10) (h 11) (h 12) (h 15) (h 18) th (nI tp.length) (nI rs.length) co (nI (rPw W + px.length)) se v19 v20 a1 p6.1 ff p10.1 (by omega) t b1 ls1 f1 n1 n2 n3).imp (fun r G9 z => ⟨⟨_, z.1, hR1, hR2⟩, z.2⟩)
theorem t_Mo_next_s (l : Launch) {E : zc_E} {G : zg_G} {ro : zRo} {a c1 c2 : Nat} {lo : np_N} {rs : List zRt} {W : zW} {px : List Int32} {qp : Prop} {nq : Nat × Int32 × np_N × zWs} {th co se : Int32} {tp : List Int32} {v19 v20 : Value} (hs : rSt E G ro a c1 c2 lo rs W px qp nq th tp co se v19 v20) (gv : Prop) (u z9 : Int32) (hz : zb z9 gv) (b1 : Nat) (ls1 : np_N) (hn1 : rNm E G ro b1 ls1) : zMi l E y_Mo_next c_Mo_next 7 (some .int) rm_Mo_next [.ref a, .ref b1, .int u, .int z9] G (fun (r : Int32) G2 => rNx (rTy rs ls1 gv rs.length) u r ∧ G2 = G) := by
  obtain ⟨h, rfl, rfl, rfl, a1, a2, ⟨fm, a3⟩, a4, ⟨fo, o1, o2, o3, o4, o5⟩, rr, rg, as⟩ := hs
  obtain ⟨f1, n1, n2, n3, n4, n5⟩ := id hn1
  exact (t_Mo_next l E G rs (h 0) (h 1) (h 3) (h 4) (h 6) (h 7) (h 8) (h 9) (h 10) (h 11) (h 12) (h 15) (h 18) th (nI tp.length) (nI (wln W)) co (nI (rPw W + px.length)) se v19 v20 a1 rr.1 (fun e he => Int32.lt_of_lt_of_le (by decide) (rg.2.2.2.2.2.2 e he).2.2.2.1) b1 ls1 f1 n1 n2 n3 u z9 gv hz).imp (fun r G9 z => z)

