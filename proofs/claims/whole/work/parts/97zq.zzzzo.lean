/-! THE REFERENCE's CALLS AS STEPS -/
def rOm (E : zc_E) (G : zg_G) (ro : zRo) (a c1 c2 : Nat) (rs : List zRt) (A : zA4) (th : Int32) : Prop := rO E G ro a c1 c2 A.2.2.1 rs A.2.2.2 A.1 th ∧ rVf rs = A.2.1
theorem rOm.fr {E : zc_E} {G G2 : zg_G} {ro r2 : zRo} {K : Nat × Nat → Prop} {a c1 c2 : Nat} {rs : List zRt} {A : zA4} {th : Int32} (h : rOm E G ro a c1 c2 rs A th) (hf : zfr ro K G r2 G2) (h0 : ¬ K (0, 0)) (h20 : ∀ i, ¬ K (20, i)) (h21 : ¬ K (21, 0)) : rOm E G2 r2 a c1 c2 rs A th := by
  obtain ⟨⟨co, se, v19, v20, hse, hs⟩, hv⟩ := h
  exact ⟨⟨co, se, v19, v20, hse, hs.fr hf h0 h20 h21⟩, hv⟩
theorem rOm.gd {E : zc_E} {G : zg_G} {ro : zRo} {a c1 c2 : Nat} {rs : List zRt} {A : zA4} {th : Int32} (h : rOm E G ro a c1 c2 rs A th) : rGd A.2.2.1 rs := by
  obtain ⟨⟨co, se, v19, v20, hse, hs⟩, hv⟩ := h
  exact hs.gd
theorem rOm.cs {E : zc_E} {G : zg_G} {ro : zRo} {a c1 c2 : Nat} {rs : List zRt} {A : zA4} {th : Int32} (h : rOm E G ro a c1 c2 rs A th) : 0 < c1 ∧ 0 < c2 := by
  obtain ⟨⟨co, se, v19, v20, hse, hs⟩, hv⟩ := h
  have := hs.cs
  exact ⟨by omega, by omega⟩
theorem rOm.cell {E : zc_E} {G : zg_G} {ro : zRo} {a c1 c2 : Nat} {rs : List zRt} {A : zA4} {th : Int32} (h : rOm E G ro a c1 c2 rs A th) : ∃ fs, G a = some (.inr (11, fs)) ∧ ro a = (20, 0) := by
  obtain ⟨⟨co, se, v19, v20, hse, h, e0, -, -, b1, b2, -⟩, hv⟩ := h
  rw [e0] at b1 b2
  exact ⟨_, b1, b2⟩
theorem t_Mo_thrown_a (l : Launch) {E : zc_E} {G : zg_G} {ro : zRo} {a c1 c2 : Nat} {rs : List zRt} {A : zA4} {th : Int32} (h : rOm E G ro a c1 c2 rs A th) : zMi l E y_Mo_thrown c_Mo_thrown 1 (some .int) rm_Mo_thrown [.ref a] G (fun (r : Int32) (G2 : zg_G) => r = th ∧ G2 = G) := by
  obtain ⟨⟨co, se, v19, v20, hse, h, e0, -, -, b1, b2, -⟩, hv⟩ := h
  rw [e0] at b1
  exact t_Mo_thrown l E G a (h 1) (h 3) (h 4) (h 6) (h 7) (h 8) (h 9) (h 10) (h 11) (h 12) (h 15) (h 18) th _ _ _ _ _ _ _ _ b1
/-- how many records, and what is still to be made of them: n more records, m more bytes -/
def rMo (rs : List zRt) (A : zA4) (rs2 : List zRt) (B : zA4) (n m : Nat) : Prop := rs2.length ≤ rs.length + n ∧ (rNu rs2 + B.1.length ≤ rNu rs + A.1.length + m ∨ rNu rs2 + B.1.length ≤ A.1.length + 21)
/-- behind a call of the reference's: n and m where it was done -/
def rLP (E : zc_E) (ro : zRo) (a c1 c2 : Nat) (G : zg_G) (rs : List zRt) (A : zA4) (s : zStp) (n m : Nat) (r : Int32) (G2 : zg_G) : Prop := ∃ ro2 rs2 B k r9, s k r9 B ∧ (k = 0 → r = r9) ∧ rOm E G2 ro2 a c1 c2 rs2 B k ∧ zfr ro zKr G ro2 G2 ∧ B.2.2.2 = A.2.2.2 ∧ ((k = 0 ∧ rMo rs A rs2 B n m) ∨ (rs2 = rs ∧ B = A))
/-- behind an ask -/
def rLA (E : zc_E) (ro : zRo) (a c1 c2 : Nat) (G : zg_G) (rs : List zRt) (A : zA4) (s : zStp) (r : Int32) (G2 : zg_G) : Prop := ∃ ro2 rs2 B k r9 d1 d2, s k r9 B ∧ (k = 0 → r = r9) ∧ rOm E G2 ro2 a d1 d2 rs2 B k ∧ zfr ro zKr G ro2 G2 ∧ ((k = 0 ∧ d1 = rcp c1 (wln A.2.2.2) ∧ d2 = rcp c2 (rPw A.2.2.2) ∧ rMo rs A rs2 B 0 0) ∨ (d1 = c1 ∧ d2 = c2 ∧ rs2 = rs ∧ B = A))
section RLP
variable {E : zc_E} {G G2 : zg_G} {ro r2 : zRo} {a c1 c2 : Nat} {rs rs2 : List zRt} {A B : zA4} {s : zStp} {n m : Nat} {k r r9 : Int32}
theorem rLP.no (hs : s k r9 A) (hk : k = 0 → False) (hO : rOm E G2 r2 a c1 c2 rs A k) (hf : zfr ro zKr G r2 G2) : rLP E ro a c1 c2 G rs A s n m r G2 := ⟨r2, rs, A, k, r9, hs, fun z => (hk z).elim, hO, hf, rfl, Or.inr ⟨rfl, rfl⟩⟩
theorem rLP.ok (hs : s 0 r B) (hO : rOm E G2 r2 a c1 c2 rs2 B 0) (hf : zfr ro zKr G r2 G2) (hW : B.2.2.2 = A.2.2.2) (hm : rMo rs A rs2 B n m) : rLP E ro a c1 c2 G rs A s n m r G2 := ⟨r2, rs2, B, 0, r, hs, fun _ => rfl, hO, hf, hW, Or.inl ⟨rfl, hm⟩⟩
theorem rMo.z (h1 : rs2.length ≤ rs.length) (h2 : rNu rs2 ≤ rNu rs) (h3 : B.1.length ≤ A.1.length) : rMo rs A rs2 B n m := ⟨by omega, Or.inl (by omega)⟩
end RLP
theorem t_Mo_feed_a (l : Launch) {E : zc_E} {G : zg_G} {ro : zRo} {a c1 c2 : Nat} {rs : List zRt} {A : zA4} {th : Int32} (hO : rOm E G ro a c1 c2 rs A th) (p0 p1 p2 p3 p4 : Int32) : zMi l E y_Mo_feed c_Mo_feed 8 (some .int) (rm_Mo_feed) [.ref a, .int p0, .int p1, .int p2, .int p3, .int p4] G (rLP E ro a c1 c2 G rs A (sFeed p0 p1 p2 p3 p4 A) 0 20) := by
  obtain ⟨tp, V, top, W⟩ := A
  obtain ⟨⟨co, se, v19, v20, hse, hst⟩, hv⟩ := id hO
  dsimp only at hst hv
  subst hv
  refine zMi.imp (t_Mo_feed_s l hst p0 p1 p2 p3 p4) (fun r G2 h => ?_)
  obtain ⟨⟨h1, rfl, h3⟩ | ⟨h1, rfl, h3⟩, hf⟩ := h
  · exact rLP.no (r9 := 0) (Or.inl ⟨h1, rfl, rfl⟩) n10 ⟨h3.o hse, rfl⟩ hf
  · refine rLP.ok (B := (tp ++ zby p0 ++ zby p1 ++ zby p2 ++ zby p3 ++ zby p4, _)) (Or.inr ⟨h1, rfl, rfl, rfl⟩) ⟨h3.o hse, rfl⟩ hf rfl ⟨Nat.le_refl _, Or.inl ?_⟩
    simp only [List.length_append, zby_len]; omega
theorem t_Mo_end_a (l : Launch) {E : zc_E} {G : zg_G} {ro : zRo} {a c1 c2 : Nat} {rs : List zRt} {A : zA4} {th : Int32} (hO : rOm E G ro a c1 c2 rs A th) (p0 : Int32) : zMi l E y_Mo_end c_Mo_end 2 (some .int) (rm_Mo_end) [.ref a, .int p0] G (rLP E ro a c1 c2 G rs A (sEnd p0 A) 0 0) := by
  obtain ⟨tp, V, top, W⟩ := A
  obtain ⟨⟨co, se, v19, v20, hse, hst⟩, hv⟩ := id hO
  dsimp only at hst hv
  subst hv
  refine zMi.imp (t_Mo_end_s l hst p0) (fun r G2 h => ?_)
  obtain ⟨⟨h1, rfl, h3⟩ | ⟨n, h1, h2, h4, h5, rfl, h3⟩, hf⟩ := h
  · exact rLP.no (r9 := 0) (Or.inl ⟨h1, rfl, rfl⟩) n10 ⟨h3.o hse, rfl⟩ hf
  · exact rLP.ok (B := (tp.take n, _)) (Or.inr ⟨n, h1, h2, h4, h5, rfl, rfl, rfl⟩) ⟨h3.o hse, rfl⟩ hf rfl (rMo.z (Nat.le_refl _) (Nat.le_refl _) (by show (tp.take n).length ≤ tp.length; rw [List.length_take]; omega))
theorem t_Mo_origin_a (l : Launch) {E : zc_E} {G : zg_G} {ro : zRo} {a c1 c2 : Nat} {rs : List zRt} {A : zA4} {th : Int32} (hO : rOm E G ro a c1 c2 rs A th) (p0 p1 p2 p3 p4 : Int32) : zMv l E y_Mo_origin c_Mo_origin 14 (rm_Mo_origin A.1.length) [.ref a, .int p0, .int p1, .int p2, .int p3, .int p4] G (rLP E ro a c1 c2 G rs A (sOrg p0 p1 p2 p3 p4 A) 0 0 0) := by
  obtain ⟨tp, V, top, W⟩ := A
  obtain ⟨⟨co, se, v19, v20, hse, hst⟩, hv⟩ := id hO
  dsimp only at hst hv
  subst hv
  refine zMv.imp (t_Mo_origin l E G a c1 c2 ro top rs W th co se hse tp v19 v20 hst p0 p1 p2 p3 p4) (fun G2 h => ?_)
  have h0 := hst.gd.1
  rcases h with ⟨h1, r2, h2, hf⟩ | ⟨h1, r2, rs2, lx, ly, lz, h2, h3, h4, h5, h6, hf⟩
  · exact rLP.no (r9 := 0) (Or.inl ⟨h1, rfl, rfl⟩) n10 ⟨h2, rfl⟩ hf
  · refine rLP.ok (B := ([], _, np_low lx, _)) (Or.inr ⟨h1, rfl, lx, ly, lz, h2, rfl⟩) ⟨h6, h3⟩ hf rfl ⟨by omega, Or.inr ?_⟩
    have hb : (zsD (zlw tp (np_len lx)) 1 p1 p2 p3 p4).length ≤ tp.length + 20 := by unfold zsD zlw; simp [zby_len]
    rw [h5]
    show _ + 0 ≤ tp.length + 21
    omega
theorem t_Mo_put_a (l : Launch) {E : zc_E} {G : zg_G} {ro : zRo} {a c1 c2 : Nat} {rs : List zRt} {A : zA4} {th : Int32} (hO : rOm E G ro a c1 c2 rs A th) (p0 p1 : Int32) (hn9 : rs.length < 2000) : zMi l E y_Mo_put c_Mo_put 4 (some .int) (rm_Mo_put A.1.length) [.ref a, .int p0, .int p1] G (rLP E ro a c1 c2 G rs A (sPut p0 p1 A) 1 1) := by
  obtain ⟨tp, V, top, W⟩ := A
  obtain ⟨⟨co, se, v19, v20, hse, hst⟩, hv⟩ := id hO
  dsimp only at hst hv
  subst hv
  refine zMi.imp (t_Mo_put l E G a c1 c2 ro top rs W th co se hse tp v19 v20 hst hn9 p0 p1) (fun r G2 h => ?_)
  rcases h with ⟨h1, r2, rs2, x, D, h2, h3, h4, h5, hf⟩ | ⟨h1, rfl, r2, h2, hf⟩ | ⟨h1, h3, rfl, r2, h2, hf⟩
  · have hD := h2.ln.1
    rcases h3 with ⟨h6, h7, h8, h9⟩ | ⟨h6, h10, h7, h8, h9⟩
    · exact rLP.ok (B := ([], _, top, _)) (Or.inr (Or.inr ⟨h1, rfl, x, D, h2, Or.inl ⟨h6, rfl⟩, by rw [h4, h7]⟩)) ⟨h5, h7⟩ hf rfl (rMo.z (by omega) (by omega) (Nat.zero_le _))
    · exact rLP.ok (B := ([], _, top, _)) (Or.inr (Or.inr ⟨h1, rfl, x, D, h2, Or.inr ⟨h6, h10, rfl⟩, by rw [h4, h7]⟩)) ⟨h5, h7⟩ hf rfl ⟨by omega, Or.inl (by show _ + 0 ≤ rNu rs + tp.length + 1; omega)⟩
  · exact rLP.no (r9 := 0) (Or.inl ⟨h1, rfl, rfl⟩) n10 ⟨h2, rfl⟩ hf
  · exact rLP.no (r9 := 0) (Or.inr (Or.inl ⟨⟨h1, h3⟩, rfl, rfl⟩)) n30 ⟨h2, rfl⟩ hf
theorem t_Mo_take_a (l : Launch) {E : zc_E} {G : zg_G} {ro : zRo} {a c1 c2 : Nat} {rs : List zRt} {A : zA4} {th : Int32} (hO : rOm E G ro a c1 c2 rs A th) (p0 : Int32) : zMi l E y_Mo_take c_Mo_take 3 (some .int) (rm_Mo_take A.1.length) [.ref a, .int p0] G (rLP E ro a c1 c2 G rs A (sTake p0 A) 0 0) := by
  obtain ⟨tp, V, top, W⟩ := A
  obtain ⟨⟨co, se, v19, v20, hse, hst⟩, hv⟩ := id hO
  dsimp only at hst hv
  subst hv
  refine zMi.imp (t_Mo_take l E G a c1 c2 ro top rs W th co se hse tp v19 v20 hst p0) (fun r G2 h => ?_)
  rcases h with ⟨r2, rs2, x, D, j, h2, h3, h4, rfl, h6, h7, h8, hf⟩ | ⟨h1, rfl, r2, h2, hf⟩ | ⟨h1, rfl, r2, h2, hf⟩
  · exact rLP.ok (B := ([], _, top, _)) (Or.inr (Or.inr ⟨rfl, x, D, j, h2, h3, rfl, rfl⟩)) ⟨h8, h4⟩ hf rfl (rMo.z (by omega) h7 (Nat.zero_le _))
  · exact rLP.no (r9 := 0) (Or.inl ⟨h1, rfl, rfl⟩) n10 ⟨h2, rfl⟩ hf
  · exact rLP.no (r9 := 0) (Or.inr (Or.inl ⟨h1, rfl, rfl⟩)) n20 ⟨h2, rfl⟩ hf
theorem t_Mo_takeAll_a (l : Launch) {E : zc_E} {G : zg_G} {ro : zRo} {a c1 c2 : Nat} {rs : List zRt} {A : zA4} {th : Int32} (hO : rOm E G ro a c1 c2 rs A th) (p0 : Int32) : zMi l E y_Mo_takeAll c_Mo_takeAll 5 (some .int) (rm_Mo_takeAll A.1.length) [.ref a, .int p0] G (rLP E ro a c1 c2 G rs A (sAll p0 A) 0 0) := by
  obtain ⟨tp, V, top, W⟩ := A
  obtain ⟨⟨co, se, v19, v20, hse, hst⟩, hv⟩ := id hO
  dsimp only at hst hv
  subst hv
  refine zMi.imp (t_Mo_takeAll l E G a c1 c2 ro top rs W th co se hse tp v19 v20 hst p0) (fun r G2 h => ?_)
  rcases h with ⟨r2, rs2, ls, n, h1, h2, h3, h4, h5, rfl, h6, h7, h8, hf⟩ | ⟨h1, rfl, r2, h2, hf⟩
  · exact rLP.ok (B := ([], _, top, _)) (Or.inr ⟨rfl, ls, n, h1, h2, h3, h5, rfl, rfl⟩) ⟨h8, h4⟩ hf rfl (rMo.z (by omega) h7 (Nat.zero_le _))
  · exact rLP.no (r9 := 0) (Or.inl ⟨h1, rfl, rfl⟩) n10 ⟨h2, rfl⟩ hf
theorem t_Mo_serial_a (l : Launch) {E : zc_E} {G : zg_G} {ro : zRo} {a c1 c2 : Nat} {rs : List zRt} {A : zA4} {th : Int32} (hO : rOm E G ro a c1 c2 rs A th) (p0 : Int32) : zMi l E y_Mo_serial c_Mo_serial 6 (some .int) (rm_Mo_serial (rB (re rs 0)).length) [.ref a, .int p0] G (rLP E ro a c1 c2 G rs A (sSer p0 A) 0 0) := by
  obtain ⟨tp, V, top, W⟩ := A
  obtain ⟨⟨co, se, v19, v20, hse, hst⟩, hv⟩ := id hO
  dsimp only at hst hv
  subst hv
  refine zMi.imp (t_Mo_serial l E G a c1 c2 ro top rs W th co se hse tp v19 v20 hst p0) (fun r G2 h => ?_)
  obtain ⟨rfl, r2, rs2, h1, h2, h3, h4, hf⟩ := h
  exact rLP.ok (B := (tp, _, top, _)) ⟨rfl, rfl, rfl⟩ ⟨h4, h1⟩ hf rfl (rMo.z (by omega) h3 (Nat.le_refl _))
theorem t_Mo_count_a (l : Launch) {E : zc_E} {G : zg_G} {ro : zRo} {a c1 c2 : Nat} {rs : List zRt} {A : zA4} {th : Int32} (hO : rOm E G ro a c1 c2 rs A th) (p0 : Int32) : zMi l E y_Mo_count c_Mo_count 8 (some .int) (rm_Mo_count) [.ref a, .int p0] G (rLP E ro a c1 c2 G rs A (sCnt p0 A) 0 0) := by
  obtain ⟨tp, V, top, W⟩ := A
  obtain ⟨⟨co, se, v19, v20, hse, hst⟩, hv⟩ := id hO
  dsimp only at hst hv
  subst hv
  refine zMi.imp (t_Mo_count l E G a c1 c2 ro top rs W th co se hse tp v19 v20 hst p0) (fun r G2 h => ?_)
  obtain ⟨h1, h2, hf⟩ := h
  refine rLP.ok (B := (tp, rVf rs, top, W)) ⟨rfl, rfl, ?_⟩ ⟨h2, rfl⟩ hf rfl (rMo.z (Nat.le_refl _) (Nat.le_refl _) (Nat.le_refl _))
  rcases h1 with h1 | ⟨h1, h2⟩ | h1
  · exact Or.inl h1
  · exact Or.inr (Or.inl ⟨h1, rs, rfl, h2⟩)
  · exact Or.inr (Or.inr h1)
theorem t_Mo_records_a (l : Launch) {E : zc_E} {G : zg_G} {ro : zRo} {a c1 c2 : Nat} {rs : List zRt} {A : zA4} {th : Int32} (hO : rOm E G ro a c1 c2 rs A th) (p0 : Int32) : zMi l E y_Mo_records c_Mo_records 4 (some .int) (rm_Mo_records) [.ref a, .int p0] G (rLP E ro a c1 c2 G rs A (sRcs p0 A) 0 0) := by
  obtain ⟨tp, V, top, W⟩ := A
  obtain ⟨⟨co, se, v19, v20, hse, hst⟩, hv⟩ := id hO
  dsimp only at hst hv
  subst hv
  refine zMi.imp (t_Mo_records_s l hst p0) (fun r G2 h => ?_)
  obtain ⟨⟨h1, rfl, h3⟩ | ⟨L, h1, rfl, h3⟩, hf⟩ := h
  · exact rLP.no (r9 := 0) (Or.inl ⟨h1, rfl, rfl⟩) n10 ⟨h3.o hse, rfl⟩ hf
  · exact rLP.ok (B := (tp, rVf rs, top, W)) (Or.inr ⟨rfl, rfl, L, h1, rfl⟩) ⟨h3.o hse, rfl⟩ hf rfl (rMo.z (Nat.le_refl _) (Nat.le_refl _) (Nat.le_refl _))
theorem t_Mo_told_a (l : Launch) {E : zc_E} {G : zg_G} {ro : zRo} {a c1 c2 : Nat} {rs : List zRt} {A : zA4} {th : Int32} (hO : rOm E G ro a c1 c2 rs A th) (p0 p1 p2 : Int32) : zMi l E y_Mo_told c_Mo_told 5 (some .int) (rm_Mo_told) [.ref a, .int p0, .int p1, .int p2] G (rLP E ro a c1 c2 G rs A (sTld p0 p1 p2 A) 0 0) := by
  obtain ⟨tp, V, top, W⟩ := A
  obtain ⟨⟨co, se, v19, v20, hse, hst⟩, hv⟩ := id hO
  dsimp only at hst hv
  subst hv
  refine zMi.imp (t_Mo_told_s l hst p0 p1 p2) (fun r G2 h => ?_)
  obtain ⟨⟨h1, rfl, h3⟩ | ⟨e, h1, ⟨h2, h3⟩ | ⟨h2, rfl, h3⟩⟩, hf⟩ := h
  · exact rLP.no (r9 := 0) (Or.inl ⟨h1, rfl, rfl⟩) n10 ⟨h3.o hse, rfl⟩ hf
  · exact rLP.ok (B := (tp, rVf rs, top, W)) (Or.inr ⟨e, h1, rfl, Or.inl ⟨h2, rfl⟩⟩) ⟨h3.o hse, rfl⟩ hf rfl (rMo.z (Nat.le_refl _) (Nat.le_refl _) (Nat.le_refl _))
  · exact rLP.no (r9 := 0) (Or.inr ⟨e, h1, rfl, Or.inr ⟨h2, rfl⟩⟩) n20 ⟨h3.o hse, rfl⟩ hf
theorem t_Mo_byteOf_a (l : Launch) {E : zc_E} {G : zg_G} {ro : zRo} {a c1 c2 : Nat} {rs : List zRt} {A : zA4} {th : Int32} (hO : rOm E G ro a c1 c2 rs A th) (p0 p1 p2 : Int32) (hI : zIv A) : zMi l E y_Mo_byteOf c_Mo_byteOf 6 (some .int) (rm_Mo_byteOf) [.ref a, .int p0, .int p1, .int p2] G (rLP E ro a c1 c2 G rs A (sByt p0 p1 p2 A) 0 0) := by
  obtain ⟨tp, V, top, W⟩ := A
  obtain ⟨⟨co, se, v19, v20, hse, hst⟩, hv⟩ := id hO
  dsimp only at hst hv
  subst hv
  refine zMi.imp (t_Mo_byteOf l E G a c1 c2 ro top rs W th co se hse tp v19 v20 hst p0 p1 p2 (fun e he => Nat.lt_of_le_of_lt (wDt_rw hI.2.2.2.2.2 he) (by decide))) (fun r G2 h => ?_)
  obtain ⟨⟨h1, rfl, h3⟩ | ⟨e, h1, ⟨i, h2, h4, rfl, h3⟩ | ⟨h2, rfl, h3⟩⟩, hf⟩ := h
  · exact rLP.no (r9 := 0) (Or.inl ⟨h1, rfl, rfl⟩) n10 ⟨h3, rfl⟩ hf
  · exact rLP.ok (B := (tp, rVf rs, top, W)) (Or.inr ⟨e, h1, rfl, Or.inl ⟨rfl, i, h2, h4, rfl⟩⟩) ⟨h3, rfl⟩ hf rfl (rMo.z (Nat.le_refl _) (Nat.le_refl _) (Nat.le_refl _))
  · exact rLP.no (r9 := 0) (Or.inr ⟨e, h1, rfl, Or.inr ⟨rfl, h2⟩⟩) n20 ⟨h3, rfl⟩ hf
theorem t_Mo_state_a (l : Launch) {E : zc_E} {G : zg_G} {ro : zRo} {a c1 c2 : Nat} {rs : List zRt} {A : zA4} {th : Int32} (hO : rOm E G ro a c1 c2 rs A th) : zMi l E y_Mo_state c_Mo_state 2 (some .int) (rm_Mo_state A.1.length) [.ref a] G (rLP E ro a c1 c2 G rs A (sStt A) 0 0) := by
  obtain ⟨tp, V, top, W⟩ := A
  obtain ⟨⟨co, se, v19, v20, hse, hst⟩, hv⟩ := id hO
  dsimp only at hst hv
  subst hv
  refine zMi.imp (t_Mo_state l E G a c1 c2 ro top rs W th co se hse tp v19 v20 hst) (fun r G2 h => ?_)
  rcases h with ⟨h1, rfl, r2, h2, hf⟩ | ⟨r2, ls, h1, rfl, h2, hf⟩
  · exact rLP.no (r9 := 0) (Or.inl ⟨h1, rfl, rfl⟩) n10 ⟨h2, rfl⟩ hf
  · exact rLP.ok (B := ([], _)) (Or.inr ⟨rfl, ls, h1, rfl, rfl⟩) ⟨h2, rfl⟩ hf rfl (rMo.z (Nat.le_refl _) (Nat.le_refl _) (Nat.zero_le _))
theorem t_Mo_ask_a (l : Launch) {E : zc_E} {G : zg_G} {ro : zRo} {a c1 c2 : Nat} {rs : List zRt} {A : zA4} {th : Int32} (hO : rOm E G ro a c1 c2 rs A th) (p0 p1 : Int32) (hu : p1 = 0 ∨ p1 = 1) (hcn : ∀ x, (A.2.1 x 5).length ≤ 1) (c9 n9 : Nat) (hB9 : ¬ p0 < 1 → ¬ 65535 < p0 → ∀ ls, zTn A.1 ls → rBd (rcp c2 (rPw A.2.2.2)) (vask A.2.1 A.2.2.1 (zscu p1) p0 (np_low ls)).2 ∧ rPi (rcp c1 (wln A.2.2.2)) (rcp c2 (rPw A.2.2.2)) (vask A.2.1 A.2.2.1 (zscu p1) p0 (np_low ls)).2 0 - rPi (rcp c1 (wln A.2.2.2)) (rcp c2 (rPw A.2.2.2)) ([], [], []) 0 + 40 + rNc rs ≤ c9 ∧ rPi (rcp c1 (wln A.2.2.2)) (rcp c2 (rPw A.2.2.2)) (vask A.2.1 A.2.2.1 (zscu p1) p0 (np_low ls)).2 0 - rPi (rcp c1 (wln A.2.2.2)) (rcp c2 (rPw A.2.2.2)) ([], [], []) 0 + 2700 + rNu rs ≤ n9) : zMi l E y_Mo_ask c_Mo_ask 7 (some .int) (rm_Mo_ask c9 n9) [.ref a, .int p0, .int p1] G (rLA E ro a c1 c2 G rs A (sAsk p0 p1 A)) := by
  obtain ⟨tp, V, top, W⟩ := A
  obtain ⟨⟨co, se, v19, v20, hse, hst⟩, hv⟩ := id hO
  dsimp only at hst hv
  subst hv
  refine zMi.imp (t_Mo_ask l E G a c1 c2 ro top rs W False (0, 0, [], []) th co se tp v19 v20 hst p0 p1 hu hcn c9 n9 hB9) (fun r G2 h => ?_)
  rcases h with ⟨h1, rfl, r2, h2, hf⟩ | ⟨h1, h2, r2, rs2, ls, nq2, h3, rfl, h4, h5, h6, hf⟩
  · exact ⟨r2, rs, (tp, rVf rs, top, W), 1, 0, c1, c2, Or.inl ⟨h1, rfl, rfl⟩, fun z => (n10 z).elim, ⟨h2.o hse, rfl⟩, hf, Or.inr ⟨rfl, rfl, rfl, rfl⟩⟩
  · exact ⟨r2, rs2, ([], _, top, _), 0, _, _, _, Or.inr ⟨h1, h2, rfl, ls, h3, rfl, rfl⟩, fun _ => rfl, ⟨h4.o hu, h5.V⟩, hf, Or.inl ⟨rfl, rfl, rfl, rMo.z (by rw [h5.len]; exact Nat.le_refl _) h6 (Nat.zero_le _)⟩⟩

