/-! THE WHOLE OBJECT: k as in the asking; 16 the object, 17 the tape -/
def zOb (E : zc_E) (G : zg_G) (ro : zRo) (k : Nat → Nat) (rc ty se : Int32) (os : List zOt) (top : np_N) (d1 d2 d3 : Nat) (t1 t2 t3 : List zTt) (b : Nat) (tp : List Int32) : Prop := zCx E G ro k rc ty se os top d1 d2 d3 t1 t2 t3 ∧ G (k 16) = some (.inr (10, [.ref (k 17), .ref (k 1), .ref (k 0)])) ∧ ro (k 16) = (0, 0) ∧ zTp E G (k 17) b tp ∧ ro (k 17) = (13, 0) ∧ ro b = (13, 1) ∧ tp.length ≤ 65536
/-- the class's roles -/
def zKc (r : Nat × Nat) : Prop := 1 ≤ r.1 ∧ r.1 ≤ 14
theorem zKc_0 : ¬ zKc (0, 0) := fun h => absurd h.1 (by decide)
theorem zKc_z (r : Nat × Nat) (h : zKz r) : zKc r := by
  rcases h with h | h | h
  · exact ⟨h.1, by omega⟩
  · unfold zKc; omega
  · unfold zKc; omega
theorem zKc_b (r : Nat × Nat) (h : zKb r) : zKc r := by
  rcases h with h | h
  · rcases h with h | h <;> unfold zKc <;> omega
  · rw [h]; exact ⟨by decide, by decide⟩
theorem zKc_a (r : Nat × Nat) (h : zKa r) : zKc r := zKc_b r (Or.inl h)
/-- data of other types have no name -/
def zdB (t : Int32) (a : aD) : Prop := ¬ (t = 2 ∨ t = 5 ∨ t = 12 ∨ t = 15 ∨ t = 33) → a.2 = none
def zdx (os : List zOt) : Prop := ∀ x t p, p ∈ zgt os x t → zdB t p.2
/-- the state as others see it: tape, records, origin, how many, the last answering -/
def zOS (E : zc_E) (G : zg_G) (ro : zRo) (xo : Nat) (tp : List Int32) (V : zVt) (top : np_N) (n : Nat) (W : zW) : Prop := ∃ k rc ty se os d1 d2 d3 t1 t2 t3 b, k 16 = xo ∧ zOb E G ro k rc ty se os top d1 d2 d3 t1 t2 t3 b tp ∧ zGZ os top ∧ zdw os ∧ zdx os ∧ rc = nI (znr os) ∧ znr os = n ∧ V = zV os ∧ W = zWt t1 t2 t3
section ZOB
variable {E : zc_E} {G G2 : zg_G} {ro r2 : zRo} {K : Nat × Nat → Prop} {k k2 : Nat → Nat} {rc ty se rc2 ty2 se2 : Int32} {os os2 : List zOt} {top top2 : np_N} {d1 d2 d3 e1 e2 e3 b : Nat} {t1 t2 t3 u1 u2 u3 : List zTt} {tp : List Int32}
theorem zTp.fr {a : Nat} (h : zTp E G a b tp) (h1 : ro a = (13, 0)) (h2 : ro b = (13, 1)) (hf : zfr ro K G r2 G2) (hk : ¬ K (13, 0) ∧ ¬ K (13, 1)) : zTp E G2 a b tp ∧ r2 a = (13, 0) ∧ r2 b = (13, 1) := by
  obtain ⟨q1, n, f, q2, q3⟩ := h
  have p1 := hf _ _ q1 (by rw [h1]; exact hk.1)
  have p2 := hf _ _ q2 (by rw [h2]; exact hk.2)
  exact ⟨⟨p1.1, n, f, p2.1, q3⟩, p1.2.trans h1, p2.2.trans h2⟩
theorem zOb.fr (h : zOb E G ro k rc ty se os top d1 d2 d3 t1 t2 t3 b tp) (hC : zCx E G2 r2 k2 rc2 ty2 se2 os2 top2 e1 e2 e3 u1 u2 u3) (hk0 : k2 0 = k 0) (hk1 : k2 1 = k 1) (hk6 : k2 16 = k 16) (hk7 : k2 17 = k 17) (hf : zfr ro K G r2 G2) (h0 : ¬ K (0, 0)) (h13 : ¬ K (13, 0) ∧ ¬ K (13, 1)) : zOb E G2 r2 k2 rc2 ty2 se2 os2 top2 e1 e2 e3 u1 u2 u3 b tp := by
  obtain ⟨a1, a2, a3, a4, a5, a6, a7⟩ := h
  have p1 := hf _ _ a2 (by rw [a3]; exact h0)
  have p2 := a4.fr a5 a6 hf h13
  exact ⟨hC, by rw [hk0, hk1, hk6, hk7]; exact p1.1, by rw [hk6]; exact p1.2.trans a3, by rw [hk7]; exact p2.1, by rw [hk7]; exact p2.2.1, p2.2.2, a7⟩
theorem zOb.z (h : zOb E G ro k rc ty se os top d1 d2 d3 t1 t2 t3 b tp) (hf : zfr ro (fun _ => False) G r2 G2) (hE0 : G (E.2.2.2 0) = none) (hE : G2 (E.2.2.2 0) = none) : zOb E G2 r2 k rc ty se os top d1 d2 d3 t1 t2 t3 b tp := h.fr (h.1.z hf hE0 hE) rfl rfl rfl rfl hf id ⟨id, id⟩
/-- the zone and the answer keep, where other roles change -/
theorem zCx.kp (h : zCx E G ro k rc ty se os top d1 d2 d3 t1 t2 t3) (hf : zfr ro K G r2 G2) (hE0 : G (E.2.2.2 0) = none) (hE : G2 (E.2.2.2 0) = none) (h0 : ¬ K (0, 0)) (hz : ∀ r, zKz r → ¬ K r) (ha : ∀ r, zKb r → ¬ K r) : zCx E G2 r2 k rc ty se os top d1 d2 d3 t1 t2 t3 := by
  obtain ⟨h1, ⟨a1, a2, a3, a4, a5⟩, h3⟩ := h
  have q := hf _ _ a1 (by rw [a2]; exact ha _ (Or.inr rfl))
  have h8 : ∀ i, ¬ K (8, i) := fun i => ha _ (Or.inl (Or.inl rfl))
  have h9 : ∀ i, ¬ K (9, i) := fun i => ha _ (Or.inl (Or.inr rfl))
  exact ⟨h1.fr hf hE h0 hz, ⟨q.1, q.2.trans a2, a3.fr hf hE0 hE h0 (h8 1) (h9 1), a4.fr hf hE0 hE h0 (h8 2) (h9 2), a5.fr hf hE0 hE h0 (h8 3) (h9 3)⟩, h3⟩
def zK13 (r : Nat × Nat) : Prop := r.1 = 13
theorem zK13_z (r : Nat × Nat) (h : zKz r) : ¬ zK13 r := by
  intro e; unfold zK13 at e
  rcases h with h | h | h <;> omega
theorem zK13_b (r : Nat × Nat) (h : zKb r) : ¬ zK13 r := by
  intro e; unfold zK13 at e
  rcases h with h | h
  · rcases h with h | h <;> omega
  · rw [h] at e; simp at e
theorem zK13_c (r : Nat × Nat) (h : zK13 r) : zKc r := by unfold zK13 at h; unfold zKc; omega
/-- the tape cut -/
theorem zOb.cut (h : zOb E G ro k rc ty se os top d1 d2 d3 t1 t2 t3 b tp) (hE0 : G (E.2.2.2 0) = none) (n : Nat) (hn : n ≤ tp.length) (hE : zg_up G (k 17) (.inr (7, [.ref b, .int (nI n)])) (E.2.2.2 0) = none) : zOb E (zg_up G (k 17) (.inr (7, [.ref b, .int (nI n)]))) ro k rc ty se os top d1 d2 d3 t1 t2 t3 b (tp.take n) ∧ zfr ro zKc G ro (zg_up G (k 17) (.inr (7, [.ref b, .int (nI n)]))) := by
  obtain ⟨a1, a2, a3, ⟨a4, nb, fb, a5, a6, a7, a8, a9, aA⟩, aB, aC, aD⟩ := h
  have hf : zfr ro zK13 G ro (zg_up G (k 17) (.inr (7, [.ref b, .int (nI n)]))) := zfr.up (by rw [aB]; rfl)
  have hl : (tp.take n).length = n := by rw [List.length_take]; omega
  have hne : b ≠ k 17 := fun z => by rw [z, a4] at a5; cases a5
  refine ⟨⟨a1.kp hf hE0 hE (by unfold zK13; simp) zK13_z zK13_b, (hf _ _ a2 (by rw [a3]; unfold zK13; simp)).1, a3, ⟨by rw [hl]; exact zg_up_self _ _ _, nb, fb, by rw [zg_up_ne hne]; exact a5, by omega, a7, a8, fun j hj => ?_, aA⟩, aB, aC, by omega⟩, hf.w zK13_c⟩
  rw [hl] at hj
  rw [a9 j (by omega), List.getD_eq_getElem?_getD, List.getD_eq_getElem?_getD, List.getElem?_take_of_lt hj]
theorem zOb.st (h : zOb E G ro k rc ty se os top d1 d2 d3 t1 t2 t3 b tp) (hGZ : zGZ os top) (hdw : zdw os) (hdx : zdx os) (hrc : rc = nI (znr os)) : zOS E G ro (k 16) tp (zV os) top (znr os) (zWt t1 t2 t3) := ⟨k, rc, ty, se, os, d1, d2, d3, t1, t2, t3, b, rfl, h, hGZ, hdw, hdx, hrc, rfl, rfl, rfl⟩
end ZOB
/-- what state() answers -/
noncomputable def vstt (V : zVt) (top x : np_N) : Int32 := zif (¬ top <:+ x) 0 (zif (¬ vth V x) 1 (zif (¬ vD V x) 2 (zif (vaw V top x) 5 (zif (vco V top x = some x) 4 3))))
