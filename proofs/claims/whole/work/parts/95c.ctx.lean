/-! THE ASKING: zone, answer and sections while a question is answered. k: 0 answer, 1 zone, 2 3 4 sections, 5 6 7 their lists, 8 9 10 how big their rows were, 11 owners' list, 12 origin's Name, 13 start, 14 start's data, 15 owners' row -/
def tV (t : zTt) : aV := (tM t, tT t, tU t, (tB t).2.1)
def zWt (t1 t2 t3 : List zTt) : zW := (t1.map tV, t2.map tV, t3.map tV)
/-- data with a name at its end have it -/
def zdt (t : Int32) (d : zDt) : Prop := (t = 2 ∨ t = 5 ∨ t = 12 ∨ t = 15 ∨ t = 33) → ∃ ls, d.2.2 = some ls ∧ np_enc ls = d.2.1.drop (voff t) ∧ np_g ls
def zdw (os : List zOt) : Prop := ∀ o ∈ os, ∀ s ∈ oX o, ∀ d ∈ sX s, zdt (sT s) d
def zZn (E : zc_E) (G : zg_G) (ro : zRo) (k : Nat → Nat) (rc : Int32) (os : List zOt) (top : np_N) : Prop := G (k 1) = some (.inr (9, [.ref (k 11), .ref (k 12), .ref (k 13), .ref (k 14), .int rc])) ∧ ro (k 1) = (1, 0) ∧ zZR E G ro (k 11) (k 15) os ∧ zNR E G ro (k 12) top ∧ zsa os top 6 (k 13) ∧ ∃ soa u, zBy E G (k 14) soa ∧ ro (k 14) = (0, 0) ∧ zV os top 6 = [(u, soa)] ∧ 20 ≤ soa.length ∧ soa.length < 2 ^ 20
def zAn (E : zc_E) (G : zg_G) (ro : zRo) (k : Nat → Nat) (ty se : Int32) (d1 d2 d3 : Nat) (t1 t2 t3 : List zTt) : Prop := G (k 0) = some (.inr (1, [.ref (k 1), .ref (k 2), .ref (k 3), .ref (k 4), .int ty, .int se])) ∧ ro (k 0) = (14, 0) ∧ zES E G ro (k 2) (k 5) d1 t1 1 (k 8) ∧ zES E G ro (k 3) (k 6) d2 t2 2 (k 9) ∧ zES E G ro (k 4) (k 7) d3 t3 3 (k 10)
def zCx (E : zc_E) (G : zg_G) (ro : zRo) (k : Nat → Nat) (rc ty se : Int32) (os : List zOt) (top : np_N) (d1 d2 d3 : Nat) (t1 t2 t3 : List zTt) : Prop := zZn E G ro k rc os top ∧ zAn E G ro k ty se d1 d2 d3 t1 t2 t3 ∧ ∀ t ∈ t1, zdt (tT t) (tB t)
/-- the roles of the sections -/
def zKa (r : Nat × Nat) : Prop := r.1 = 8 ∨ r.1 = 9
theorem zKa_0 : ¬ zKa (0, 0) := by rintro (h | h) <;> simp at h
theorem zKa_z (r : Nat × Nat) (h : zKz r) : ¬ zKa r := by
  rintro (e | e) <;> rcases h with h | h | h <;> omega
theorem zKs_a {i : Nat} (r : Nat × Nat) (h : zKs i r) : zKa r := by
  rcases h with rfl | rfl
  · exact Or.inl rfl
  · exact Or.inr rfl
section ZCX
variable {E : zc_E} {G G2 : zg_G} {ro r2 : zRo} {K : Nat × Nat → Prop} {k : Nat → Nat} {rc ty se : Int32} {os : List zOt} {top : np_N} {d1 d2 d3 dd : Nat} {t1 t2 t3 ts : List zTt}
theorem zZn.fr (h : zZn E G ro k rc os top) (hf : zfr ro K G r2 G2) (hE : G2 (E.2.2.2 0) = none) (h0 : ¬ K (0, 0)) (hz : ∀ r, zKz r → ¬ K r) : zZn E G2 r2 k rc os top := by
  obtain ⟨a1, a2, a3, a4, a5, soa, u, b1, b2, b3⟩ := h
  have q := hf _ _ a1 (by rw [a2]; exact hz _ (zKz_n (by decide) (by decide)))
  have q2 := b1.fr b2 hf h0
  exact ⟨q.1, q.2.trans a2, a3.fr hf hE h0 hz, a4.fr hf h0, a5, soa, u, q2.1, q2.2, b3⟩
theorem zCx.z (h : zCx E G ro k rc ty se os top d1 d2 d3 t1 t2 t3) (hf : zfr ro (fun _ => False) G r2 G2) (hE0 : G (E.2.2.2 0) = none) (hE : G2 (E.2.2.2 0) = none) : zCx E G2 r2 k rc ty se os top d1 d2 d3 t1 t2 t3 := by
  obtain ⟨h1, ⟨a1, a2, a3, a4, a5⟩, h3⟩ := h
  have q := hf _ _ a1 id
  exact ⟨h1.fr hf hE id (fun _ _ z => z), ⟨q.1, q.2.trans a2, a3.fr hf hE0 hE id id id, a4.fr hf hE0 hE id id id, a5.fr hf hE0 hE id id id⟩, h3⟩
theorem zCx.s1 (h : zCx E G ro k rc ty se os top d1 d2 d3 t1 t2 t3) (hE0 : G (E.2.2.2 0) = none) (hE : G2 (E.2.2.2 0) = none) (hf : zfr ro (zKs 1) G r2 G2) (hs : zES E G2 r2 (k 2) (k 5) dd (t1 ++ ts) 1 (k 8)) (hd : ∀ t ∈ ts, zdt (tT t) (tB t)) : zCx E G2 r2 k rc ty se os top dd d2 d3 (t1 ++ ts) t2 t3 := by
  obtain ⟨h1, ⟨a1, a2, a3, a4, a5⟩, h3⟩ := h
  have q := hf _ _ a1 (by rw [a2]; rintro (z | z) <;> simp at z)
  exact ⟨h1.fr hf hE zKs_0 zKs_z, ⟨q.1, q.2.trans a2, hs, a4.fr hf hE0 hE zKs_0 (zKs_ne (by decide)).1 (zKs_ne (by decide)).2, a5.fr hf hE0 hE zKs_0 (zKs_ne (by decide)).1 (zKs_ne (by decide)).2⟩, fun t ht => (List.mem_append.mp ht).elim (h3 t) (hd t)⟩
theorem zCx.s2 (h : zCx E G ro k rc ty se os top d1 d2 d3 t1 t2 t3) (hE0 : G (E.2.2.2 0) = none) (hE : G2 (E.2.2.2 0) = none) (hf : zfr ro (zKs 2) G r2 G2) (hs : zES E G2 r2 (k 3) (k 6) dd (t2 ++ ts) 2 (k 9)) : zCx E G2 r2 k rc ty se os top d1 dd d3 t1 (t2 ++ ts) t3 := by
  obtain ⟨h1, ⟨a1, a2, a3, a4, a5⟩, h3⟩ := h
  have q := hf _ _ a1 (by rw [a2]; rintro (z | z) <;> simp at z)
  exact ⟨h1.fr hf hE zKs_0 zKs_z, ⟨q.1, q.2.trans a2, a3.fr hf hE0 hE zKs_0 (zKs_ne (by decide)).1 (zKs_ne (by decide)).2, hs, a5.fr hf hE0 hE zKs_0 (zKs_ne (by decide)).1 (zKs_ne (by decide)).2⟩, h3⟩
theorem zCx.s3 (h : zCx E G ro k rc ty se os top d1 d2 d3 t1 t2 t3) (hE0 : G (E.2.2.2 0) = none) (hE : G2 (E.2.2.2 0) = none) (hf : zfr ro (zKs 3) G r2 G2) (hs : zES E G2 r2 (k 4) (k 7) dd (t3 ++ ts) 3 (k 10)) : zCx E G2 r2 k rc ty se os top d1 d2 dd t1 t2 (t3 ++ ts) := by
  obtain ⟨h1, ⟨a1, a2, a3, a4, a5⟩, h3⟩ := h
  have q := hf _ _ a1 (by rw [a2]; rintro (z | z) <;> simp at z)
  exact ⟨h1.fr hf hE zKs_0 zKs_z, ⟨q.1, q.2.trans a2, a3.fr hf hE0 hE zKs_0 (zKs_ne (by decide)).1 (zKs_ne (by decide)).2, a4.fr hf hE0 hE zKs_0 (zKs_ne (by decide)).1 (zKs_ne (by decide)).2, hs⟩, h3⟩
end ZCX
/-! the room that an asking takes -/
def zlc (os : List zOt) (x : np_N) : Nat := 36 * (((os.filter (fun o => decide (oM o = x))).map (fun o => (oX o).length)).sum + 2) + 260
def zL47 (os : List zOt) (L : List aV) : Nat := ((L.filter (fun e => decide (e.2.1 = 47))).map (fun e => zlc os e.1)).sum
def zPh (os : List zOt) (k : Nat → Nat) (W : zW) : Nat := 4 * (W.1.length + W.2.1.length + W.2.2.length) + 4 * (zcp (k 8) W.1.length + zcp (k 9) W.2.1.length + zcp (k 10) W.2.2.length) + zL47 os W.2.1
def zPc (W : zW) : Nat := 2 * (W.1.length + W.2.1.length + W.2.2.length) + 6 * (W.2.1.filter (fun e => decide (e.2.1 = 47))).length
/-- no section is too long -/
def zB9 (W : zW) : Prop := W.1.length < 2000 ∧ W.2.1.length < 2000 ∧ W.2.2.length < 2000
/-- the second has all rows of the first -/
def zLe (W X : zW) : Prop := W.1 <+: X.1 ∧ W.2.1 <+: X.2.1 ∧ W.2.2 <+: X.2.2
theorem zLe.rf (W : zW) : zLe W W := ⟨List.prefix_rfl, List.prefix_rfl, List.prefix_rfl⟩
theorem zLe.tr {W X Y : zW} (h : zLe W X) (h2 : zLe X Y) : zLe W Y := ⟨h.1.trans h2.1, h.2.1.trans h2.2.1, h.2.2.trans h2.2.2⟩
theorem zLe.w1 (W : zW) (L : List aV) : zLe W (w1 W L) := ⟨List.prefix_append _ _, List.prefix_rfl, List.prefix_rfl⟩
theorem zLe.w2 (W : zW) (L : List aV) : zLe W (w2 W L) := ⟨List.prefix_rfl, List.prefix_append _ _, List.prefix_rfl⟩
theorem zLe.w3 (W : zW) (L : List aV) : zLe W (w3 W L) := ⟨List.prefix_rfl, List.prefix_rfl, List.prefix_append _ _⟩
theorem zB9.le {W X : zW} (h : zB9 X) (hl : zLe W X) : zB9 W := ⟨Nat.lt_of_le_of_lt hl.1.length_le h.1, Nat.lt_of_le_of_lt hl.2.1.length_le h.2.1, Nat.lt_of_le_of_lt hl.2.2.length_le h.2.2⟩
theorem zL47_app (os : List zOt) (L M : List aV) : zL47 os (L ++ M) = zL47 os L + zL47 os M := by
  unfold zL47
  rw [List.filter_append, List.map_append, List.sum_append]
theorem zPh_le {os : List zOt} {k : Nat → Nat} {W X : zW} (h : zLe W X) : zPh os k W ≤ zPh os k X := by
  obtain ⟨h1, h2, h3⟩ := h
  have a1 := zcp_mono2 (k 8) h1.length_le
  have a2 := zcp_mono2 (k 9) h2.length_le
  have a3 := zcp_mono2 (k 10) h3.length_le
  have l1 := h1.length_le
  have l2 := h2.length_le
  have l3 := h3.length_le
  have b : zL47 os W.2.1 ≤ zL47 os X.2.1 := by
    obtain ⟨M, e⟩ := h2
    rw [← e, zL47_app]; omega
  unfold zPh
  omega
theorem zPc_le {W X : zW} (h : zLe W X) : zPc W ≤ zPc X := by
  obtain ⟨h1, h2, h3⟩ := h
  have l1 := h1.length_le
  have l2 := h2.length_le
  have l3 := h3.length_le
  have b : (W.2.1.filter (fun e => decide (e.2.1 = 47))).length ≤ (X.2.1.filter (fun e => decide (e.2.1 = 47))).length := by
    obtain ⟨M, e⟩ := h2
    rw [← e, List.filter_append, List.length_append]; omega
  unfold zPc
  omega
theorem zPh_1 {os : List zOt} {k : Nat → Nat} {W : zW} {L : List aV} {n : Nat} (hn : L.length = n) : zPh os k W + (4 * n + 4 * (zcp (k 8) (W.1.length + n) - zcp (k 8) W.1.length)) ≤ zPh os k (w1 W L) := by
  have a := zcp_mono2 (k 8) (show W.1.length ≤ W.1.length + n by omega)
  unfold zPh w1
  dsimp only
  rw [List.length_append, hn]; omega
theorem zPh_2 {os : List zOt} {k : Nat → Nat} {W : zW} {L : List aV} {n : Nat} (hn : L.length = n) : zPh os k W + (4 * n + 4 * (zcp (k 9) (W.2.1.length + n) - zcp (k 9) W.2.1.length)) ≤ zPh os k (w2 W L) := by
  have a := zcp_mono2 (k 9) (show W.2.1.length ≤ W.2.1.length + n by omega)
  unfold zPh w2
  dsimp only
  rw [List.length_append, hn, zL47_app]; omega
theorem zPh_3 {os : List zOt} {k : Nat → Nat} {W : zW} {L : List aV} {n : Nat} (hn : L.length = n) : zPh os k W + (4 * n + 4 * (zcp (k 10) (W.2.2.length + n) - zcp (k 10) W.2.2.length)) ≤ zPh os k (w3 W L) := by
  have a := zcp_mono2 (k 10) (show W.2.2.length ≤ W.2.2.length + n by omega)
  unfold zPh w3
  dsimp only
  rw [List.length_append, hn]; omega
theorem zPc_1 {W : zW} {L : List aV} {n : Nat} (hn : L.length = n) : zPc W + 2 * n ≤ zPc (w1 W L) := by
  unfold zPc w1
  dsimp only
  rw [List.length_append, hn]; omega
theorem zPc_2 {W : zW} {L : List aV} {n : Nat} (hn : L.length = n) : zPc W + 2 * n ≤ zPc (w2 W L) := by
  unfold zPc w2
  dsimp only
  rw [List.length_append, hn, List.filter_append, List.length_append]; omega
theorem zPc_3 {W : zW} {L : List aV} {n : Nat} (hn : L.length = n) : zPc W + 2 * n ≤ zPc (w3 W L) := by
  unfold zPc w3
  dsimp only
  rw [List.length_append, hn]; omega
/-- one link more -/
theorem zPh_k {os : List zOt} {k : Nat → Nat} {W : zW} {e : aV} (he : e.2.1 = 47) : zPh os k W + 4 + zce (k 9) W.2.1.length + zlc os e.1 ≤ zPh os k (w2 W [e]) := by
  have a := zce_le (k 9) W.2.1.length
  have b : zL47 os [e] = zlc os e.1 := by
    unfold zL47
    rw [List.filter_cons, if_pos (by rw [he]; rfl)]
    show zlc os e.1 + 0 = _
    omega
  unfold zPh w2
  dsimp only
  rw [List.length_append, zL47_app, b, show ([e] : List aV).length = 1 from rfl]; omega
theorem zPc_k {W : zW} {e : aV} (he : e.2.1 = 47) : zPc W + 8 ≤ zPc (w2 W [e]) := by
  have b : (List.filter (fun e => decide (e.2.1 = 47)) [e]).length = 1 := by
    rw [List.filter_cons, if_pos (by rw [he]; rfl)]; rfl
  unfold zPc w2
  dsimp only
  rw [List.length_append, List.filter_append, List.length_append, b, show ([e] : List aV).length = 1 from rfl]; omega
theorem zlc_ge {os : List zOt} {j : Nat} (h : j < os.length) : 36 * ((oX (oe os j)).length + 2) + 260 ≤ zlc os (oM (oe os j)) := by
  unfold zlc
  have := zsum_le (fun o : zOt => (oX o).length) (List.mem_filter.mpr ⟨oe_mem h, by simp⟩ : oe os j ∈ os.filter (fun o => decide (oM o = oM (oe os j))))
  omega
/-! how far each piece goes -/
section ZLE
variable (V : zVt) (top : np_N) (sec : Bool)
theorem zif_le {P : Prop} {W X Y : zW} (h1 : zLe W X) (h2 : zLe W Y) : zLe W (zif P X Y) := by
  by_cases h : P
  · rw [zif_y h]; exact h1
  · rw [zif_n h]; exact h2
theorem vpr_le (W : zW) (x : np_N) : zLe W (vpr V top sec W x) := zif_le (zLe.w2 _ _) (zLe.rf _)
theorem vst_le (W : zW) : zLe W (vst V top W) := zLe.w2 _ _
theorem vad_le (W : zW) (x : np_N) (t : Int32) : zLe W (vad V W x t) := zif_le (zLe.rf _) (zLe.w3 _ _)
theorem vao_le (W : zW) (x : np_N) : zLe W (vao V W x) := (vad_le V W x 1).tr (vad_le V _ x 28)
theorem vfold_le {α : Type} (f : zW → α → zW) (hf : ∀ W a, zLe W (f W a)) (xs : List α) (W : zW) : zLe W (xs.foldl f W) := by
  induction xs generalizing W with
  | nil => exact zLe.rf _
  | cons a xs ih => exact (hf W a).tr (ih _)
theorem vrf1_le (W : zW) (c : np_N) : zLe W (vrf1 V top sec W c) := by
  unfold vrf1
  split
  · exact (zLe.w2 _ _).tr (vpr_le V top sec _ _)
  · split
    · exact (zLe.w2 _ _).tr (zLe.w2 _ _)
    · exact zLe.w2 _ _
theorem vrf_le (W : zW) (c : np_N) : zLe W (vrf V top sec W c) := (vrf1_le V top sec W c).tr (vfold_le _ (fun W p => vao_le V W _) _ _)
theorem vdn_le (W : zW) (x f : np_N) : zLe W (vdn V top sec W x f) := ((vst_le V top W).tr (vpr_le V top sec _ _)).tr (vpr_le V top sec _ _)
end ZLE
