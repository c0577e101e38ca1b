/-! THE REFERENCE'S STATE. h: addresses by field; 40 how big the rows of answers were as the asking began, 41 the pool. Roles: (20, i) the rows, (21, 0) the records; names and data are never written: (0, 0) -/
def rNm (E : zc_E) (G : zg_G) (ro : zRo) (q : Nat) (ls : np_N) : Prop := ∃ f, G q = some (.inl (E.2.1 0, np_len ls, .inl f)) ∧ np_f ls f ∧ np_g ls ∧ sb_Fit f ∧ ro q = (0, 0)
/-- the records -/
def rRs (E : zc_E) (G : zg_G) (ro : zRo) (m4 : Nat) (rs : List zRt) : Prop := zRS E G m4 rs ∧ ro m4 = (20, 4) ∧ (rs.map rA).Nodup ∧ (rs.map rD).Nodup ∧ ∀ e ∈ rs, ro (rA e) = (21, 0) ∧ ro (rN e) = (0, 0) ∧ ro (rD e) = (0, 0) ∧ (rV e = .null ∨ ∃ q, rV e = .ref q ∧ zBy E G q ((rB e).drop (voff (rT e))) ∧ ro q = (0, 0) ∧ rT e ≠ 6)
/-- the answers: section and row -/
abbrev zWs : Type := List (Int32 × aV)
def we (ws : zWs) (i : Nat) : Int32 × aV := ws.getD i (0, [], 0, 0, [])
theorem we_at {ws : zWs} {i : Nat} (h : i < ws.length) : we ws i = ws[i] := by
  unfold we
  rw [List.getD_eq_getElem?_getD, List.getElem?_eq_getElem h]
  rfl
theorem we_mem {ws : zWs} {i : Nat} (h : i < ws.length) : we ws i ∈ ws := by rw [we_at h]; exact List.getElem_mem h
def wsel (s : Int32) (ws : zWs) : List aV := (ws.filter (fun p => decide (p.1 = s))).map (·.2)
def rW (ws : zWs) : zW := (wsel 1 ws, wsel 2 ws, wsel 3 ws)
def wln (W : zW) : Nat := W.1.length + W.2.1.length + W.2.2.length
def wl47 (L : List aV) : Nat := ((L.filter (fun e => decide (e.2.1 = 47))).map (fun e => e.2.2.2.length)).sum
/-- how many bytes of the pool the answers have -/
def rPw (W : zW) : Nat := wl47 W.1 + wl47 W.2.1 + wl47 W.2.2
def s123 (ws : zWs) : Prop := ∀ p ∈ ws, p.1 = 1 ∨ p.1 = 2 ∨ p.1 = 3
theorem wsel_app (s : Int32) (a b : zWs) : wsel s (a ++ b) = wsel s a ++ wsel s b := by
  unfold wsel
  rw [List.filter_append, List.map_append]
theorem wsel_1 (s : Int32) (e : aV) : wsel s [(s, e)] = [e] := by
  unfold wsel
  rw [List.filter_cons_of_pos (by simp)]; rfl
theorem wsel_0 {s t : Int32} (e : aV) (h : t ≠ s) : wsel s [(t, e)] = [] := by
  unfold wsel
  rw [List.filter_cons_of_neg (by simpa using h)]; rfl
theorem rW_1 (ws : zWs) (e : aV) : rW (ws ++ [(1, e)]) = w1 (rW ws) [e] := by
  unfold rW w1
  rw [wsel_app, wsel_app, wsel_app, wsel_1, wsel_0 e (by decide), wsel_0 e (by decide), List.append_nil, List.append_nil]
theorem rW_2 (ws : zWs) (e : aV) : rW (ws ++ [(2, e)]) = w2 (rW ws) [e] := by
  unfold rW w2
  rw [wsel_app, wsel_app, wsel_app, wsel_1, wsel_0 e (by decide), wsel_0 e (by decide), List.append_nil, List.append_nil]
theorem rW_3 (ws : zWs) (e : aV) : rW (ws ++ [(3, e)]) = w3 (rW ws) [e] := by
  unfold rW w3
  rw [wsel_app, wsel_app, wsel_app, wsel_1, wsel_0 e (by decide), wsel_0 e (by decide), List.append_nil, List.append_nil]
/-- one more row in that section -/
def wad (s : Int32) (W : zW) (L : List aV) : zW := if s = 1 then w1 W L else if s = 2 then w2 W L else w3 W L
theorem rW_s {s : Int32} (ws : zWs) (e : aV) (h : s = 1 ∨ s = 2 ∨ s = 3) : rW (ws ++ [(s, e)]) = wad s (rW ws) [e] := by
  rcases h with rfl | rfl | rfl
  · exact rW_1 ws e
  · exact rW_2 ws e
  · exact rW_3 ws e
theorem wad_nil (s : Int32) (W : zW) : wad s W [] = W := by
  unfold wad w1 w2 w3
  split
  · rw [List.append_nil]
  · split <;> rw [List.append_nil]
theorem wad_app (s : Int32) (W : zW) (L M : List aV) : wad s (wad s W L) M = wad s W (L ++ M) := by
  unfold wad w1 w2 w3
  split
  · rw [List.append_assoc]
  · split <;> rw [List.append_assoc]
theorem wln_ad (s : Int32) (W : zW) (L : List aV) : wln (wad s W L) = wln W + L.length := by
  unfold wad wln w1 w2 w3
  split
  · show (W.1 ++ L).length + W.2.1.length + W.2.2.length = _; rw [List.length_append]; omega
  · split
    · show W.1.length + (W.2.1 ++ L).length + W.2.2.length = _; rw [List.length_append]; omega
    · show W.1.length + W.2.1.length + (W.2.2 ++ L).length = _; rw [List.length_append]; omega
theorem wl47_app (L M : List aV) : wl47 (L ++ M) = wl47 L + wl47 M := by
  unfold wl47
  rw [List.filter_append, List.map_append, List.sum_append]
theorem rPw_ad (s : Int32) (W : zW) (L : List aV) : rPw (wad s W L) = rPw W + wl47 L := by
  unfold wad rPw w1 w2 w3
  split
  · show wl47 (W.1 ++ L) + wl47 W.2.1 + wl47 W.2.2 = _; rw [wl47_app]; omega
  · split
    · show wl47 W.1 + wl47 (W.2.1 ++ L) + wl47 W.2.2 = _; rw [wl47_app]; omega
    · show wl47 W.1 + wl47 W.2.1 + wl47 (W.2.2 ++ L) = _; rw [wl47_app]; omega
theorem wl47_0 {L : List aV} (h : ∀ e ∈ L, e.2.1 ≠ 47) : wl47 L = 0 := by
  unfold wl47
  rw [List.filter_eq_nil_iff.mpr (fun e he hd => h e he (of_decide_eq_true hd))]; rfl
theorem wl47_1 (x : np_N) (u : Int32) (D : List Int32) : wl47 [(x, 47, u, D)] = D.length := by
  unfold wl47
  rw [List.filter_cons_of_pos (by simp)]
  show D.length + 0 = _
  omega
theorem rW_len : ∀ {ws : zWs}, s123 ws → wln (rW ws) = ws.length := by
  intro ws
  induction ws with
  | nil => intro _; rfl
  | cons p ws ih =>
    intro h
    have h1 := ih (fun q hq => h q (List.mem_cons_of_mem _ hq))
    have e : p :: ws = [(p.1, p.2)] ++ ws := rfl
    have h3 : ∀ s, (wsel s (p :: ws)).length = (wsel s [(p.1, p.2)]).length + (wsel s ws).length := fun s => by rw [e, wsel_app, List.length_append]
    show (wsel 1 (p :: ws)).length + (wsel 2 (p :: ws)).length + (wsel 3 (p :: ws)).length = ws.length + 1
    rw [h3, h3, h3, ← h1]
    show _ = (wsel 1 ws).length + (wsel 2 ws).length + (wsel 3 ws).length + 1
    rcases h p List.mem_cons_self with q | q | q <;> rw [q]
    · rw [wsel_1, wsel_0 _ (by decide), wsel_0 _ (by decide)]; show 1 + _ + (0 + _) + (0 + _) = _; omega
    · rw [wsel_1, wsel_0 _ (by decide), wsel_0 _ (by decide)]; show 0 + _ + (1 + _) + (0 + _) = _; omega
    · rw [wsel_1, wsel_0 _ (by decide), wsel_0 _ (by decide)]; show 0 + _ + (0 + _) + (1 + _) = _; omega
theorem wsel_mem {s : Int32} {ws : zWs} {e : aV} : e ∈ wsel s ws ↔ (s, e) ∈ ws := by
  unfold wsel
  rw [List.mem_map]
  constructor
  · rintro ⟨⟨a, b⟩, h, rfl⟩
    obtain ⟨h1, h2⟩ := List.mem_filter.mp h
    have e : a = s := of_decide_eq_true h2
    rw [← e]; exact h1
  · intro h
    exact ⟨(s, e), List.mem_filter.mpr ⟨h, by simp⟩, rfl⟩
/-- what the rows hold of one answer -/
def rAw (E : zc_E) (G : zg_G) (ro : zRo) (pl : List Int32) (e : zAt) (w : Int32 × aV) : Prop := aS e = w.1 ∧ aM e = w.2.1 ∧ aT e = w.2.2.1 ∧ aU e = w.2.2.2.1 ∧ ((∃ q, aR e = some q ∧ aI e = 0 ∧ aZ e = w.2.2.2.2.length ∧ zBy E G q w.2.2.2.2 ∧ ro q = (0, 0)) ∨ (aR e = none ∧ aI e + aZ e ≤ pl.length ∧ w.2.2.2.2 = (pl.drop (aI e)).take (aZ e)))
/-- the rows of answers, with their roles -/
def rAN (E : zc_E) (G : zg_G) (ro : zRo) (h : Nat → Nat) (cap : Nat) (an : List zAt) : Prop := zAN E G (h 6) (h 7) (h 8) (h 9) (h 10) (h 11) (h 12) cap an ∧ (∀ i, 6 ≤ i → i ≤ 12 → ro (h i) = (20, i)) ∧ ∀ i, i = 11 ∨ i = 12 → ∀ n f, G (h i) = some (.inl (E.2.1 5, n, .inr (.inr (.inr (.inr f))))) → ∀ j v, f j = some v → ro v = (0, 0)
/-- all of the last answering: px lies in the pool behind it; q: the rows of section 1 are those of the records now; the first nq.1 are marked, the others are of section nq.2.1 and told of nq.2.2.1; nq.2.2.2 were there first -/
def rAs (E : zc_E) (G : zg_G) (ro : zRo) (h : Nat → Nat) (rs : List zRt) (W : zW) (px : List Int32) (q : Prop) (nq : Nat × Int32 × np_N × zWs) : Prop := ∃ (ws : zWs) (an : List zAt) (pl : List Int32) (ff fp : Nat → Int32), rW ws = W ∧ s123 ws ∧ an.length = ws.length ∧ pl.length = rPw W ∧ True ∧ rAN E G ro h (rcp (h 40) (wln W)) an ∧ 7 ≤ h 40 ∧ (∀ i, i < ws.length → rAw E G ro pl (ae an i) (we ws i)) ∧
  (G (h 15) = some (.inl (E.2.1 0, rcp (h 41) (rPw W + px.length), .inl fp)) ∧ 1 ≤ h 41 ∧ rcp (h 41) (rPw W + px.length) ≤ 2 ^ 20 ∧ (∀ j, j < rPw W + px.length → fp j = (pl ++ px).getD j 0) ∧ sb_Fit fp ∧ ro (h 15) = (20, 15)) ∧
  (G (h 18) = some (.inl (E.2.1 0, 4096, .inl ff)) ∧ sb_Fit ff ∧ ro (h 18) = (20, 18)) ∧
  (q → ∀ i, i < ws.length → (we ws i).1 = 1 → ∃ e ∈ rs, aR (ae an i) = some (rD e) ∧ rT e = aT (ae an i)) ∧
  nq.1 ≤ ws.length ∧ (∀ i, i < nq.1 → (we ws i).1 = 1 → vD (rVf rs) (we ws i).2.1 → ff i = 1) ∧ (q → ∀ i, nq.1 ≤ i → i < ws.length → (we ws i).1 = nq.2.1 ∧ (we ws i).2.1 = nq.2.2.1) ∧ nq.2.2.2 <+: ws
/-- the reference -/
def rCx (E : zc_E) (G : zg_G) (ro : zRo) (h : Nat → Nat) (lo : np_N) (rs : List zRt) (W : zW) (px : List Int32) (q : Prop) (nq : Nat × Int32 × np_N × zWs) (th : Int32) (tp : List Int32) (co se : Int32) (v19 v20 : Value) : Prop :=
  G (h 0) = some (.inr (11, [.int th, .ref (h 1), .int (nI tp.length), .ref (h 3), .ref (h 4), .int (nI rs.length), .ref (h 6), .ref (h 7), .ref (h 8), .ref (h 9), .ref (h 10), .ref (h 11), .ref (h 12), .int (nI (wln W)), .int co, .ref (h 15), .int (nI (rPw W + px.length)), .int se, .ref (h 18), v19, v20])) ∧ ro (h 0) = (20, 0) ∧
  (∃ fm, G (h 1) = some (.inl (E.2.1 0, 65536, .inl fm)) ∧ (∀ j, j < tp.length → fm j = tp.getD j 0) ∧ sb_Fit fm ∧ ro (h 1) = (20, 1)) ∧ tp.length ≤ 65536 ∧
  rNm E G ro (h 3) lo ∧ rRs E G ro (h 4) rs ∧ rGd lo rs ∧ rAs E G ro h rs W px q nq
/-- the reference's roles -/
def zKr (r : Nat × Nat) : Prop := r.1 = 20 ∨ r.1 = 21
theorem zKr_0 : ¬ zKr (0, 0) := by rintro (h | h) <;> simp at h
section RCX
variable {E : zc_E} {G G2 : zg_G} {ro r2 : zRo} {K : Nat × Nat → Prop} {h : Nat → Nat} {lo : np_N} {rs : List zRt} {W : zW} {px : List Int32} {q : Prop} {nq : Nat × Int32 × np_N × zWs} {th co se : Int32} {tp : List Int32} {v19 v20 : Value}
theorem rNm.fr {b : Nat} {ls : np_N} (hn : rNm E G ro b ls) (hf : zfr ro K G r2 G2) (h0 : ¬ K (0, 0)) : rNm E G2 r2 b ls := by
  obtain ⟨f, a1, a2, a3, a4, a5⟩ := hn
  have q := hf _ _ a1 (by rw [a5]; exact h0)
  exact ⟨f, q.1, a2, a3, a4, q.2.trans a5⟩
theorem rNm.fn {b : Nat} {ls : np_N} (hn : rNm E G ro b ls) : zfn ls ∧ np_g ls := by
  obtain ⟨f, a1, a2, a3, a4, a5⟩ := hn
  exact ⟨zfn_of a2 a4, a3⟩
theorem rRR_fr {e : zRt} (hr : zRR E G e) (r1 : ro (rA e) = (21, 0)) (rn : ro (rN e) = (0, 0)) (rd : ro (rD e) = (0, 0)) (hf : zfr ro K G r2 G2) (h0 : ¬ K (0, 0)) (h21 : ¬ K (21, 0)) : zRR E G2 e ∧ r2 (rA e) = (21, 0) ∧ r2 (rN e) = (0, 0) ∧ r2 (rD e) = (0, 0) := by
  obtain ⟨a1, ⟨f, a2, a3⟩, a4⟩ := hr
  have q1 := hf _ _ a1 (by rw [r1]; exact h21)
  have q2 := hf _ _ a2 (by rw [rn]; exact h0)
  have q3 := a4.fr rd hf h0
  exact ⟨⟨q1.1, ⟨f, q2.1, a3⟩, q3.1⟩, q1.2.trans r1, q2.2.trans rn, q3.2⟩
theorem rRs.fr {m4 : Nat} (hr : rRs E G ro m4 rs) (hf : zfr ro K G r2 G2) (h0 : ¬ K (0, 0)) (h4 : ¬ K (20, 4)) (h21 : ¬ K (21, 0)) : rRs E G2 r2 m4 rs := by
  obtain ⟨⟨⟨f, a1, a2⟩, a3, a4⟩, b1, b2, b3, b4⟩ := hr
  have q1 := hf _ _ a1 (by rw [b1]; exact h4)
  refine ⟨⟨⟨f, q1.1, a2⟩, a3, fun e he => ?_⟩, q1.2.trans b1, b2, b3, fun e he => ?_⟩
  · obtain ⟨c1, c2, c3, -⟩ := b4 e he
    exact (rRR_fr (a4 e he) c1 c2 c3 hf h0 h21).1
  · obtain ⟨c1, c2, c3, c4⟩ := b4 e he
    obtain ⟨-, d1, d2, d3⟩ := rRR_fr (a4 e he) c1 c2 c3 hf h0 h21
    refine ⟨d1, d2, d3, ?_⟩
    rcases c4 with c4 | ⟨z, e1, e2, e3, e4⟩
    · exact Or.inl c4
    · have q3 := e2.fr e3 hf h0
      exact Or.inr ⟨z, e1, q3.1, q3.2, e4⟩
theorem rAw.fr {pl : List Int32} {e : zAt} {w : Int32 × aV} (hw : rAw E G ro pl e w) (hf : zfr ro K G r2 G2) (h0 : ¬ K (0, 0)) : rAw E G2 r2 pl e w := by
  obtain ⟨a1, a2, a3, a4, a5⟩ := hw
  refine ⟨a1, a2, a3, a4, ?_⟩
  rcases a5 with ⟨z, b1, b2, b3, b4, b5⟩ | a5
  · have q := b4.fr b5 hf h0
    exact Or.inl ⟨z, b1, b2, b3, q.1, q.2⟩
  · exact Or.inr a5
theorem rAw.pre {pl qx : List Int32} {e : zAt} {w : Int32 × aV} (hw : rAw E G ro pl e w) : rAw E G ro (pl ++ qx) e w := by
  obtain ⟨a1, a2, a3, a4, a5⟩ := hw
  refine ⟨a1, a2, a3, a4, ?_⟩
  rcases a5 with a5 | ⟨b1, b2, b3⟩
  · exact Or.inl a5
  · refine Or.inr ⟨b1, by rw [List.length_append]; omega, ?_⟩
    rw [b3, List.drop_append_of_le_length (by omega), List.take_append_of_le_length (by rw [List.length_drop]; omega)]
theorem rAN.fr {cap : Nat} {an : List zAt} (ha : rAN E G ro h cap an) (hf : zfr ro K G r2 G2) (h0 : ¬ K (0, 0)) (h20 : ∀ i, 6 ≤ i → i ≤ 12 → ¬ K (20, i)) : rAN E G2 r2 h cap an := by
  obtain ⟨⟨a1, a2, f6, f7, f8, f9, f10, f11, f12, b6, b7, b8, b9, b10, b11, b12, a3, a4, a5⟩, c1, c2⟩ := ha
  have g : ∀ i v, 6 ≤ i → i ≤ 12 → G (h i) = some v → G2 (h i) = some v ∧ r2 (h i) = (20, i) := fun i v h6 h12 hv => by
    have q := hf _ _ hv (by rw [c1 i h6 h12]; exact h20 i h6 h12)
    exact ⟨q.1, q.2.trans (c1 i h6 h12)⟩
  have d6 := g 6 _ (by decide) (by decide) b6
  have d7 := g 7 _ (by decide) (by decide) b7
  have d8 := g 8 _ (by decide) (by decide) b8
  have d9 := g 9 _ (by decide) (by decide) b9
  have d10 := g 10 _ (by decide) (by decide) b10
  have d11 := g 11 _ (by decide) (by decide) b11
  have d12 := g 12 _ (by decide) (by decide) b12
  have s11 : ∀ j v, f11 j = some v → ro v = (0, 0) := c2 11 (Or.inl rfl) _ _ b11
  have s12 : ∀ j v, f12 j = some v → ro v = (0, 0) := c2 12 (Or.inr rfl) _ _ b12
  have k11 : ∀ j v, f11 j = some v → ∃ (nx : Nat) (fx : Nat → Int32), G2 v = some (.inl (E.2.1 0, nx, .inl fx)) ∧ r2 v = (0, 0) := fun j v hv => by
    obtain ⟨nx, fx, e⟩ := a4 j v hv
    have q := hf _ _ e (by rw [s11 j v hv]; exact h0)
    exact ⟨nx, fx, q.1, q.2.trans (s11 j v hv)⟩
  have k12 : ∀ j v, f12 j = some v → ∃ (nx : Nat) (fx : Nat → Int32), G2 v = some (.inl (E.2.1 0, nx, .inl fx)) ∧ r2 v = (0, 0) := fun j v hv => by
    obtain ⟨nx, fx, e⟩ := a5 j v hv
    have q := hf _ _ e (by rw [s12 j v hv]; exact h0)
    exact ⟨nx, fx, q.1, q.2.trans (s12 j v hv)⟩
  refine ⟨⟨a1, a2, f6, f7, f8, f9, f10, f11, f12, d6.1, d7.1, d8.1, d9.1, d10.1, d11.1, d12.1, fun i hi => ?_, fun j v hv => ?_, fun j v hv => ?_⟩, fun i h6 h12 => ?_, ?_⟩
  · obtain ⟨e1, e2, e3, e4, e5, e6, e7, fn, e8, e9⟩ := a3 i hi
    exact ⟨e1, e2, e3, e4, e5, e6, e7, fn, (hf _ _ e8 (by rw [s11 _ _ e6]; exact h0)).1, e9⟩
  · obtain ⟨nx, fx, e, -⟩ := k11 j v hv
    exact ⟨nx, fx, e⟩
  · obtain ⟨nx, fx, e, -⟩ := k12 j v hv
    exact ⟨nx, fx, e⟩
  · rcases (show i = 6 ∨ i = 7 ∨ i = 8 ∨ i = 9 ∨ i = 10 ∨ i = 11 ∨ i = 12 by omega) with rfl | rfl | rfl | rfl | rfl | rfl | rfl
    · exact d6.2
    · exact d7.2
    · exact d8.2
    · exact d9.2
    · exact d10.2
    · exact d11.2
    · exact d12.2
  · rintro i (rfl | rfl) n f hg j v hv
    · rw [d11.1] at hg
      have e : f11 = f := by simpa using congrArg (fun o : Option va_E => match o with | some (.inl (_, _, .inr (.inr (.inr (.inr g))))) => g | _ => fun _ => none) hg
      subst e
      obtain ⟨nx, fx, e, e2⟩ := k11 j v hv
      exact e2
    · rw [d12.1] at hg
      have e : f12 = f := by simpa using congrArg (fun o : Option va_E => match o with | some (.inl (_, _, .inr (.inr (.inr (.inr g))))) => g | _ => fun _ => none) hg
      subst e
      obtain ⟨nx, fx, e, e2⟩ := k12 j v hv
      exact e2
theorem rAs.fr (ha : rAs E G ro h rs W px q nq) (hf : zfr ro K G r2 G2) (h0 : ¬ K (0, 0)) (h20 : ∀ i, 6 ≤ i → ¬ K (20, i)) : rAs E G2 r2 h rs W px q nq := by
  obtain ⟨ws, an, pl, ff, fp, a1, a2, a3, a4, a5, a6, a7, a8, ⟨b1, b2, b3, b4, b5, b6⟩, ⟨c1, c2, c3⟩, d1⟩ := ha
  have q1 := hf _ _ b1 (by rw [b6]; exact h20 15 (by decide))
  have q2 := hf _ _ c1 (by rw [c3]; exact h20 18 (by decide))
  exact ⟨ws, an, pl, ff, fp, a1, a2, a3, a4, a5, a6.fr hf h0 (fun i h6 _ => h20 i h6), a7, fun i hi => (a8 i hi).fr hf h0, ⟨q1.1, b2, b3, b4, b5, q1.2.trans b6⟩, ⟨q2.1, c2, q2.2.trans c3⟩, d1⟩
/-- the reference keeps where others change -/
theorem rCx.fr (hc : rCx E G ro h lo rs W px q nq th tp co se v19 v20) (hf : zfr ro K G r2 G2) (h0 : ¬ K (0, 0)) (h20 : ∀ i, ¬ K (20, i)) (h21 : ¬ K (21, 0)) : rCx E G2 r2 h lo rs W px q nq th tp co se v19 v20 := by
  obtain ⟨a1, a2, ⟨fm, a3, a4, a5, a6⟩, a7, a8, a9, b1, b2⟩ := hc
  have q1 := hf _ _ a1 (by rw [a2]; exact h20 0)
  have q2 := hf _ _ a3 (by rw [a6]; exact h20 1)
  exact ⟨q1.1, q1.2.trans a2, ⟨fm, q2.1, a4, a5, q2.2.trans a6⟩, a7, a8.fr hf h0, a9.fr hf h0 (h20 4) h21, b1, b2.fr hf h0 (fun i _ => h20 i)⟩
/-- the object's own cell changes -/
theorem rCx.cell {th2 : Int32} {co2 se2 : Int32} {w19 w20 : Value} (hc : rCx E G ro h lo rs W px q nq th tp co se v19 v20) (n : Nat) (hn : n ≤ tp.length) : rCx E (zg_up G (h 0) (.inr (11, [.int th2, .ref (h 1), .int (nI n), .ref (h 3), .ref (h 4), .int (nI rs.length), .ref (h 6), .ref (h 7), .ref (h 8), .ref (h 9), .ref (h 10), .ref (h 11), .ref (h 12), .int (nI (wln W)), .int co2, .ref (h 15), .int (nI (rPw W + px.length)), .int se2, .ref (h 18), w19, w20]))) ro h lo rs W px q nq th2 (tp.take n) co2 se2 w19 w20 ∧ zfr ro zKr G ro (zg_up G (h 0) (.inr (11, [.int th2, .ref (h 1), .int (nI n), .ref (h 3), .ref (h 4), .int (nI rs.length), .ref (h 6), .ref (h 7), .ref (h 8), .ref (h 9), .ref (h 10), .ref (h 11), .ref (h 12), .int (nI (wln W)), .int co2, .ref (h 15), .int (nI (rPw W + px.length)), .int se2, .ref (h 18), w19, w20]))) := by
  obtain ⟨a1, a2, ⟨fm, a3, a4, a5, a6⟩, a7, a8, a9, b1, b2⟩ := hc
  have hl : (tp.take n).length = n := by rw [List.length_take]; omega
  have hf := zfr.up (r := ro) (K := fun r => r = (20, 0)) (G := G) (a := h 0) (e := .inr (11, [.int th2, .ref (h 1), .int (nI n), .ref (h 3), .ref (h 4), .int (nI rs.length), .ref (h 6), .ref (h 7), .ref (h 8), .ref (h 9), .ref (h 10), .ref (h 11), .ref (h 12), .int (nI (wln W)), .int co2, .ref (h 15), .int (nI (rPw W + px.length)), .int se2, .ref (h 18), w19, w20])) a2
  have q2 := hf _ _ a3 (by rw [a6]; simp)
  refine ⟨⟨?_, a2, ⟨fm, q2.1, fun j hj => ?_, a5, a6⟩, by rw [hl]; omega, a8.fr hf (by simp), a9.fr hf (by simp) (by simp) (by simp), b1, b2.fr hf (by simp) (fun i hi => by simp; omega)⟩, hf.w (fun k z => by rw [z]; exact Or.inl rfl)⟩
  · rw [hl]; exact zg_up_self _ _ _
  · rw [hl] at hj
    rw [a4 j (by omega), List.getD_eq_getElem?_getD, List.getD_eq_getElem?_getD, List.getElem?_take_of_lt hj]
end RCX
