/-! THE REFERENCE while it is asked: a the object, c1 and c2 how big rows and pool were -/
def rSt (E : zc_E) (G : zg_G) (ro : zRo) (a c1 c2 : Nat) (lo : np_N) (rs : List zRt) (W : zW) (px : List Int32) (q : Prop) (nq : Nat × Int32 × np_N × zWs) (th : Int32) (tp : List Int32) (co se : Int32) (v19 v20 : Value) : Prop := ∃ h : Nat → Nat, h 0 = a ∧ h 40 = c1 ∧ h 41 = c2 ∧ rCx E G ro h lo rs W px q nq th tp co se v19 v20
/-- the room's measure -/
def rPi (c1 c2 : Nat) (W : zW) (n : Nat) : Nat := 14 * rcp c1 (wln W) + 2 * rcp c2 (rPw W + n)
section RST
variable {E : zc_E} {G G2 : zg_G} {ro r2 : zRo} {K : Nat × Nat → Prop} {a c1 c2 : Nat} {lo : np_N} {rs : List zRt} {W : zW} {px : List Int32} {q : Prop} {nq : Nat × Int32 × np_N × zWs} {th co se : Int32} {tp : List Int32} {v19 v20 : Value}
theorem rSt.fr (hs : rSt E G ro a c1 c2 lo rs W px q nq th tp co se v19 v20) (hf : zfr ro K G r2 G2) (h0 : ¬ K (0, 0)) (h20 : ∀ i, ¬ K (20, i)) (h21 : ¬ K (21, 0)) : rSt E G2 r2 a c1 c2 lo rs W px q nq th tp co se v19 v20 := by
  obtain ⟨h, e0, e1, e2, hc⟩ := hs
  exact ⟨h, e0, e1, e2, hc.fr hf h0 h20 h21⟩
/-- with a new cell beside it -/
theorem rSt.z (hs : rSt E G ro a c1 c2 lo rs W px q nq th tp co se v19 v20) (hf : zfr ro (fun _ => False) G r2 G2) : rSt E G2 r2 a c1 c2 lo rs W px q nq th tp co se v19 v20 := hs.fr hf id (fun _ => id) id
/-- all are marked: what comes next may be of any section and name -/
theorem rSt.nxt (hs : rSt E G ro a c1 c2 lo rs W px q nq th tp co se v19 v20) (hn : nq.1 = wln W) (y : Int32) (x : np_N) : rSt E G ro a c1 c2 lo rs W px q (wln W, y, x, nq.2.2.2) th tp co se v19 v20 := by
  obtain ⟨h, e0, e1, e2, b1, b2, b3, b4, b5, b6, b7, ws, an, pl, ff, fp, p1, p2, p3, p4, p5, p6, p7, p8, p9, p10, p11, p12, p13, p14, p15⟩ := hs
  have hl := rW_len p2
  rw [p1] at hl
  refine ⟨h, e0, e1, e2, b1, b2, b3, b4, b5, b6, b7, ws, an, pl, ff, fp, p1, p2, p3, p4, p5, p6, p7, p8, p9, p10, p11, by show wln W ≤ _; omega, fun i hi => p13 i (by rw [hn]; exact hi), fun _ i hi hi2 => ?_, p15⟩
  have : wln W ≤ i := hi
  omega
/-- rows of other sections, and of names without records, need no mark -/
theorem rSt.lift (hs : rSt E G ro a c1 c2 lo rs W px q nq th tp co se v19 v20) (hq : q) (hn : nq.2.1 ≠ 1 ∨ ¬ vD (rVf rs) nq.2.2.1) (y : Int32) (x : np_N) : rSt E G ro a c1 c2 lo rs W px q (wln W, y, x, nq.2.2.2) th tp co se v19 v20 := by
  obtain ⟨h, e0, e1, e2, b1, b2, b3, b4, b5, b6, b7, ws, an, pl, ff, fp, p1, p2, p3, p4, p5, p6, p7, p8, p9, p10, p11, p12, p13, p14, p15⟩ := hs
  have hl := rW_len p2
  rw [p1] at hl
  refine ⟨h, e0, e1, e2, b1, b2, b3, b4, b5, b6, b7, ws, an, pl, ff, fp, p1, p2, p3, p4, p5, p6, p7, p8, p9, p10, p11, by show wln W ≤ _; omega, fun i hi h1 h2 => ?_, fun _ i hi hi2 => ?_, p15⟩
  · have hi' : i < wln W := hi
    rcases Nat.lt_or_ge i nq.1 with z | z
    · exact p13 i z h1 h2
    · obtain ⟨q1, q2⟩ := p14 hq i z (by omega)
      rcases hn with hn | hn
      · exact absurd (q1.symm.trans h1) hn
      · rw [q2] at h2; exact absurd h2 hn
  · have : wln W ≤ i := hi
    omega
theorem rSt.q0 (hs : rSt E G ro a c1 c2 lo rs W px q nq th tp co se v19 v20) : rSt E G ro a c1 c2 lo rs W px False (0, 0, [], []) th tp co se v19 v20 := by
  obtain ⟨h, e0, e1, e2, b1, b2, b3, b4, b5, b6, b7, ws, an, pl, ff, fp, p1, p2, p3, p4, p5, p6, p7, p8, p9, p10, p11, p12, p13⟩ := hs
  exact ⟨h, e0, e1, e2, b1, b2, b3, b4, b5, b6, b7, ws, an, pl, ff, fp, p1, p2, p3, p4, p5, p6, p7, p8, p9, p10, fun z => z.elim, Nat.zero_le _, fun i hi => absurd hi (Nat.not_lt_zero i), fun z => z.elim, List.nil_prefix⟩
/-- one more is marked -/
theorem rSt.mark {h : Nat → Nat} {ff : Nat → Int32} (hs : rCx E G ro h lo rs W px q nq th tp co se v19 v20) (hff : G (h 18) = some (.inl (E.2.1 0, 4096, .inl ff))) (hk : nq.1 < wln W) (h4 : wln W ≤ 4096) {v : Int32} (hv : fits .byte (.int v) = true) (hm : vD (rVf rs) nq.2.2.1 → v = 1) (hq : q) : rCx E (zg_up G (h 18) (.inl (E.2.1 0, 4096, .inl (upd ff nq.1 v)))) ro h lo rs W px q (nq.1 + 1, nq.2) th tp co se v19 v20 ∧ zfr ro zKr G ro (zg_up G (h 18) (.inl (E.2.1 0, 4096, .inl (upd ff nq.1 v)))) := by
  obtain ⟨b1, b2, ⟨fm, b3, b3'⟩, b4, b5, b6, b7, ws, an, pl, ff2, fp, p1, p2, p3, p4, p5, p6, p7, p8, ⟨x1, x2⟩, ⟨y1, y2, y3⟩, p11, p12, p13, p14, p15⟩ := hs
  have eff : ff2 = ff := by
    rw [y1] at hff
    simpa using congrArg (fun o : Option va_E => match o with | some (.inl (_, _, .inl g)) => g | _ => fun _ => 0) hff
  subst eff
  have hl := rW_len p2
  rw [p1] at hl
  have hf : zfr ro (fun r => r = (20, 18)) G ro (zg_up G (h 18) (.inl (E.2.1 0, 4096, .inl (upd ff2 nq.1 v)))) := zfr.up y3
  have q1 := hf _ _ b1 (by rw [b2]; simp)
  have q2 := hf _ _ b3 (by rw [b3'.2.2]; simp)
  have q3 := hf _ _ x1 (by rw [x2.2.2.2.2]; simp)
  refine ⟨⟨q1.1, b2, ⟨fm, q2.1, b3'⟩, b4, b5.fr hf (by simp), b6.fr hf (by simp) (by simp) (by simp), b7, ws, an, pl, upd ff2 nq.1 v, fp, p1, p2, p3, p4, p5, p6.fr hf (by simp) (fun i _ hi => by simp; omega), p7, fun i hi => (p8 i hi).fr hf (by simp), ⟨q3.1, x2⟩, ⟨zg_up_self _ _ _, fun j => ?_, y3⟩, p11, by show nq.1 + 1 ≤ _; omega, fun i hi h1 h2 => ?_, fun hq i hi hi2 => p14 hq i (by have : nq.1 + 1 ≤ i := hi; omega) hi2, p15⟩, hf.w (fun k z => by rw [z]; exact Or.inl rfl)⟩
  · show fits .byte (.int (upd ff2 nq.1 v j)) = true
    by_cases z : j = nq.1
    · rw [z, upd_s]; exact hv
    · rw [upd_o z]; exact y2 j
  · have hi' : i < nq.1 + 1 := hi
    by_cases z : i = nq.1
    · rw [z, upd_s]
      rw [z, (p14 hq nq.1 (Nat.le_refl _) (by omega)).2] at h2
      exact hm h2
    · rw [upd_o z]
      exact p13 i (by omega) h1 h2
theorem rSt.gd (hs : rSt E G ro a c1 c2 lo rs W px q nq th tp co se v19 v20) : rGd lo rs := by
  obtain ⟨h, e0, e1, e2, b1, b2, b3, b4, b5, b6, b7, b8⟩ := hs
  exact b7
theorem rSt.cs (hs : rSt E G ro a c1 c2 lo rs W px q nq th tp co se v19 v20) : 7 ≤ c1 ∧ 1 ≤ c2 ∧ rcp c2 (rPw W + px.length) ≤ 2 ^ 20 := by
  obtain ⟨h, e0, e1, e2, b1, b2, b3, b4, b5, b6, b7, ws, an, pl, ff, fp, p1, p2, p3, p4, p5, p6, p7, p8, p9, p10⟩ := hs
  have q := p9.2.2.1
  exact ⟨by omega, by have := p9.2.1; omega, by rw [← e2]; exact q⟩
theorem t_Mo_add_s (l : Launch) (hs : rSt E G ro a c1 c2 lo rs W px q nq th tp co se v19 v20) (hln : wln W < 2 ^ 16) (sx : Int32) (hsx : sx = 1 ∨ sx = 2 ∨ sx = 3) (b1 : Nat) (ls1 : np_N) (hn1 : rNm E G ro b1 ls1) (tx ux : Int32) (ht : tx ≠ 47) (b2 : Nat) (D : List Int32) (hD : zBy E G b2 D) (hr2 : ro b2 = (0, 0)) (hq1 : q → sx = 1 → ∃ e ∈ rs, b2 = rD e ∧ rT e = tx) (hq2 : q → nq.2.1 = sx ∧ nq.2.2.1 = ls1) : zMv l E y_Mo_add c_Mo_add 8 (rm_Mo_add (14 * (rcp c1 (wln W + 1) - rcp c1 (wln W))) (14 * (rcp c1 (wln W + 1) - rcp c1 (wln W)))) [.ref a, .int sx, .ref b1, .int tx, .int ux, .ref b2, .int 0, .int (nI D.length)] G (fun G2 => ∃ r2, rSt E G2 r2 a c1 c2 lo rs (wad sx W [(ls1, tx, ux, D)]) px q nq th tp co se v19 v20 ∧ zfr ro zKr G r2 G2) := by
  obtain ⟨h, rfl, rfl, rfl, hc⟩ := hs
  exact (t_Mo_add_c l hc hln sx hsx b1 ls1 hn1 tx ux ht b2 D hD hr2 hq1 hq2).imp (fun G2 hp => by
    obtain ⟨r2, h2, x1, x2, x3⟩ := hp
    exact ⟨r2, ⟨h2, x3.1, x3.2.1, x3.2.2, x1⟩, x2⟩)
theorem t_Mo_add_t (l : Launch) (hs : rSt E G ro a c1 c2 lo rs W px q nq th tp co se v19 v20) (hln : wln W < 2 ^ 16) (b1 : Nat) (ls1 : np_N) (hn1 : rNm E G ro b1 ls1) (ux : Int32) (hq2 : q → nq.2.1 = 2 ∧ nq.2.2.1 = ls1) : zMv l E y_Mo_add c_Mo_add 8 (rm_Mo_add_p (14 * (rcp c1 (wln W + 1) - rcp c1 (wln W))) (14 * (rcp c1 (wln W + 1) - rcp c1 (wln W)))) [.ref a, .int 2, .ref b1, .int 47, .int ux, .null, .int (nI (rPw W)), .int (nI px.length)] G (fun G2 => ∃ r2, rSt E G2 r2 a c1 c2 lo rs (wad 2 W [(ls1, 47, ux, px)]) [] q nq th tp co se v19 v20 ∧ zfr ro zKr G r2 G2) := by
  obtain ⟨h, rfl, rfl, rfl, hc⟩ := hs
  exact (t_Mo_add_n l hc hln b1 ls1 hn1 ux hq2).imp (fun G2 hp => by
    obtain ⟨r2, h2, x1, x2, x3⟩ := hp
    exact ⟨r2, ⟨h2, x3.1, x3.2.1, x3.2.2, x1⟩, x2⟩)
/-- the pool's bytes behind the answers change -/
theorem rSt.pl {h : Nat → Nat} {px2 : List Int32} {m15 : Nat} {fp2 : Nat → Int32} (hc : rCx E G ro h lo rs W px q nq th tp co se v19 v20) (hx : zx (fun z => z = h 0 ∨ z = h 15) G G2) (hm : m15 = h 15 ∨ G m15 = none)
    (h0 : G2 (h 0) = some (.inr (11, [.int th, .ref (h 1), .int (nI tp.length), .ref (h 3), .ref (h 4), .int (nI rs.length), .ref (h 6), .ref (h 7), .ref (h 8), .ref (h 9), .ref (h 10), .ref (h 11), .ref (h 12), .int (nI (wln W)), .int co, .ref m15, .int (nI (rPw W + px2.length)), .int se, .ref (h 18), v19, v20])))
    (h15 : G2 m15 = some (.inl (E.2.1 0, rcp (h 41) (rPw W + px2.length), .inl fp2))) (hb : rcp (h 41) (rPw W + px2.length) ≤ 2 ^ 20) (hf2 : ∀ fp pl, pl.length = rPw W → G (h 15) = some (.inl (E.2.1 0, rcp (h 41) (rPw W + px.length), .inl fp)) → (∀ j, j < rPw W + px.length → fp j = (pl ++ px).getD j 0) → ∀ j, j < rPw W + px2.length → fp2 j = (pl ++ px2).getD j 0) (hft : sb_Fit fp2) : ∃ r2, rSt E G2 r2 (h 0) (h 40) (h 41) lo rs W px2 q nq th tp co se v19 v20 ∧ zfr ro zKr G r2 G2 := by
  obtain ⟨b1, b2, ⟨fm, b3, b3'⟩, b4, b5, b6, b7, ws, an, pl, ff, fp, p1, p2, p3, p4, p5, p6, p7, p8, ⟨x1, x2, x3, x4, x5, x6⟩, ⟨y1, y2, y3⟩, p11⟩ := hc
  have hf : zfr ro (fun r => r = (20, 0) ∨ r = (20, 15)) G (zrn ro m15 (20, 15)) G2 := fun z e hz hk => by
    have n0 : z ≠ h 0 := fun w => hk (by rw [w, b2]; exact Or.inl rfl)
    have n15 : z ≠ h 15 := fun w => hk (by rw [w, x6]; exact Or.inr rfl)
    refine ⟨hx z e (fun w => w.elim n0 n15) hz, zrn_ne (fun w => ?_)⟩
    rcases hm with hm | hm
    · exact n15 (w.trans hm)
    · rw [w, hm] at hz; cases hz
  have q2 := hf _ _ b3 (by rw [b3'.2.2]; simp)
  have q3 := hf _ _ y1 (by rw [y3]; simp)
  have n0 : h 0 ≠ m15 := fun w => by
    rcases hm with hm | hm
    · rw [w, hm, x6] at b2; cases b2
    · rw [← w, b1] at hm; cases hm
  let h2 : Nat → Nat := fun i => if i = 15 then m15 else h i
  have e0 : h2 15 = m15 := if_pos rfl
  have e1 : ∀ i, i ≠ 15 → h2 i = h i := fun i hi => if_neg hi
  refine ⟨zrn ro m15 (20, 15), ⟨h2, e1 0 (by decide), e1 40 (by decide), e1 41 (by decide), ?_, ?_, ⟨fm, ?_, b3'.1, b3'.2.1, ?_⟩, b4, ?_, ?_, b7, ws, an, pl, ff, fp2, p1, p2, p3, p4, trivial, ?_, ?_, fun i hi => (p8 i hi).fr hf (by simp), ⟨?_, ?_, ?_, hf2 fp pl p4 x1 x4, hft, ?_⟩, ⟨?_, y2, ?_⟩, p11⟩, hf.w (fun k z => by rcases z with z | z <;> rw [z] <;> exact Or.inl rfl)⟩
  · rw [e0, e1 0 (by decide), e1 1 (by decide), e1 3 (by decide), e1 4 (by decide), e1 6 (by decide), e1 7 (by decide), e1 8 (by decide), e1 9 (by decide), e1 10 (by decide), e1 11 (by decide), e1 12 (by decide), e1 18 (by decide)]; exact h0
  · rw [e1 0 (by decide), zrn_ne n0]; exact b2
  · rw [e1 1 (by decide)]; exact q2.1
  · rw [e1 1 (by decide)]; exact q2.2.trans b3'.2.2
  · rw [e1 3 (by decide)]; exact b5.fr hf (by simp)
  · rw [e1 4 (by decide)]; exact b6.fr hf (by simp) (by simp) (by simp)
  · have q6 := p6.fr hf (by simp) (fun i i6 i12 => by simp; omega)
    obtain ⟨z1, z2, z3⟩ := q6
    refine ⟨?_, fun i i6 i12 => ?_, fun i hi => ?_⟩
    · rw [e1 6 (by decide), e1 7 (by decide), e1 8 (by decide), e1 9 (by decide), e1 10 (by decide), e1 11 (by decide), e1 12 (by decide), e1 40 (by decide)]; exact z1
    · rw [e1 i (by omega)]; exact z2 i i6 i12
    · rw [e1 i (by omega)]; exact z3 i hi
  · rw [e1 40 (by decide)]; exact p7
  · rw [e0, e1 41 (by decide)]; exact h15
  · rw [e1 41 (by decide)]; exact x2
  · rw [e1 41 (by decide)]; exact hb
  · rw [e0]; exact zrn_self _ _ _
  · rw [e1 18 (by decide)]; exact q3.1
  · rw [e1 18 (by decide)]; exact q3.2.trans y3
end RST
/-! what the rows take -/
theorem wln_le {W X : zW} (h : zLe W X) : wln W ≤ wln X := by
  have l1 := h.1.length_le
  have l2 := h.2.1.length_le
  have l3 := h.2.2.length_le
  unfold wln; omega
theorem wl47_le {L M : List aV} (h : L <+: M) : wl47 L ≤ wl47 M := by
  obtain ⟨T, e⟩ := h
  rw [← e, wl47_app]; omega
theorem rPw_le {W X : zW} (h : zLe W X) : rPw W ≤ rPw X := by
  have l1 := wl47_le h.1
  have l2 := wl47_le h.2.1
  have l3 := wl47_le h.2.2
  unfold rPw; omega
theorem rPi_le {c1 c2 : Nat} (h1 : 0 < c1) (h2 : 0 < c2) {W X : zW} {n m : Nat} (h : zLe W X) (hn : rPw W + n ≤ rPw X + m) : rPi c1 c2 W n ≤ rPi c1 c2 X m := by
  have a1 := rcp_mono2 h1 (wln_le h)
  have a2 := rcp_mono2 h2 hn
  unfold rPi; omega
theorem zLe_wad (s : Int32) (W : zW) (L : List aV) : zLe W (wad s W L) := by
  unfold wad
  split
  · exact zLe.w1 W L
  · split
    · exact zLe.w2 W L
    · exact zLe.w3 W L
/-- the rows of the first i records of that name and type, told of x -/
def rgv (rs : List zRt) (x f : np_N) (t : Int32) (i : Nat) : List aV := ((rs.take i).filter (fun e => decide (rM e = f ∧ rT e = t))).map (fun e => (x, t, rU e, rB e))
theorem rgv_all (rs : List zRt) (x f : np_N) (t : Int32) : rgv rs x f t rs.length = vrw (rVf rs) x f t := by
  unfold rgv vrw rVf
  rw [List.take_length, List.map_map]; rfl
theorem rgv_y {rs : List zRt} {x f : np_N} {t : Int32} {i : Nat} (hi : i < rs.length) (h : rT (re rs i) = t ∧ rM (re rs i) = f) : rgv rs x f t (i + 1) = rgv rs x f t i ++ [(x, t, rU (re rs i), rB (re rs i))] := by
  unfold rgv
  rw [List.take_add_one, List.getElem?_eq_getElem hi, List.filter_append, List.map_append, ← re_at hi]
  simp [h]
theorem rgv_n {rs : List zRt} {x f : np_N} {t : Int32} {i : Nat} (hi : i < rs.length) (h : ¬ (rT (re rs i) = t ∧ rM (re rs i) = f)) : rgv rs x f t (i + 1) = rgv rs x f t i := by
  unfold rgv
  have h2 : ¬ (rM (re rs i) = f ∧ rT (re rs i) = t) := fun z => h ⟨z.2, z.1⟩
  rw [List.take_add_one, List.getElem?_eq_getElem hi, List.filter_append, List.map_append, ← re_at hi]
  simp [h2]
theorem rgv_pre (rs : List zRt) (x f : np_N) (t : Int32) {i j : Nat} (h : i ≤ j) : rgv rs x f t i <+: rgv rs x f t j := by
  unfold rgv
  refine List.IsPrefix.map _ (List.IsPrefix.filter _ ?_)
  exact List.take_prefix_take_left h
theorem wad_le (s : Int32) (W : zW) {L M : List aV} (h : L <+: M) : zLe (wad s W L) (wad s W M) := by
  obtain ⟨T, e⟩ := h
  rw [← e, ← wad_app]
  exact zLe_wad s _ T
