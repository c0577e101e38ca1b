/-! ONE MORE ANSWER, over the state -/
def rhu (h : Nat → Nat) (q6 q7 q8 q9 q10 q11 q12 : Nat) : Nat → Nat
  | 6 => q6
  | 7 => q7
  | 8 => q8
  | 9 => q9
  | 10 => q10
  | 11 => q11
  | 12 => q12
  | i => h i
def rru (ro : zRo) (q6 q7 q8 q9 q10 q11 q12 : Nat) : zRo := zrn (zrn (zrn (zrn (zrn (zrn (zrn ro q12 (20, 12)) q11 (20, 11)) q10 (20, 10)) q9 (20, 9)) q8 (20, 8)) q7 (20, 7)) q6 (20, 6)
def zK6 (r : Nat × Nat) : Prop := r = (20, 0) ∨ (r.1 = 20 ∧ 6 ≤ r.2 ∧ r.2 ≤ 12)
theorem zK6_0 : ¬ zK6 (0, 0) := by rintro (h | h) <;> simp at h
theorem zK6_r (r : Nat × Nat) (h : zK6 r) : zKr r := by
  rcases h with h | h
  · rw [h]; exact Or.inl rfl
  · exact Or.inl h.1
/-- what stays of the addresses -/
def rhs (h h2 : Nat → Nat) : Prop := h2 0 = h 0 ∧ h2 40 = h 40 ∧ h2 41 = h 41
theorem rhs.rf {h : Nat → Nat} : rhs h h := ⟨rfl, rfl, rfl⟩
theorem rhs.tr {h h2 h3 : Nat → Nat} (a : rhs h h2) (b : rhs h2 h3) : rhs h h3 := ⟨b.1.trans a.1, b.2.1.trans a.2.1, b.2.2.trans a.2.2⟩
theorem rru_at {ro : zRo} {q6 q7 q8 q9 q10 q11 q12 : Nat} (hnd : [q12, q11, q10, q9, q8, q7, q6].Nodup) : ∀ i, 6 ≤ i → i ≤ 12 → rru ro q6 q7 q8 q9 q10 q11 q12 (rhu (fun _ => 0) q6 q7 q8 q9 q10 q11 q12 i) = (20, i) := by
  simp only [List.nodup_cons, List.mem_cons, List.not_mem_nil, or_false, not_or, not_false_iff, and_true, List.nodup_nil] at hnd
  obtain ⟨⟨n1, n2, n3, n4, n5, n6⟩, ⟨n7, n8, n9, n10, n11⟩, ⟨n12, n13, n14, n15⟩, ⟨n16, n17, n18⟩, ⟨n19, n20⟩, n21⟩ := hnd
  intro i h6 h12
  unfold rru
  rcases (show i = 6 ∨ i = 7 ∨ i = 8 ∨ i = 9 ∨ i = 10 ∨ i = 11 ∨ i = 12 by omega) with rfl | rfl | rfl | rfl | rfl | rfl | rfl
  · exact zrn_self _ _ _
  · show zrn _ _ _ q7 = _; rw [zrn_ne n21, zrn_self]
  · show zrn _ _ _ q8 = _; rw [zrn_ne n20, zrn_ne n19, zrn_self]
  · show zrn _ _ _ q9 = _; rw [zrn_ne n18, zrn_ne n17, zrn_ne n16, zrn_self]
  · show zrn _ _ _ q10 = _; rw [zrn_ne n15, zrn_ne n14, zrn_ne n13, zrn_ne n12, zrn_self]
  · show zrn _ _ _ q11 = _; rw [zrn_ne n11, zrn_ne n10, zrn_ne n9, zrn_ne n8, zrn_ne n7, zrn_self]
  · show zrn _ _ _ q12 = _; rw [zrn_ne n6, zrn_ne n5, zrn_ne n4, zrn_ne n3, zrn_ne n2, zrn_ne n1, zrn_self]
theorem rru_ne {ro : zRo} {q6 q7 q8 q9 q10 q11 q12 q : Nat} (h : q ≠ q6 ∧ q ≠ q7 ∧ q ≠ q8 ∧ q ≠ q9 ∧ q ≠ q10 ∧ q ≠ q11 ∧ q ≠ q12) : rru ro q6 q7 q8 q9 q10 q11 q12 q = ro q := by
  obtain ⟨h6, h7, h8, h9, h10, h11, h12⟩ := h
  unfold rru
  rw [zrn_ne h6, zrn_ne h7, zrn_ne h8, zrn_ne h9, zrn_ne h10, zrn_ne h11, zrn_ne h12]
theorem ae_app {an : List zAt} {e : zAt} {i : Nat} (h : i < an.length) : ae (an ++ [e]) i = ae an i := by
  unfold ae
  rw [List.getD_eq_getElem?_getD, List.getD_eq_getElem?_getD, List.getElem?_append_left h]
theorem ae_last {an : List zAt} {e : zAt} : ae (an ++ [e]) an.length = e := by
  unfold ae
  rw [List.getD_eq_getElem?_getD, List.getElem?_append_right (Nat.le_refl _), Nat.sub_self]; rfl
theorem we_app {an : zWs} {e : Int32 × aV} {i : Nat} (h : i < an.length) : we (an ++ [e]) i = we an i := by
  unfold we
  rw [List.getD_eq_getElem?_getD, List.getD_eq_getElem?_getD, List.getElem?_append_left h]
theorem we_last {an : zWs} {e : Int32 × aV} : we (an ++ [e]) an.length = e := by
  unfold we
  rw [List.getD_eq_getElem?_getD, List.getElem?_append_right (Nat.le_refl _), Nat.sub_self]; rfl
theorem upd_s {f : Nat → Int32} {k : Nat} {x : Int32} : upd f k x k = x := if_pos rfl
theorem upd_o {f : Nat → Int32} {k j : Nat} {x : Int32} (h : j ≠ k) : upd f k x j = f j := if_neg h
theorem vup_s {f : Nat → Option Nat} {k : Nat} {x : Option Nat} : va_up f k x k = x := if_pos rfl
theorem vup_o {f : Nat → Option Nat} {k j : Nat} {x : Option Nat} (h : j ≠ k) : va_up f k x j = f j := if_neg h
theorem rAN.add {E : zc_E} {G G2 : zg_G} {ro : zRo} {h : Nat → Nat} {cap c2 : Nat} {an : List zAt} {f6 f7 f8 f9 f10 : Nat → Int32} {f11 f12 : Nat → Option Nat} {g6 g7 g8 g9 g10 : Nat → Int32} {g11 g12 : Nat → Option Nat} {q6 q7 q8 q9 q10 q11 q12 : Nat} {sx tx ux px9 pz9 : Int32} {b1 : Nat} {ls1 : np_N} {o : Option Nat} {pI pZ : Nat} (hA : rAN E G ro h cap an) (hr0 : ro (h 0) = (20, 0)) (b6 : G (h 6) = some (.inl (E.2.1 1, cap, .inl f6))) (b7 : G (h 7) = some (.inl (E.2.1 1, cap, .inl f7))) (b8 : G (h 8) = some (.inl (E.2.1 1, cap, .inl f8))) (b9 : G (h 9) = some (.inl (E.2.1 1, cap, .inl f9))) (b10 : G (h 10) = some (.inl (E.2.1 1, cap, .inl f10))) (b11 : G (h 11) = some (.inl (E.2.1 5, cap, .inr (.inr (.inr (.inr f11)))))) (b12 : G (h 12) = some (.inl (E.2.1 5, cap, .inr (.inr (.inr (.inr f12)))))) (hn1 : rNm E G ro b1 ls1) (ho : ∀ v, o = some v → ro v = (0, 0) ∧ ∃ (nx : Nat) (fx : Nat → Int32), G v = some (.inl (E.2.1 0, nx, .inl fx))) (hpI : px9 = nI pI) (hpZ : pz9 = nI pZ) (hx : zx (fun q => q = h 0 ∨ q = h 6 ∨ q = h 7 ∨ q = h 8 ∨ q = h 9 ∨ q = h 10 ∨ q = h 11 ∨ q = h 12) G G2) (hqs : (q6 = h 6 ∧ q7 = h 7 ∧ q8 = h 8 ∧ q9 = h 9 ∧ q10 = h 10 ∧ q11 = h 11 ∧ q12 = h 12) ∨ (G q6 = none ∧ G q7 = none ∧ G q8 = none ∧ G q9 = none ∧ G q10 = none ∧ G q11 = none ∧ G q12 = none)) (hnd : [q12, q11, q10, q9, q8, q7, q6].Nodup) (hrw : G2 q6 = some (.inl (E.2.1 1, c2, .inl (upd g6 an.length sx))) ∧ G2 q7 = some (.inl (E.2.1 1, c2, .inl (upd g7 an.length tx))) ∧ G2 q8 = some (.inl (E.2.1 1, c2, .inl (upd g8 an.length ux))) ∧ G2 q9 = some (.inl (E.2.1 1, c2, .inl (upd g9 an.length px9))) ∧ G2 q10 = some (.inl (E.2.1 1, c2, .inl (upd g10 an.length pz9))) ∧ G2 q11 = some (.inl (E.2.1 5, c2, .inr (.inr (.inr (.inr (va_up g11 an.length (some b1))))))) ∧ G2 q12 = some (.inl (E.2.1 5, c2, .inr (.inr (.inr (.inr (va_up g12 an.length o))))))) (hc2 : an.length < c2) (hc3 : c2 ≤ 2 ^ 20) (hgf : (∀ j, j < an.length → g6 j = f6 j) ∧ (∀ j, j < an.length → g7 j = f7 j) ∧ (∀ j, j < an.length → g8 j = f8 j) ∧ (∀ j, j < an.length → g9 j = f9 j) ∧ (∀ j, j < an.length → g10 j = f10 j)) (hg11 : (∀ j, j < an.length → g11 j = f11 j) ∧ ∀ j v, g11 j = some v → f11 j = some v) (hg12 : (∀ j, j < an.length → g12 j = f12 j) ∧ ∀ j v, g12 j = some v → f12 j = some v) : rAN E G2 (rru ro q6 q7 q8 q9 q10 q11 q12) (rhu h q6 q7 q8 q9 q10 q11 q12) c2 (an ++ [(sx, b1, ls1, tx, ux, o, pI, pZ)]) ∧ zfr ro zK6 G (rru ro q6 q7 q8 q9 q10 q11 q12) G2 := by
  obtain ⟨⟨a1, a2, e6, e7, e8, e9, e10, e11, e12, c6, c7, c8, c9, c10, c11, c12, a3, a4, a5⟩, d1, d2⟩ := hA
  have z6 : e6 = f6 := by
    rw [c6] at b6
    simpa using congrArg (fun o : Option va_E => match o with | some (.inl (_, _, .inl g)) => g | _ => fun _ => 0) b6
  subst z6
  have z7 : e7 = f7 := by
    rw [c7] at b7
    simpa using congrArg (fun o : Option va_E => match o with | some (.inl (_, _, .inl g)) => g | _ => fun _ => 0) b7
  subst z7
  have z8 : e8 = f8 := by
    rw [c8] at b8
    simpa using congrArg (fun o : Option va_E => match o with | some (.inl (_, _, .inl g)) => g | _ => fun _ => 0) b8
  subst z8
  have z9 : e9 = f9 := by
    rw [c9] at b9
    simpa using congrArg (fun o : Option va_E => match o with | some (.inl (_, _, .inl g)) => g | _ => fun _ => 0) b9
  subst z9
  have z10 : e10 = f10 := by
    rw [c10] at b10
    simpa using congrArg (fun o : Option va_E => match o with | some (.inl (_, _, .inl g)) => g | _ => fun _ => 0) b10
  subst z10
  have z11 : e11 = f11 := by
    rw [c11] at b11
    simpa using congrArg (fun o : Option va_E => match o with | some (.inl (_, _, .inr (.inr (.inr (.inr g))))) => g | _ => fun _ => none) b11
  subst z11
  have z12 : e12 = f12 := by
    rw [c12] at b12
    simpa using congrArg (fun o : Option va_E => match o with | some (.inl (_, _, .inr (.inr (.inr (.inr g))))) => g | _ => fun _ => none) b12
  subst z12
  have hf : zfr ro zK6 G (rru ro q6 q7 q8 q9 q10 q11 q12) G2 := fun q e hq hk => by
    have m : ∀ i, 6 ≤ i → i ≤ 12 → q ≠ h i := fun i i6 i12 z => hk (by rw [z, d1 i i6 i12]; exact Or.inr ⟨rfl, i6, i12⟩)
    have m0 : q ≠ h 0 := fun z => hk (by rw [z, hr0]; exact Or.inl rfl)
    refine ⟨hx q e (fun z => ?_) hq, rru_ne ?_⟩
    · rcases z with z | z | z | z | z | z | z | z
      · exact m0 z
      · exact m 6 (by decide) (by decide) z
      · exact m 7 (by decide) (by decide) z
      · exact m 8 (by decide) (by decide) z
      · exact m 9 (by decide) (by decide) z
      · exact m 10 (by decide) (by decide) z
      · exact m 11 (by decide) (by decide) z
      · exact m 12 (by decide) (by decide) z
    · rcases hqs with ⟨w6, w7, w8, w9, w10, w11, w12⟩ | ⟨w6, w7, w8, w9, w10, w11, w12⟩
      · exact ⟨by rw [w6]; exact m 6 (by decide) (by decide), by rw [w7]; exact m 7 (by decide) (by decide), by rw [w8]; exact m 8 (by decide) (by decide), by rw [w9]; exact m 9 (by decide) (by decide), by rw [w10]; exact m 10 (by decide) (by decide), by rw [w11]; exact m 11 (by decide) (by decide), by rw [w12]; exact m 12 (by decide) (by decide)⟩
      · exact ⟨fun z => (by rw [z, w6] at hq; cases hq), fun z => (by rw [z, w7] at hq; cases hq), fun z => (by rw [z, w8] at hq; cases hq), fun z => (by rw [z, w9] at hq; cases hq), fun z => (by rw [z, w10] at hq; cases hq), fun z => (by rw [z, w11] at hq; cases hq), fun z => (by rw [z, w12] at hq; cases hq)⟩
  obtain ⟨r6, r7, r8, r9, r10, r11, r12⟩ := hrw
  obtain ⟨y6, y7, y8, y9, y10⟩ := hgf
  have hna : ∀ i, 6 ≤ i → i ≤ 12 → rru ro q6 q7 q8 q9 q10 q11 q12 (rhu h q6 q7 q8 q9 q10 q11 q12 i) = (20, i) := fun i i6 i12 => by
    have := rru_at (ro := ro) hnd i i6 i12
    rcases (show i = 6 ∨ i = 7 ∨ i = 8 ∨ i = 9 ∨ i = 10 ∨ i = 11 ∨ i = 12 by omega) with rfl | rfl | rfl | rfl | rfl | rfl | rfl <;> exact this
  have s11 : ∀ j v, e11 j = some v → ro v = (0, 0) := d2 11 (Or.inl rfl) _ _ c11
  have s12 : ∀ j v, e12 j = some v → ro v = (0, 0) := d2 12 (Or.inr rfl) _ _ c12
  obtain ⟨fb, n1, n2, n3, n4, n5⟩ := hn1
  have k11 : ∀ j v, va_up g11 an.length (some b1) j = some v → ∃ (nx : Nat) (fx : Nat → Int32), G2 v = some (.inl (E.2.1 0, nx, .inl fx)) ∧ rru ro q6 q7 q8 q9 q10 q11 q12 v = (0, 0) := fun j v hv => by
    by_cases z : j = an.length
    · rw [z, vup_s] at hv
      cases hv
      have q := hf _ _ n1 (by rw [n5]; exact zK6_0)
      exact ⟨_, _, q.1, q.2.trans n5⟩
    · rw [vup_o z] at hv
      have hv2 := hg11.2 j v hv
      obtain ⟨nx, fx, e⟩ := a4 j v hv2
      have q := hf _ _ e (by rw [s11 j v hv2]; exact zK6_0)
      exact ⟨nx, fx, q.1, q.2.trans (s11 j v hv2)⟩
  have k12 : ∀ j v, va_up g12 an.length o j = some v → ∃ (nx : Nat) (fx : Nat → Int32), G2 v = some (.inl (E.2.1 0, nx, .inl fx)) ∧ rru ro q6 q7 q8 q9 q10 q11 q12 v = (0, 0) := fun j v hv => by
    by_cases z : j = an.length
    · rw [z, vup_s] at hv
      obtain ⟨w1, nx, fx, e⟩ := ho v hv
      have q := hf _ _ e (by rw [w1]; exact zK6_0)
      exact ⟨nx, fx, q.1, q.2.trans w1⟩
    · rw [vup_o z] at hv
      have hv2 := hg12.2 j v hv
      obtain ⟨nx, fx, e⟩ := a5 j v hv2
      have q := hf _ _ e (by rw [s12 j v hv2]; exact zK6_0)
      exact ⟨nx, fx, q.1, q.2.trans (s12 j v hv2)⟩
  refine ⟨⟨⟨by rw [List.length_append, List.length_singleton]; omega, hc3, _, _, _, _, _, _, _, r6, r7, r8, r9, r10, r11, r12, fun i hi => ?_, fun j v hv => ?_, fun j v hv => ?_⟩, hna, ?_⟩, hf⟩
  · rw [List.length_append, List.length_singleton] at hi
    by_cases z : i = an.length
    · subst z
      rw [ae_last]
      have q := hf _ _ n1 (by rw [n5]; exact zK6_0)
      exact ⟨upd_s, upd_s, upd_s, upd_s.trans hpI, upd_s.trans hpZ, vup_s, vup_s, fb, q.1, n2, n3, n4⟩
    · have hi2 : i < an.length := by omega
      rw [ae_app hi2]
      obtain ⟨x6, x7, x8, x9, x10, x11, x12, fn, x13, x14⟩ := a3 i hi2
      refine ⟨?_, ?_, ?_, ?_, ?_, ?_, ?_, fn, (hf _ _ x13 (by rw [s11 _ _ x11]; exact zK6_0)).1, x14⟩
      · rw [upd_o z, y6 i hi2]; exact x6
      · rw [upd_o z, y7 i hi2]; exact x7
      · rw [upd_o z, y8 i hi2]; exact x8
      · rw [upd_o z, y9 i hi2]; exact x9
      · rw [upd_o z, y10 i hi2]; exact x10
      · rw [vup_o z, hg11.1 i hi2]; exact x11
      · rw [vup_o z, hg12.1 i hi2]; exact x12
  · obtain ⟨nx, fx, e, -⟩ := k11 j v hv
    exact ⟨nx, fx, e⟩
  · obtain ⟨nx, fx, e, -⟩ := k12 j v hv
    exact ⟨nx, fx, e⟩
  · rintro i (rfl | rfl) n f hg j v hv
    · have hg2 : G2 q11 = _ := hg
      rw [r11] at hg2
      have e : va_up g11 an.length (some b1) = f := by simpa using congrArg (fun o : Option va_E => match o with | some (.inl (_, _, .inr (.inr (.inr (.inr g))))) => g | _ => fun _ => none) hg2
      subst e
      obtain ⟨nx, fx, e, e2⟩ := k11 j v hv
      exact e2
    · have hg2 : G2 q12 = _ := hg
      rw [r12] at hg2
      have e : va_up g12 an.length o = f := by simpa using congrArg (fun o : Option va_E => match o with | some (.inl (_, _, .inr (.inr (.inr (.inr g))))) => g | _ => fun _ => none) hg2
      subst e
      obtain ⟨nx, fx, e, e2⟩ := k12 j v hv
      exact e2
/-- how much the rows have grown, with what lies in the pool -/
def rPh (h : Nat → Nat) (W : zW) (n : Nat) : Nat := 14 * rcp (h 40) (wln W) + 2 * rcp (h 41) (rPw W + n)
theorem rcp_one {c n : Nat} (h : rcp c n = n) : rcp c (n + 1) = 2 * n := by rw [rcp_s, if_pos h]
theorem rcp_not {c n : Nat} (h : ¬ rcp c n = n) : rcp c (n + 1) = rcp c n := by rw [rcp_s, if_neg h]
theorem t_Mo_add_c (l : Launch) {E : zc_E} {G : zg_G} {ro : zRo} {h : Nat → Nat} {lo : np_N} {rs : List zRt} {W : zW} {px : List Int32} {q : Prop} {nq : Nat × Int32 × np_N × zWs} {th co se : Int32} {tp : List Int32} {v19 v20 : Value} (hc : rCx E G ro h lo rs W px q nq th tp co se v19 v20) (hln : wln W < 2 ^ 16) (sx : Int32) (hs : sx = 1 ∨ sx = 2 ∨ sx = 3) (b1 : Nat) (ls1 : np_N) (hn1 : rNm E G ro b1 ls1) (tx ux : Int32) (ht : tx ≠ 47) (b2 : Nat) (D : List Int32) (hD : zBy E G b2 D) (hr2 : ro b2 = (0, 0)) (hq1 : q → sx = 1 → ∃ e ∈ rs, b2 = rD e ∧ rT e = tx) (hq2 : q → nq.2.1 = sx ∧ nq.2.2.1 = ls1) : zMv l E y_Mo_add c_Mo_add 8 (rm_Mo_add (14 * (rcp (h 40) (wln W + 1) - rcp (h 40) (wln W))) (14 * (rcp (h 40) (wln W + 1) - rcp (h 40) (wln W)))) [.ref (h 0), .int sx, .ref b1, .int tx, .int ux, .ref b2, .int 0, .int (nI D.length)] G (fun G2 => ∃ r2 h2, rCx E G2 r2 h2 lo rs (wad sx W [(ls1, tx, ux, D)]) px q nq th tp co se v19 v20 ∧ zfr ro zKr G r2 G2 ∧ rhs h h2) := by
  obtain ⟨a1, a2, ⟨fm, a3, a4, a5, a6⟩, a7, a8, a9, b1', b2'⟩ := id hc
  obtain ⟨ws, an, pl, ff, fp, p1, p2, p3, p4, p5, p6, p7, p8, ⟨x1, x2, x3, x4, x5, x6⟩, ⟨y1, y2, y3⟩, y4, y5, y6, y7, y8⟩ := b2'
  obtain ⟨⟨z1, z2, f6, f7, f8, f9, f10, f11, f12, c6, c7, c8, c9, c10, c11, c12, z3, z4, z5⟩, c1, c2⟩ := id p6
  obtain ⟨fb, n1, n2, n3, n4, n5⟩ := id hn1
  obtain ⟨fd, d1, d2⟩ := id hD
  have hwl : wln W = an.length := by rw [← p1, rW_len p2, p3]
  have hnd : [h 12, h 11, h 10, h 9, h 8, h 7, h 6].Nodup := by
    have hd : ∀ i j, 6 ≤ i → i ≤ 12 → 6 ≤ j → j ≤ 12 → i ≠ j → h i ≠ h j := fun i j i6 i12 j6 j12 hij z => by
      have e1 := c1 i i6 i12
      rw [z, c1 j j6 j12] at e1
      exact hij (congrArg Prod.snd e1).symm
    have e : [h 12, h 11, h 10, h 9, h 8, h 7, h 6] = [12, 11, 10, 9, 8, 7, 6].map h := rfl
    rw [e]
    unfold List.Nodup
    rw [List.pairwise_map]
    refine List.Pairwise.imp_of_mem (R := fun a b => a ≠ b) (fun {a b} ha hb hab => ?_) (by decide)
    have hm : ∀ x ∈ [12, 11, 10, 9, 8, 7, 6], 6 ≤ x ∧ x ≤ 12 := by decide
    exact hd a b (hm a ha).1 (hm a ha).2 (hm b hb).1 (hm b hb).2 hab
  have hbn : ∀ b, ro b = (0, 0) → b ∉ [h 12, h 11, h 10, h 9, h 8, h 7, h 6] := fun b hb hm => by
    have e : [h 12, h 11, h 10, h 9, h 8, h 7, h 6] = [12, 11, 10, 9, 8, 7, 6].map h := rfl
    rw [e, List.mem_map] at hm
    obtain ⟨i, hi, z⟩ := hm
    have hm : ∀ x ∈ [12, 11, 10, 9, 8, 7, 6], 6 ≤ x ∧ x ≤ 12 := by decide
    have e1 := c1 i (hm i hi).1 (hm i hi).2
    rw [z, hb] at e1
    have e2 := congrArg Prod.fst e1
    simp at e2
  have hge := rcp_ge (c := h 40) (by omega) (wln W)
  have h9 : rcp (h 40) (wln W) = wln W → 7 ≤ 14 * (rcp (h 40) (wln W + 1) - rcp (h 40) (wln W)) ∧ 14 * rcp (h 40) (wln W) ≤ 14 * (rcp (h 40) (wln W + 1) - rcp (h 40) (wln W)) := fun z => by
    rw [rcp_one z, z]; omega
  have hb := t_Mo_add l E G (wln W) (h 0) (h 1) (h 3) (h 4) (h 6) (h 7) (h 8) (h 9) (h 10) (h 11) (h 12) (h 15) (h 18) th (nI tp.length) (nI rs.length) co (nI (rPw W + px.length)) se v19 v20 a1 (rcp (h 40) (wln W)) (by omega) f6 f7 f8 f9 f10 f11 f12 c6 c7 c8 c9 c10 c11 c12 z4 z5 hge.1 (by omega) hnd b1 (np_len ls1) fb n1 (hbn b1 n5) b2 D.length fd d1 (hbn b2 hr2) sx tx ux 0 (nI D.length) _ _ h9
  refine hb.imp (fun G2 hp => ?_)
  obtain ⟨q6, q7, q8, q9, q10, q11, q12, k2, g6, g7, g8, g9, g10, g11, g12, hx, hqs, hndq, hga, hrw, hk2, hk3, hgf, hg11, hg12⟩ := hp
  have hk4 : k2 ≤ 2 ^ 20 := by rw [hk2]; split <;> omega
  rw [hwl] at hrw hk3 hgf hg11 hg12
  obtain ⟨hAN, hf⟩ := p6.add a2 c6 c7 c8 c9 c10 c11 c12 hn1 (o := (some b2)) (pI := 0) (pZ := D.length) (fun v hv => by cases hv; exact ⟨hr2, _, _, d1⟩) nI_0.symm rfl hx hqs hndq hrw hk3 hk4 hgf hg11 hg12
  have e47 : wl47 [(ls1, tx, ux, D)] = 0 := wl47_0 (fun e he => by rw [List.mem_singleton.mp he]; exact ht)
  have eN : rPw (wad sx W [(ls1, tx, ux, D)]) + px.length = rPw W + px.length := by rw [rPw_ad, e47]; rfl
  have eL : wln (wad sx W [(ls1, tx, ux, D)]) = wln W + 1 := by rw [wln_ad]; rfl
  have ek : k2 = rcp (h 40) (wln (wad sx W [(ls1, tx, ux, D)])) := by rw [eL, rcp_s, hk2]
  have q1 := hf _ _ a3 (by rw [a6]; rintro (z | z) <;> simp at z)
  have qx := hf _ _ x1 (by rw [x6]; rintro (z | z) <;> simp at z)
  have qy := hf _ _ y1 (by rw [y3]; rintro (z | z) <;> simp at z)
  have q0 : rru ro q6 q7 q8 q9 q10 q11 q12 (h 0) = (20, 0) := by
    have hn0 : ∀ i, 6 ≤ i → i ≤ 12 → h 0 ≠ h i := fun i i6 i12 z => by
      have e1 := c1 i i6 i12
      rw [← z, a2] at e1
      have := congrArg Prod.snd e1
      have e2 : 0 = i := this
      omega
    refine (rru_ne ?_).trans a2
    rcases hqs with ⟨w6, w7, w8, w9, w10, w11, w12⟩ | ⟨w6, w7, w8, w9, w10, w11, w12⟩
    · exact ⟨by rw [w6]; exact hn0 6 (by decide) (by decide), by rw [w7]; exact hn0 7 (by decide) (by decide), by rw [w8]; exact hn0 8 (by decide) (by decide), by rw [w9]; exact hn0 9 (by decide) (by decide), by rw [w10]; exact hn0 10 (by decide) (by decide), by rw [w11]; exact hn0 11 (by decide) (by decide), by rw [w12]; exact hn0 12 (by decide) (by decide)⟩
    · exact ⟨zg_fr w6 a1, zg_fr w7 a1, zg_fr w8 a1, zg_fr w9 a1, zg_fr w10 a1, zg_fr w11 a1, zg_fr w12 a1⟩
  refine ⟨rru ro q6 q7 q8 q9 q10 q11 q12, rhu h q6 q7 q8 q9 q10 q11 q12, ⟨?_, q0, ⟨fm, q1.1, a4, a5, q1.2.trans a6⟩, a7, a8.fr hf zK6_0, a9.fr hf zK6_0 (by rintro (z | z) <;> simp at z) (by rintro (z | z) <;> simp at z), b1', ?_⟩, hf.w zK6_r, rfl, rfl, rfl⟩
  · rw [eL, eN]; exact hga
  · refine ⟨ws ++ [(sx, ls1, tx, ux, D)], an ++ [(sx, b1, ls1, tx, ux, (some b2), 0, D.length)], pl, ff, fp, by rw [rW_s ws _ hs, p1], fun p hp => ?_, by rw [List.length_append, List.length_append, p3]; rfl, by rw [rPw_ad, e47]; exact p4, trivial, by rw [← show k2 = rcp (rhu h q6 q7 q8 q9 q10 q11 q12 40) (wln (wad sx W [(ls1, tx, ux, D)])) from ek]; exact hAN, p7, fun i hi => ?_, ⟨by rw [eN]; exact qx.1, x2, by rw [eN]; exact x3, fun j hj => by rw [eN] at hj; exact x4 j hj, x5, qx.2.trans x6⟩, ⟨qy.1, y2, qy.2.trans y3⟩, fun hq i hi hi1 => ?_, by rw [List.length_append]; omega, fun i hi => ?_, fun hq i hi hi2 => ?_, y8.trans (List.prefix_append _ _)⟩
    · rcases List.mem_append.mp hp with z | z
      · exact p2 p z
      · rw [List.mem_singleton.mp z]; exact hs
    · rw [List.length_append, List.length_singleton] at hi
      by_cases z : i = ws.length
      · rw [z, we_last, ← p3, ae_last]
        exact ⟨rfl, rfl, rfl, rfl, Or.inl ⟨b2, rfl, rfl, rfl, (hD.fr hr2 hf zK6_0).1, (hD.fr hr2 hf zK6_0).2⟩⟩
      · rw [we_app (by omega), ae_app (by omega)]
        exact (p8 i (by omega)).fr hf zK6_0
    · rw [List.length_append, List.length_singleton] at hi
      by_cases z : i = ws.length
      · rw [z, we_last] at hi1
        rw [z, ← p3, ae_last]
        obtain ⟨e, he, w1, w2⟩ := hq1 hq hi1
        exact ⟨e, he, congrArg some w1, w2⟩
      · rw [we_app (by omega)] at hi1
        rw [ae_app (by omega)]
        exact y4 hq i (by omega) hi1
    · rw [we_app (by omega)]
      exact y6 i hi
    · rw [List.length_append, List.length_singleton] at hi2
      by_cases z : i = ws.length
      · rw [z, we_last]
        exact ⟨(hq2 hq).1.symm, (hq2 hq).2.symm⟩
      · rw [we_app (by omega)]
        exact y7 hq i hi (by omega)
theorem t_Mo_add_n (l : Launch) {E : zc_E} {G : zg_G} {ro : zRo} {h : Nat → Nat} {lo : np_N} {rs : List zRt} {W : zW} {px : List Int32} {q : Prop} {nq : Nat × Int32 × np_N × zWs} {th co se : Int32} {tp : List Int32} {v19 v20 : Value} (hc : rCx E G ro h lo rs W px q nq th tp co se v19 v20) (hln : wln W < 2 ^ 16) (b1 : Nat) (ls1 : np_N) (hn1 : rNm E G ro b1 ls1) (ux : Int32) (hq2 : q → nq.2.1 = 2 ∧ nq.2.2.1 = ls1) : zMv l E y_Mo_add c_Mo_add 8 (rm_Mo_add_p (14 * (rcp (h 40) (wln W + 1) - rcp (h 40) (wln W))) (14 * (rcp (h 40) (wln W + 1) - rcp (h 40) (wln W)))) [.ref (h 0), .int 2, .ref b1, .int 47, .int ux, .null, .int (nI (rPw W)), .int (nI px.length)] G (fun G2 => ∃ r2 h2, rCx E G2 r2 h2 lo rs (wad 2 W [(ls1, 47, ux, px)]) [] q nq th tp co se v19 v20 ∧ zfr ro zKr G r2 G2 ∧ rhs h h2) := by
  obtain ⟨a1, a2, ⟨fm, a3, a4, a5, a6⟩, a7, a8, a9, b1', b2'⟩ := id hc
  obtain ⟨ws, an, pl, ff, fp, p1, p2, p3, p4, p5, p6, p7, p8, ⟨x1, x2, x3, x4, x5, x6⟩, ⟨y1, y2, y3⟩, y4, y5, y6, y7, y8⟩ := b2'
  obtain ⟨⟨z1, z2, f6, f7, f8, f9, f10, f11, f12, c6, c7, c8, c9, c10, c11, c12, z3, z4, z5⟩, c1, c2⟩ := id p6
  obtain ⟨fb, n1, n2, n3, n4, n5⟩ := id hn1
  have hwl : wln W = an.length := by rw [← p1, rW_len p2, p3]
  have hnd : [h 12, h 11, h 10, h 9, h 8, h 7, h 6].Nodup := by
    have hd : ∀ i j, 6 ≤ i → i ≤ 12 → 6 ≤ j → j ≤ 12 → i ≠ j → h i ≠ h j := fun i j i6 i12 j6 j12 hij z => by
      have e1 := c1 i i6 i12
      rw [z, c1 j j6 j12] at e1
      exact hij (congrArg Prod.snd e1).symm
    have e : [h 12, h 11, h 10, h 9, h 8, h 7, h 6] = [12, 11, 10, 9, 8, 7, 6].map h := rfl
    rw [e]
    unfold List.Nodup
    rw [List.pairwise_map]
    refine List.Pairwise.imp_of_mem (R := fun a b => a ≠ b) (fun {a b} ha hb hab => ?_) (by decide)
    have hm : ∀ x ∈ [12, 11, 10, 9, 8, 7, 6], 6 ≤ x ∧ x ≤ 12 := by decide
    exact hd a b (hm a ha).1 (hm a ha).2 (hm b hb).1 (hm b hb).2 hab
  have hbn : ∀ b, ro b = (0, 0) → b ∉ [h 12, h 11, h 10, h 9, h 8, h 7, h 6] := fun b hb hm => by
    have e : [h 12, h 11, h 10, h 9, h 8, h 7, h 6] = [12, 11, 10, 9, 8, 7, 6].map h := rfl
    rw [e, List.mem_map] at hm
    obtain ⟨i, hi, z⟩ := hm
    have hm : ∀ x ∈ [12, 11, 10, 9, 8, 7, 6], 6 ≤ x ∧ x ≤ 12 := by decide
    have e1 := c1 i (hm i hi).1 (hm i hi).2
    rw [z, hb] at e1
    have e2 := congrArg Prod.fst e1
    simp at e2
  have hge := rcp_ge (c := h 40) (by omega) (wln W)
  have h9 : rcp (h 40) (wln W) = wln W → 7 ≤ 14 * (rcp (h 40) (wln W + 1) - rcp (h 40) (wln W)) ∧ 14 * rcp (h 40) (wln W) ≤ 14 * (rcp (h 40) (wln W + 1) - rcp (h 40) (wln W)) := fun z => by
    rw [rcp_one z, z]; omega
  have hb := t_Mo_add_p l E G (wln W) (h 0) (h 1) (h 3) (h 4) (h 6) (h 7) (h 8) (h 9) (h 10) (h 11) (h 12) (h 15) (h 18) th (nI tp.length) (nI rs.length) co (nI (rPw W + px.length)) se v19 v20 a1 (rcp (h 40) (wln W)) (by omega) f6 f7 f8 f9 f10 f11 f12 c6 c7 c8 c9 c10 c11 c12 z4 z5 hge.1 (by omega) hnd b1 (np_len ls1) fb n1 (hbn b1 n5) 2 47 ux (nI (rPw W)) (nI px.length) _ _ h9
  refine hb.imp (fun G2 hp => ?_)
  obtain ⟨q6, q7, q8, q9, q10, q11, q12, k2, g6, g7, g8, g9, g10, g11, g12, hx, hqs, hndq, hga, hrw, hk2, hk3, hgf, hg11, hg12⟩ := hp
  have hk4 : k2 ≤ 2 ^ 20 := by rw [hk2]; split <;> omega
  rw [hwl] at hrw hk3 hgf hg11 hg12
  obtain ⟨hAN, hf⟩ := p6.add a2 c6 c7 c8 c9 c10 c11 c12 hn1 (o := none) (pI := (rPw W)) (pZ := px.length) (fun v hv => by cases hv) rfl rfl hx hqs hndq hrw hk3 hk4 hgf hg11 hg12
  have e47 : wl47 [(ls1, 47, ux, px)] = px.length := wl47_1 _ _ _
  have eN : rPw (wad 2 W [(ls1, 47, ux, px)]) + ([] : List Int32).length = rPw W + px.length := by rw [rPw_ad, e47]; rfl
  have eL : wln (wad 2 W [(ls1, 47, ux, px)]) = wln W + 1 := by rw [wln_ad]; rfl
  have ek : k2 = rcp (h 40) (wln (wad 2 W [(ls1, 47, ux, px)])) := by rw [eL, rcp_s, hk2]
  have q1 := hf _ _ a3 (by rw [a6]; rintro (z | z) <;> simp at z)
  have qx := hf _ _ x1 (by rw [x6]; rintro (z | z) <;> simp at z)
  have qy := hf _ _ y1 (by rw [y3]; rintro (z | z) <;> simp at z)
  have q0 : rru ro q6 q7 q8 q9 q10 q11 q12 (h 0) = (20, 0) := by
    have hn0 : ∀ i, 6 ≤ i → i ≤ 12 → h 0 ≠ h i := fun i i6 i12 z => by
      have e1 := c1 i i6 i12
      rw [← z, a2] at e1
      have := congrArg Prod.snd e1
      have e2 : 0 = i := this
      omega
    refine (rru_ne ?_).trans a2
    rcases hqs with ⟨w6, w7, w8, w9, w10, w11, w12⟩ | ⟨w6, w7, w8, w9, w10, w11, w12⟩
    · exact ⟨by rw [w6]; exact hn0 6 (by decide) (by decide), by rw [w7]; exact hn0 7 (by decide) (by decide), by rw [w8]; exact hn0 8 (by decide) (by decide), by rw [w9]; exact hn0 9 (by decide) (by decide), by rw [w10]; exact hn0 10 (by decide) (by decide), by rw [w11]; exact hn0 11 (by decide) (by decide), by rw [w12]; exact hn0 12 (by decide) (by decide)⟩
    · exact ⟨zg_fr w6 a1, zg_fr w7 a1, zg_fr w8 a1, zg_fr w9 a1, zg_fr w10 a1, zg_fr w11 a1, zg_fr w12 a1⟩
  refine ⟨rru ro q6 q7 q8 q9 q10 q11 q12, rhu h q6 q7 q8 q9 q10 q11 q12, ⟨?_, q0, ⟨fm, q1.1, a4, a5, q1.2.trans a6⟩, a7, a8.fr hf zK6_0, a9.fr hf zK6_0 (by rintro (z | z) <;> simp at z) (by rintro (z | z) <;> simp at z), b1', ?_⟩, hf.w zK6_r, rfl, rfl, rfl⟩
  · rw [eL, eN]; exact hga
  · refine ⟨ws ++ [(2, ls1, 47, ux, px)], an ++ [(2, b1, ls1, 47, ux, none, (rPw W), px.length)], (pl ++ px), ff, fp, by rw [rW_s ws _ (Or.inr (Or.inl rfl)), p1], fun p hp => ?_, by rw [List.length_append, List.length_append, p3]; rfl, by rw [rPw_ad, e47, List.length_append, p4], trivial, by rw [← show k2 = rcp (rhu h q6 q7 q8 q9 q10 q11 q12 40) (wln (wad 2 W [(ls1, 47, ux, px)])) from ek]; exact hAN, p7, fun i hi => ?_, ⟨by rw [eN]; exact qx.1, x2, by rw [eN]; exact x3, fun j hj => by rw [eN] at hj; exact by rw [List.append_nil]; exact x4 j hj, x5, qx.2.trans x6⟩, ⟨qy.1, y2, qy.2.trans y3⟩, fun hq i hi hi1 => ?_, by rw [List.length_append]; omega, fun i hi => ?_, fun hq i hi hi2 => ?_, y8.trans (List.prefix_append _ _)⟩
    · rcases List.mem_append.mp hp with z | z
      · exact p2 p z
      · rw [List.mem_singleton.mp z]; exact (Or.inr (Or.inl rfl))
    · rw [List.length_append, List.length_singleton] at hi
      by_cases z : i = ws.length
      · rw [z, we_last, ← p3, ae_last]
        exact ⟨rfl, rfl, rfl, rfl, Or.inr ⟨rfl, by show rPw W + px.length ≤ (pl ++ px).length; rw [List.length_append]; omega, by show px = ((pl ++ px).drop (rPw W)).take px.length; rw [← p4, List.drop_left, List.take_length]⟩⟩
      · rw [we_app (by omega), ae_app (by omega)]
        exact ((p8 i (by omega)).pre (qx := px)).fr hf zK6_0
    · rw [List.length_append, List.length_singleton] at hi
      by_cases z : i = ws.length
      · rw [z, we_last] at hi1
        rw [z, ← p3, ae_last]
        exact absurd (show (2 : Int32) = 1 from hi1) (by decide)
      · rw [we_app (by omega)] at hi1
        rw [ae_app (by omega)]
        exact y4 hq i (by omega) hi1
    · rw [we_app (by omega)]
      exact y6 i hi
    · rw [List.length_append, List.length_singleton] at hi2
      by_cases z : i = ws.length
      · rw [z, we_last]
        exact ⟨(hq2 hq).1.symm, (hq2 hq).2.symm⟩
      · rw [we_app (by omega)]
        exact y7 hq i hi (by omega)
