/-! THE CLASS'S ZONE against what is asked for -/
def zGZ (os : List zOt) (top : np_N) : Prop := zgo os ∧ zctd os ∧ 0 < os.length ∧ oM (oe os 0) = top ∧ (∀ i, i < os.length → top <:+ oM (oe os i) ∧ zfn (oM (oe os i)) ∧ np_g (oM (oe os i)) ∧ zty (oe os i)) ∧ ∀ i j, i < os.length → j < os.length → oA (oe os i) = oA (oe os j) → i = j
section ZCL
variable {os : List zOt} {top : np_N}
theorem zV_nil {x : np_N} {t : Int32} (h : ∀ i, i < os.length → ¬ oM (oe os i) = x) : zV os x t = [] := by
  unfold zV
  rw [zgt_no (oe_out h)]; rfl
theorem zV_s {k si : Nat} (h : zgo os) (hk : k < os.length) (hs : si < (oX (oe os k)).length) : zV os (oM (oe os k)) (sT (oS (oe os k) si)) = (sX (oS (oe os k) si)).map (fun d => (sU (oS (oe os k) si), d.2.1)) := by
  unfold zV
  rw [zgt_s h hk hs, List.map_map]; rfl
theorem zV_ne {i : Nat} {t : Int32} (h : zgo os) (hi : i < os.length) : zV os (oM (oe os i)) t ≠ [] ↔ zhT (oe os i) t := by
  constructor
  · intro hn
    by_cases z : zhT (oe os i) t
    · exact z
    · refine absurd ?_ hn
      unfold zV
      rw [zgt_at h.1 hi rfl, zgX_no (fun s hs e => z ?_)]
      · rfl
      · obtain ⟨j, hj, rfl⟩ := oS_ix hs
        exact ⟨j, hj, e⟩
  · rintro ⟨j, hj, rfl⟩ e
    rw [zV_s h hi hj] at e
    have := (h.2 i hi).2.2 j hj
    rw [List.map_eq_nil_iff.mp e] at this
    exact absurd this (Nat.lt_irrefl _)
theorem vD_of {i : Nat} (h : zgo os) (hi : i < os.length) : vD (zV os) (oM (oe os i)) := ⟨_, (zV_ne h hi).mpr ⟨0, (h.2 i hi).2.1, rfl⟩⟩
theorem vD_ix {x : np_N} (h : vD (zV os) x) : ∃ i, i < os.length ∧ oM (oe os i) = x := by
  obtain ⟨t, ht⟩ := h
  by_cases z : ∃ i, i < os.length ∧ oM (oe os i) = x
  · exact z
  · exact absurd (zV_nil (fun i hi e => z ⟨i, hi, e⟩)) ht
theorem zGZ.fn (h : zGZ os top) {i : Nat} (hi : i < os.length) : zfn (oM (oe os i)) := (h.2.2.2.2.1 i hi).2.1
theorem zGZ.gd (h : zGZ os top) : vgd (zV os) := by
  intro x hx
  obtain ⟨i, hi, rfl⟩ := vD_ix hx
  exact ⟨h.fn hi, (h.2.2.2.2.1 i hi).2.2.1⟩
theorem zGZ.lt (h : zGZ os top) {i j : Nat} (hi : i < os.length) (hj : j < os.length) : zl (oM (oe os i)) (oM (oe os j)) ↔ i < j := by
  constructor
  · intro z
    rcases Nat.lt_trichotomy i j with w | w | w
    · exact w
    · rw [w] at z; exact absurd z (zl_ir _)
    · exact absurd (h.1.1 j i w hi) (zl_ay z)
  · intro z; exact h.1.1 i j z hj
theorem zGZ.ix (h : zGZ os top) {i j : Nat} (hi : i < os.length) (hj : j < os.length) (e : oM (oe os i) = oM (oe os j)) : i = j := by
  rcases Nat.lt_trichotomy i j with w | w | w
  · have := (h.lt hi hj).mpr w; rw [e] at this; exact absurd this (zl_ir _)
  · exact w
  · have := (h.lt hj hi).mpr w; rw [e] at this; exact absurd this (zl_ir _)
theorem zGZ.ct (h : zGZ os top) {k : Nat} {x : np_N} (hk : k < os.length) (h0 : 0 < k) (h2 : zhT (oe os k) 2) (hs : oM (oe os k) <:+ x) : isCt (zV os) top x (oM (oe os k)) := by
  refine ⟨hs, ?_, (zV_ne h.1 hk).mpr h2⟩
  have q := (h.2.2.2.2.1 k hk).1
  rcases Nat.lt_or_ge top.length (oM (oe os k)).length with z | z
  · exact z
  · have e := q.eq_of_length (Nat.le_antisymm q.length_le z)
    rw [← h.2.2.2.1] at e
    exact absurd (h.ix h.2.2.1 hk e) (by omega)
theorem zGZ.ct2 (h : zGZ os top) {x c : np_N} (hc : isCt (zV os) top x c) : ∃ k, k < os.length ∧ 0 < k ∧ zhT (oe os k) 2 ∧ oM (oe os k) = c := by
  obtain ⟨k, hk, e⟩ := vD_ix (os := os) ⟨2, hc.2.2⟩
  refine ⟨k, hk, ?_, ?_, e⟩
  · rcases Nat.eq_zero_or_pos k with z | z
    · rw [z, h.2.2.2.1] at e
      have := hc.2.1; rw [e] at this; exact absurd this (Nat.lt_irrefl _)
    · exact z
  · have := hc.2.2; rw [← e] at this; exact (zV_ne h.1 hk).mp this
theorem zcs_s {i k : Nat} (h : zcs os (i + 1) = some k) : k ≤ i ∧ 0 < k ∧ zhT (oe os k) 2 ∧ oM (oe os k) <:+ oM (oe os i) := by
  have hw : ∀ {k}, zcw os i = some k → k = i ∧ zhT (oe os i) 2 := fun {k} z => by
    refine ⟨zcw_lt z, ?_⟩
    unfold zcw at z
    split at z
    · rename_i q; exact zhT_b.mpr q
    · cases z
  induction i generalizing k with
  | zero => cases h
  | succ i ih =>
    by_cases z : ∃ k', zcs os (i + 1) = some k' ∧ oM (oe os k') <:+ oM (oe os (i + 1))
    · obtain ⟨k', h1, h2⟩ := z
      rw [zcs_keep (by omega) h1 h2] at h
      cases h
      have q := ih h1 (fun {k} z => by
        refine ⟨zcw_lt z, ?_⟩
        unfold zcw at z
        split at z
        · rename_i q; exact zhT_b.mpr q
        · cases z)
      exact ⟨by omega, q.2.1, q.2.2.1, h2⟩
    · rw [zcs_w (by omega) (fun k' h1 h2 => z ⟨k', h1, h2⟩)] at h
      obtain ⟨rfl, q⟩ := hw h
      exact ⟨Nat.le_refl _, by omega, q, List.suffix_refl _⟩
/-- the owners' marks are the cuts -/
theorem zGZ.co (h : zGZ os top) : ∀ i, i < os.length → vco (zV os) top (oM (oe os i)) = (zcs os (i + 1)).map (fun k => oM (oe os k)) := by
  intro i
  induction i with
  | zero =>
    intro hi
    rw [zcs_1, h.2.2.2.1]
    refine vco_no (fun c hc => ?_)
    have := hc.1.length_le
    have := hc.2.1
    omega
  | succ i ih =>
    intro hn
    have hi : i < os.length := by omega
    have IH := ih hi
    have hA : ∀ c, isCt (zV os) top (oM (oe os (i + 1))) c → c ≠ oM (oe os (i + 1)) → isCt (zV os) top (oM (oe os i)) c := by
      intro c hc hne
      obtain ⟨k, hk, h0, h2, e⟩ := h.ct2 hc
      have hlt : k < i + 1 := by
        rw [← e] at hne hc
        exact (h.lt hk hn).mp (zl_suf hc.1 hne)
      refine ⟨zl_btw (x := oM (oe os (i + 1))) (by rw [← e]; exact h.fn hk) (h.fn hi) hc.1 ?_ ?_, hc.2⟩
      · rw [← e, h.lt hi hk]; omega
      · rw [h.lt hn hi]; omega
    by_cases z : ∃ k', zcs os (i + 1) = some k' ∧ oM (oe os k') <:+ oM (oe os (i + 1))
    · obtain ⟨k, h1, h2⟩ := z
      have q := zcs_s h1
      rw [zcs_keep (by omega) h1 h2]
      rw [h1] at IH
      have hco := vco_s IH
      refine vco_y ⟨h.ct (by omega) q.2.1 q.2.2.1 h2, fun c2 hc2 => ?_⟩
      by_cases e : c2 = oM (oe os (i + 1))
      · rw [e]; exact h2.length_le
      · exact hco.2 c2 (hA c2 hc2 e)
    · have hnk : ∀ k', zcs os (i + 1) = some k' → ¬ oM (oe os k') <:+ oM (oe os (i + 1)) := fun k' h1 h2 => z ⟨k', h1, h2⟩
      have hB : ∀ c, isCt (zV os) top (oM (oe os (i + 1))) c → c = oM (oe os (i + 1)) := by
        intro c hc
        by_cases e : c = oM (oe os (i + 1))
        · exact e
        · have hc2 := hA c hc e
          cases hz : zcs os (i + 1) with
          | none => rw [hz] at IH; exact absurd hc2 (vco_n IH c)
          | some k' =>
            rw [hz] at IH
            have hco := vco_s IH
            exact absurd ((suf_len hco.1.1 hc2.1 (hco.2 c hc2)).trans hc.1) (hnk k' hz)
      rw [zcs_w (by omega) hnk]
      by_cases w : zhT (oe os (i + 1)) 2
      · rw [zcw_y w]
        exact vco_y ⟨h.ct hn (by omega) w (List.suffix_refl _), fun c2 hc2 => by rw [hB c2 hc2]; exact Nat.le_refl _⟩
      · rw [zcw_n w]
        refine vco_no (fun c hc => w ?_)
        have e := hB c hc
        have := hc.2.2
        rw [e] at this
        exact (zV_ne h.1 hn).mp this
theorem zGZ.mk9 (h : zGZ os top) {i : Nat} (hi : i < os.length) : oC (oe os i) = (zcs os (i + 1)).map (fun k => oA (oe os k)) := h.2.1 i hi
theorem zGZ.gb (h : zGZ os top) {i : Nat} (hi : i < os.length) : zgb (oe os i) = true ↔ vaw (zV os) top (oM (oe os i)) := by
  unfold zgb vaw
  rw [h.mk9 hi, h.co i hi]
  cases hz : zcs os (i + 1) with
  | none => simp
  | some k =>
    have q := zcs_s hz
    have hk : k < os.length := by omega
    simp only [Option.map_some, Bool.not_eq_true', beq_eq_false_iff_ne, ne_eq, Option.some.injEq]
    constructor
    · intro w
      exact ⟨_, rfl, fun e => w (by rw [h.ix hk hi e])⟩
    · rintro ⟨c, rfl, w⟩ e
      exact w (by rw [h.2.2.2.2.2 k i hk hi e])
theorem zGZ.cut (h : zGZ os top) {i : Nat} (hi : i < os.length) : oC (oe os i) = some (oA (oe os i)) ↔ vco (zV os) top (oM (oe os i)) = some (oM (oe os i)) := by
  rw [h.mk9 hi, h.co i hi]
  cases hz : zcs os (i + 1) with
  | none => simp
  | some k =>
    have q := zcs_s hz
    have hk : k < os.length := by omega
    simp only [Option.map_some, Option.some.injEq]
    exact ⟨fun e => by rw [h.2.2.2.2.2 k i hk hi e], fun e => by rw [h.ix hk hi e]⟩
theorem zGZ.top0 (h : zGZ os top) : vch (zV os) top top := by
  refine ⟨h.2.2.2.1 ▸ vD_of h.1 h.2.2.1, ?_⟩
  rintro ⟨c, h1, -⟩
  have hc := (vco_s h1).1
  have := hc.1.length_le
  have := hc.2.1
  omega
theorem zGZ.ch (h : zGZ os top) {i : Nat} (hi : i < os.length) (hb : i = 0 ∨ ¬ zgb (oe os i) = true) : vch (zV os) top (oM (oe os i)) := by
  rcases hb with rfl | hb
  · rw [h.2.2.2.1]; exact h.top0
  · exact ⟨vD_of h.1 hi, fun z => hb ((h.gb hi).mpr z)⟩
theorem zGZ.ch2 (h : zGZ os top) {y : np_N} (hy : vch (zV os) top y) : ∃ i, i < os.length ∧ oM (oe os i) = y ∧ ¬ zgb (oe os i) = true := by
  obtain ⟨i, hi, rfl⟩ := vD_ix hy.1
  exact ⟨i, hi, rfl, fun z => hy.2 ((h.gb hi).mp z)⟩
/-- the place of x among the owners -/
def zpl9 (os : List zOt) (x : np_N) (k : Nat) : Prop := k ≤ os.length ∧ (∀ i, i < k → zl (oM (oe os i)) x) ∧ ∀ i, k ≤ i → i < os.length → ¬ zl (oM (oe os i)) x
theorem zGZ.ov (h : zGZ os top) {x : np_N} {k j : Nat} (hk : zpl9 os x k) (hj : j < k) (hb : j = 0 ∨ ¬ zgb (oe os j) = true) (hg : ∀ i, j < i → i < k → zgb (oe os i) = true) : vov (zV os) top x = oM (oe os j) := by
  have hjl : j < os.length := Nat.lt_of_lt_of_le hj hk.1
  refine vov_y h.gd ⟨h.ch hjl hb, hk.2.1 j hj, fun y hy hyx z => ?_⟩
  obtain ⟨i, hi, rfl, hn⟩ := h.ch2 hy
  have hik : i < k := by
    rcases Nat.lt_or_ge i k with w | w
    · exact w
    · exact absurd hyx (hk.2.2 i w hi)
  exact hn (hg i ((h.lt hjl hi).mp z) hik)
theorem zGZ.at (h : zGZ os top) {x : np_N} {k j : Nat} (hk : k < os.length) (e : oM (oe os k) = x) (hj : j ≤ k) (hb : j = 0 ∨ ¬ zgb (oe os j) = true) (hg : ∀ i, j < i → i ≤ k → zgb (oe os i) = true) : vat (zV os) top x = oM (oe os j) := by
  unfold vat
  by_cases z : vch (zV os) top x
  · rw [zif_y z, ← e]
    rcases Nat.lt_or_ge j k with w | w
    · rw [← e] at z
      exact absurd ((h.gb hk).mp (hg k w (Nat.le_refl _))) z.2
    · rw [show j = k by omega]
  · rw [zif_n z]
    have hjk : j < k := by
      rcases Nat.lt_or_ge j k with w | w
      · exact w
      · rw [show j = k by omega] at hb
        exact absurd (e ▸ h.ch hk hb) z
    refine h.ov (k := k) ⟨by omega, fun i hi => ?_, fun i h1 h2 => ?_⟩ hjk hb (fun i h1 h2 => hg i h1 (by omega))
    · rw [← e, h.lt (by omega) hk]; exact hi
    · rw [← e, h.lt h2 hk]; omega
theorem zGZ.nx (h : zGZ os top) {pl nx : Nat} (hp : pl < os.length) (hn : zNx os pl nx) : vnx (zV os) top (oM (oe os pl)) = oM (oe os nx) := by
  refine vnx_y h.gd ?_
  rcases hn with ⟨rfl, hg⟩ | ⟨h1, h2, h3, hg⟩
  · refine ⟨h.ch h.2.2.1 (Or.inl rfl), Or.inr ⟨fun y hy z => ?_, fun y hy z => ?_⟩⟩
    · obtain ⟨i, hi, rfl, hb⟩ := h.ch2 hy
      exact hb (hg i ((h.lt hp hi).mp z) hi)
    · obtain ⟨i, hi, rfl, hb⟩ := h.ch2 hy
      exact absurd ((h.lt hi h.2.2.1).mp z) (Nat.not_lt_zero _)
  · refine ⟨h.ch h2 (Or.inr h3), Or.inl ⟨(h.lt hp h2).mpr h1, fun y hy z w => ?_⟩⟩
    obtain ⟨i, hi, rfl, hb⟩ := h.ch2 hy
    exact hb (hg i ((h.lt hp hi).mp z) ((h.lt hi h2).mp w))
/-- a cut over a name, from the owner at it or before it -/
theorem zGZ.cx (h : zGZ os top) {x : np_N} {m : Nat} (hm : m < os.length) (hx : ∀ c, isCt (zV os) top x c → isCt (zV os) top (oM (oe os m)) c) : (∀ ci, ci < os.length → oC (oe os m) = some (oA (oe os ci)) → oM (oe os ci) <:+ x → vco (zV os) top x = some (oM (oe os ci))) ∧ ((oC (oe os m) = none ∨ ∃ ci, ci < os.length ∧ oC (oe os m) = some (oA (oe os ci)) ∧ ¬ oM (oe os ci) <:+ x) → vco (zV os) top x = none) := by
  have h1 := h.mk9 hm
  have h2 := h.co m hm
  constructor
  · intro ci hci e hs
    rw [h1] at e
    cases hz : zcs os (m + 1) with
    | none => rw [hz] at e; cases e
    | some k =>
      have q := zcs_s hz
      have hk : k < os.length := by omega
      rw [hz] at e h2
      have e2 := h.2.2.2.2.2 k ci hk hci (Option.some.inj e)
      subst e2
      have hco := vco_s h2
      exact vco_y ⟨h.ct hk q.2.1 q.2.2.1 hs, fun c2 hc2 => hco.2 c2 (hx c2 hc2)⟩
  · intro hn
    refine vco_no (fun c hc => ?_)
    have hc2 := hx c hc
    cases hz : zcs os (m + 1) with
    | none => rw [hz] at h2; exact vco_n h2 c hc2
    | some k =>
      have q := zcs_s hz
      have hk : k < os.length := by omega
      rw [hz] at h1 h2
      have hco := vco_s h2
      rcases hn with hn | ⟨ci, hci, e, hs⟩
      · rw [hn] at h1; cases h1
      · rw [h1] at e
        have e2 := h.2.2.2.2.2 k ci hk hci (Option.some.inj e)
        subst e2
        exact hs ((suf_len hco.1.1 hc2.1 (hco.2 c hc2)).trans hc.1)
theorem zGZ.cxb (h : zGZ os top) {x : np_N} {k : Nat} (hx : zfn x) (hk : zpl9 os x k) (h0 : 0 < k) (hn : ∀ i, i < os.length → ¬ oM (oe os i) = x) : ∀ c, isCt (zV os) top x c → isCt (zV os) top (oM (oe os (k - 1))) c := by
  intro c hc
  have hkl := hk.1
  obtain ⟨j, hj, h1, h2, e⟩ := h.ct2 hc
  have hjk : j < k := by
    rcases Nat.lt_or_ge j k with w | w
    · exact w
    · refine absurd ?_ (hk.2.2 j w hj)
      rw [e]
      exact zl_suf hc.1 (fun z => hn j hj (e.trans z))
  refine ⟨zl_btw (x := x) (by rw [← e]; exact h.fn hj) (h.fn (by omega)) hc.1 ?_ (zl_ay (hk.2.1 (k - 1) (by omega))), hc.2⟩
  rw [← e, h.lt (by omega) hj]; omega
end ZCL
