/-! THE LINKS OF AN ANSWERING -/
/-- the names of the links -/
def lkn (L : List aV) : List np_N := (L.filter (fun e => decide (e.2.1 = 47))).map (fun e => e.1)
def no47 (L : List aV) : Prop := ∀ e ∈ L, e.2.1 ≠ 47
/-- the links stand in the second section, each name once, at most k of them -/
def wLk (V : zVt) (top : np_N) (k : Nat) (W : zW) : Prop := (lkn W.2.1).Nodup ∧ (lkn W.2.1).length ≤ k ∧ (∀ e ∈ W.2.1, e.2.1 = 47 → e.2.2.2 = vlk V top e.1) ∧ no47 W.1 ∧ no47 W.2.2
theorem lkn_app (L M : List aV) : lkn (L ++ M) = lkn L ++ lkn M := by
  unfold lkn
  rw [List.filter_append, List.map_append]
theorem lkn_0 {L : List aV} (h : no47 L) : lkn L = [] := by
  unfold lkn
  rw [List.filter_eq_nil_iff.mpr (fun e he => by rw [decide_eq_false (h e he)]; decide)]; rfl
theorem lkn_mem {L : List aV} {x : np_N} : x ∈ lkn L ↔ aHas L x 47 := by
  unfold lkn aHas
  rw [List.mem_map]
  constructor
  · rintro ⟨e, he, rfl⟩
    obtain ⟨h1, h2⟩ := List.mem_filter.mp he
    exact ⟨e, h1, of_decide_eq_true h2, rfl⟩
  · rintro ⟨e, h1, h2, h3⟩
    exact ⟨e, List.mem_filter.mpr ⟨h1, decide_eq_true h2⟩, h3⟩
theorem no47_app {L M : List aV} (h : no47 L) (h2 : no47 M) : no47 (L ++ M) := fun e he => (List.mem_append.mp he).elim (h e) (h2 e)
section WLK
variable {V : zVt} {top : np_N} {sec : Bool} {k : Nat} {W : zW} {x f c : np_N} {t : Int32}
theorem vrw_47 (h47 : ∀ x, V x 47 = []) : no47 (vrw V x f t) := fun e he => by
  obtain ⟨p, hp, rfl⟩ := List.mem_map.mp he
  intro z
  have z : t = 47 := z
  rw [z, h47] at hp
  exact absurd hp List.not_mem_nil
theorem wLk.mono {k2 : Nat} (h : wLk V top k W) (hk : k ≤ k2) : wLk V top k2 W := ⟨h.1, Nat.le_trans h.2.1 hk, h.2.2⟩
theorem w1_lk {L : List aV} (h : wLk V top k W) (hL : no47 L) : wLk V top k (w1 W L) := ⟨h.1, h.2.1, h.2.2.1, no47_app h.2.2.2.1 hL, h.2.2.2.2⟩
theorem w3_lk {L : List aV} (h : wLk V top k W) (hL : no47 L) : wLk V top k (w3 W L) := ⟨h.1, h.2.1, h.2.2.1, h.2.2.2.1, no47_app h.2.2.2.2 hL⟩
theorem w2_lk {L : List aV} (h : wLk V top k W) (hL : no47 L) : wLk V top k (w2 W L) := by
  obtain ⟨h1, h2, h3, h4, h5⟩ := h
  have e : lkn (W.2.1 ++ L) = lkn W.2.1 := by rw [lkn_app, lkn_0 hL, List.append_nil]
  exact ⟨by show (lkn (W.2.1 ++ L)).Nodup; rw [e]; exact h1, by show (lkn (W.2.1 ++ L)).length ≤ _; rw [e]; exact h2, fun q hq hz => (List.mem_append.mp hq).elim (fun w => h3 q w hz) (fun w => absurd hz (hL q w)), h4, h5⟩
theorem vpr_lk (h : wLk V top k W) : wLk V top (k + 1) (vpr V top sec W x) := by
  unfold vpr
  by_cases z : sec = true ∧ ¬ aHas W.2.1 x 47
  · rw [zif_y z]
    obtain ⟨h1, h2, h3, h4, h5⟩ := h
    have e : lkn (W.2.1 ++ [(x, 47, vlt V top, vlk V top x)]) = lkn W.2.1 ++ [x] := by rw [lkn_app]; rfl
    refine ⟨?_, ?_, fun q hq hz => ?_, h4, h5⟩
    · show (lkn (W.2.1 ++ _)).Nodup
      rw [e]
      exact List.nodup_append.mpr ⟨h1, List.nodup_cons.mpr ⟨List.not_mem_nil, List.nodup_nil⟩, fun a ha b hb hab => z.2 (lkn_mem.mp (by rw [← List.mem_singleton.mp hb, ← hab]; exact ha))⟩
    · show (lkn (W.2.1 ++ _)).length ≤ _
      rw [e, List.length_append]; exact Nat.add_le_add_right h2 1
    · rcases List.mem_append.mp hq with w | w
      · exact h3 q w hz
      · rw [List.mem_singleton.mp w]
  · rw [zif_n z]; exact h.mono (Nat.le_succ _)
theorem vst_lk (h : wLk V top k W) : wLk V top k (vst V top W) := w2_lk h (fun e he => by
  obtain ⟨p, -, rfl⟩ := List.mem_map.mp he
  show (6 : Int32) ≠ 47
  decide)
theorem vad_lk (h47 : ∀ x, V x 47 = []) (h : wLk V top k W) : wLk V top k (vad V W x t) := by
  unfold vad
  by_cases z : aHas W.2.2 x t ∨ aHas W.1 x t
  · rw [zif_y z]; exact h
  · rw [zif_n z]; exact w3_lk h (vrw_47 h47)
theorem vao_lk (h47 : ∀ x, V x 47 = []) (h : wLk V top k W) : wLk V top k (vao V W x) := vad_lk h47 (vad_lk h47 h)
theorem vam_lk (h47 : ∀ x, V x 47 = []) {e : aV} (h : wLk V top k W) : wLk V top k (vam V top W e) := by
  unfold vam
  split
  · exact vao_lk h47 h
  · exact h
theorem fold_lk {α : Type} {g : zW → α → zW} (hg : ∀ W e, wLk V top k W → wLk V top k (g W e)) : ∀ (L : List α) (W : zW), wLk V top k W → wLk V top k (L.foldl g W)
  | [], _, h => h
  | e :: L, W, h => fold_lk hg L (g W e) (hg W e h)
theorem vrf_lk (h47 : ∀ x, V x 47 = []) (h : wLk V top k W) : wLk V top (k + 1) (vrf V top sec W c) := by
  unfold vrf
  refine fold_lk (fun W e hW => vao_lk h47 hW) _ _ ?_
  unfold vrf1
  split
  · exact vpr_lk (w2_lk h (vrw_47 h47))
  · split
    · exact (w2_lk (w2_lk h (vrw_47 h47)) (vrw_47 h47)).mono (Nat.le_succ _)
    · exact (w2_lk h (vrw_47 h47)).mono (Nat.le_succ _)
theorem vdn_lk (h : wLk V top k W) : wLk V top (k + 2) (vdn V top sec W x f) := vpr_lk (vpr_lk (vst_lk h))
theorem vtl_lk (h47 : ∀ x, V x 47 = []) (h : wLk V top k W) : wLk V top (k + 2) (vtl V top sec W x f t) := by
  have h1 : wLk V top k (vtl1 V W x f t) := by
    unfold vtl1
    refine w1_lk h ?_
    split
    · intro e he
      obtain ⟨u, -, hu⟩ := List.mem_flatMap.mp he
      exact vrw_47 h47 e hu
    · exact vrw_47 h47
  unfold vtl
  have h2 : wLk V top (k + 1) (zif (¬ vD V f ∨ (¬ t = 255 ∧ V f t = [])) (vpr V top sec (vst V top (vtl1 V W x f t)) (vat V top f)) (vtl1 V W x f t)) := by
    by_cases z : ¬ vD V f ∨ (¬ t = 255 ∧ V f t = [])
    · rw [zif_y z]; exact vpr_lk (vst_lk h1)
    · rw [zif_n z]; exact h1.mono (by omega)
  show wLk V top (k + 2) (if f = x then _ else _)
  split
  · exact h2.mono (by omega)
  · exact vpr_lk h2
theorem vfo_lk (h47 : ∀ x, V x 47 = []) : ∀ (n : Nat) (W : zW) (x : np_N) (k : Nat), wLk V top k W → wLk V top (k + n + 2) (vfo V top sec t n W x).2
  | 0, W, x, k, h => h.mono (by omega)
  | n + 1, W, x, k, h => by
    unfold vfo
    by_cases z : ¬ top <:+ x
    · rw [zif_y z]; exact h.mono (by omega)
    · rw [zif_n z]
      cases e : (vco V top x).filter (fun c => decide (¬ (t = 43 ∧ c = x))) with
      | some c => exact (vrf_lk h47 h).mono (by omega)
      | none =>
        show wLk V top _ (zif _ _ _ : Int32 × zW).2
        by_cases z2 : ¬ vth V x ∧ ¬ vD V (vfd V x)
        · rw [zif_y z2]; exact (vdn_lk h).mono (by omega)
        · rw [zif_n z2]
          by_cases z3 : t = 5 ∨ t = 255 ∨ V (vfd V x) 5 = []
          · rw [if_pos z3]; exact (vtl_lk h47 h).mono (by omega)
          · rw [if_neg z3]
            have g1 : wLk V top k (w1 W (vrw V x (vfd V x) 5)) := w1_lk h (vrw_47 h47)
            have g2 : wLk V top (k + 1) (zif (vth V x) (w1 W (vrw V x (vfd V x) 5)) (vpr V top sec (w1 W (vrw V x (vfd V x) 5)) (vov V top x))) := by
              by_cases z4 : vth V x
              · rw [zif_y z4]; exact g1.mono (by omega)
              · rw [zif_n z4]; exact vpr_lk g1
            cases e5 : V (vfd V x) 5 with
            | nil => exact absurd (Or.inr (Or.inr e5)) z3
            | cons p T => exact (vfo_lk h47 n _ (vtg 5 p.2) (k + 1) g2).mono (by omega)
theorem vask_lk (h47 : ∀ x, V x 47 = []) : wLk V top 11 (vask V top sec t x).2 := by
  have h0 : wLk V top 0 (([], [], []) : zW) := ⟨List.nodup_nil, Nat.le_refl _, fun e he => absurd he List.not_mem_nil, fun e he => absurd he List.not_mem_nil, fun e he => absurd he List.not_mem_nil⟩
  unfold vask
  by_cases z : ¬ top <:+ x
  · rw [zif_y z]; exact h0.mono (by omega)
  · rw [zif_n z]
    exact fold_lk (fun W e hW => vam_lk h47 hW) _ _ ((vfo_lk h47 9 _ x 0 h0).mono (by omega))
end WLK
