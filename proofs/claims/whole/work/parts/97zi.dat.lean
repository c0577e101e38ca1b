/-! HOW MUCH DATA AN ANSWERING HAS -/
section WDT
variable {V : zVt} {top : np_N} {sec : Bool} {k B D : Nat} {W : zW} {x f c : np_N} {t : Int32}
theorem sum_leB {α : Type} (g : α → Nat) {B : Nat} : ∀ K : List α, (∀ p ∈ K, g p ≤ B) → (K.map g).sum ≤ K.length * B
  | [], _ => Nat.zero_le _
  | p :: K, h => by
    rw [List.map_cons, List.sum_cons, List.length_cons, Nat.succ_mul]
    have h1 := h p List.mem_cons_self
    have h2 := sum_leB g K (fun q hq => h q (List.mem_cons_of_mem _ hq))
    omega
theorem rPw_lk (h : wLk V top k W) (hB : ∀ x, (vlk V top x).length ≤ B) : rPw W ≤ k * B := by
  obtain ⟨h1, h2, h3, h4, h5⟩ := h
  unfold rPw
  rw [wl47_0 h4, wl47_0 h5]
  have q : wl47 W.2.1 ≤ (W.2.1.filter (fun e => decide (e.2.1 = 47))).length * B := sum_leB _ _ (fun e he => by
    obtain ⟨m1, m2⟩ := List.mem_filter.mp he
    rw [h3 e m1 (of_decide_eq_true m2)]; exact hB _)
  have hl : (W.2.1.filter (fun e => decide (e.2.1 = 47))).length ≤ k := by
    have := h2
    unfold lkn at this
    rw [List.length_map] at this; exact this
  have := Nat.mul_le_mul_right B hl
  omega
def dle (D : Nat) (L : List aV) : Prop := ∀ e ∈ L, e.2.2.2.length ≤ D
def wDt (D : Nat) (W : zW) : Prop := dle D W.1 ∧ dle D W.2.1 ∧ dle D W.2.2
theorem dle_app {L M : List aV} (h : dle D L) (h2 : dle D M) : dle D (L ++ M) := fun e he => (List.mem_append.mp he).elim (h e) (h2 e)
theorem vrw_dt (hV : ∀ x t, ∀ p ∈ V x t, p.2.length ≤ D) : dle D (vrw V x f t) := fun e he => by
  obtain ⟨p, hp, rfl⟩ := List.mem_map.mp he
  exact hV _ _ p hp
theorem vpr_dt (hL : ∀ x, (vlk V top x).length ≤ D) (h : wDt D W) : wDt D (vpr V top sec W x) := by
  unfold vpr
  by_cases z : sec = true ∧ ¬ aHas W.2.1 x 47
  · rw [zif_y z]
    exact ⟨h.1, dle_app h.2.1 (fun e he => by rw [List.mem_singleton.mp he]; exact hL x), h.2.2⟩
  · rw [zif_n z]; exact h
theorem vst_dt (hV : ∀ x t, ∀ p ∈ V x t, p.2.length ≤ D) (h : wDt D W) : wDt D (vst V top W) := ⟨h.1, dle_app h.2.1 (fun e he => by
  obtain ⟨p, hp, rfl⟩ := List.mem_map.mp he
  exact hV _ _ p hp), h.2.2⟩
theorem vad_dt (hV : ∀ x t, ∀ p ∈ V x t, p.2.length ≤ D) (h : wDt D W) : wDt D (vad V W x t) := by
  unfold vad
  by_cases z : aHas W.2.2 x t ∨ aHas W.1 x t
  · rw [zif_y z]; exact h
  · rw [zif_n z]; exact ⟨h.1, h.2.1, dle_app h.2.2 (vrw_dt hV)⟩
theorem vao_dt (hV : ∀ x t, ∀ p ∈ V x t, p.2.length ≤ D) (h : wDt D W) : wDt D (vao V W x) := vad_dt hV (vad_dt hV h)
theorem vam_dt (hV : ∀ x t, ∀ p ∈ V x t, p.2.length ≤ D) {e : aV} (h : wDt D W) : wDt D (vam V top W e) := by
  unfold vam
  split
  · exact vao_dt hV h
  · exact h
theorem fold_dt {α : Type} {g : zW → α → zW} (hg : ∀ W e, wDt D W → wDt D (g W e)) : ∀ (L : List α) (W : zW), wDt D W → wDt D (L.foldl g W)
  | [], _, h => h
  | e :: L, W, h => fold_dt hg L (g W e) (hg W e h)
theorem vrf_dt (hV : ∀ x t, ∀ p ∈ V x t, p.2.length ≤ D) (hL : ∀ x, (vlk V top x).length ≤ D) (h : wDt D W) : wDt D (vrf V top sec W c) := by
  unfold vrf
  refine fold_dt (fun W e hW => vao_dt hV hW) _ _ ?_
  have h1 : wDt D (w2 W (vrw V c c 2)) := ⟨h.1, dle_app h.2.1 (vrw_dt hV), h.2.2⟩
  unfold vrf1
  split
  · exact vpr_dt hL h1
  · split
    · exact ⟨h1.1, dle_app h1.2.1 (vrw_dt hV), h1.2.2⟩
    · exact h1
theorem vtl_dt (hV : ∀ x t, ∀ p ∈ V x t, p.2.length ≤ D) (hL : ∀ x, (vlk V top x).length ≤ D) (h : wDt D W) : wDt D (vtl V top sec W x f t) := by
  have h1 : wDt D (vtl1 V W x f t) := by
    unfold vtl1
    refine ⟨dle_app h.1 ?_, h.2.1, h.2.2⟩
    split
    · intro e he
      obtain ⟨u, -, hu⟩ := List.mem_flatMap.mp he
      exact vrw_dt hV e hu
    · exact vrw_dt hV
  unfold vtl
  have h2 : wDt D (zif (¬ vD V f ∨ (¬ t = 255 ∧ V f t = [])) (vpr V top sec (vst V top (vtl1 V W x f t)) (vat V top f)) (vtl1 V W x f t)) := by
    by_cases z : ¬ vD V f ∨ (¬ t = 255 ∧ V f t = [])
    · rw [zif_y z]; exact vpr_dt hL (vst_dt hV h1)
    · rw [zif_n z]; exact h1
  show wDt D (if f = x then _ else _)
  split
  · exact h2
  · exact vpr_dt hL h2
theorem vfo_dt (hV : ∀ x t, ∀ p ∈ V x t, p.2.length ≤ D) (hL : ∀ x, (vlk V top x).length ≤ D) : ∀ (n : Nat) (W : zW) (x : np_N), wDt D W → wDt D (vfo V top sec t n W x).2
  | 0, W, x, h => h
  | n + 1, W, x, h => by
    unfold vfo
    by_cases z : ¬ top <:+ x
    · rw [zif_y z]; exact h
    · rw [zif_n z]
      cases e : (vco V top x).filter (fun c => decide (¬ (t = 43 ∧ c = x))) with
      | some c => exact vrf_dt hV hL h
      | none =>
        show wDt D (zif _ _ _ : Int32 × zW).2
        by_cases z2 : ¬ vth V x ∧ ¬ vD V (vfd V x)
        · rw [zif_y z2]; exact vpr_dt hL (vpr_dt hL (vst_dt hV h))
        · rw [zif_n z2]
          by_cases z3 : t = 5 ∨ t = 255 ∨ V (vfd V x) 5 = []
          · rw [if_pos z3]; exact vtl_dt hV hL h
          · rw [if_neg z3]
            have g1 : wDt D (w1 W (vrw V x (vfd V x) 5)) := ⟨dle_app h.1 (vrw_dt hV), h.2.1, h.2.2⟩
            have g2 : wDt D (zif (vth V x) (w1 W (vrw V x (vfd V x) 5)) (vpr V top sec (w1 W (vrw V x (vfd V x) 5)) (vov V top x))) := by
              by_cases z4 : vth V x
              · rw [zif_y z4]; exact g1
              · rw [zif_n z4]; exact vpr_dt hL g1
            cases e5 : V (vfd V x) 5 with
            | nil => exact absurd (Or.inr (Or.inr e5)) z3
            | cons p T => exact vfo_dt hV hL n _ (vtg 5 p.2) g2
theorem vask_dt (hV : ∀ x t, ∀ p ∈ V x t, p.2.length ≤ D) (hL : ∀ x, (vlk V top x).length ≤ D) : wDt D (vask V top sec t x).2 := by
  have h0 : wDt D (([], [], []) : zW) := ⟨fun e he => absurd he List.not_mem_nil, fun e he => absurd he List.not_mem_nil, fun e he => absurd he List.not_mem_nil⟩
  unfold vask
  by_cases z : ¬ top <:+ x
  · rw [zif_y z]; exact h0
  · rw [zif_n z]
    exact fold_dt (fun W e hW => vam_dt hV hW) _ _ (vfo_dt hV hL 9 _ x h0)
end WDT
