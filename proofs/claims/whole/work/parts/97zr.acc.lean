/-! THE ACCOUNT: u calls that left the tape, g that emptied it, p of them puts, q of them asks; Y: how big the reference's rows are -/
def bC (u g p q Y : Nat) : Nat := 100 + 40 * (u + g) + q * (7 * (p + 1) + 200) + Y
def bS (u g p q Y : Nat) : Nat := 81000 + 20 * (u * u) + 1400 * u + g * (6 * (p + 1) + 1800) + q * (72 * (p + 1) + 10100 + 20 * u + g) + Y
set_option maxRecDepth 100000 in
theorem b_all : ∀ g, g < 257 → ∀ p, p < g + 1 → bC (512 - g) g p (g - p) 422400 ≤ 600002 ∧ bS (512 - g) g p (g - p) 422400 ≤ 7200000 := by decide +kernel
theorem b_lim {u g p q Y : Nat} (h1 : g ≤ u) (h2 : q + p ≤ g) (h3 : u + g ≤ 512) (h4 : Y ≤ 422400) : bC u g p q Y ≤ 600002 ∧ bS u g p q Y ≤ 7200000 := by
  have h := b_all g (by omega) p (by omega)
  have hu : u ≤ 512 - g := by omega
  have hq : q ≤ g - p := by omega
  have m1 := Nat.mul_le_mul_right (7 * (p + 1) + 200) hq
  have m2 := Nat.mul_le_mul hu hu
  have m3 : q * (72 * (p + 1) + 10100 + 20 * u + g) ≤ (g - p) * (72 * (p + 1) + 10100 + 20 * (512 - g) + g) := Nat.mul_le_mul hq (by omega)
  unfold bC bS at h ⊢
  constructor
  · omega
  · have := h.2
    omega
theorem bS_u (u g p q Y : Nat) : bS u g p q Y + (40 * u + 1420) ≤ bS (u + 1) g p q Y := by
  unfold bS
  have e1 : (u + 1) * (u + 1) = u * u + 2 * u + 1 := by rw [Nat.add_mul, Nat.mul_add]; omega
  have e2 : q * (72 * (p + 1) + 10100 + 20 * u + g) ≤ q * (72 * (p + 1) + 10100 + 20 * (u + 1) + g) := Nat.mul_le_mul_left q (by omega)
  rw [e1]; omega
theorem bC_u (u g p q Y : Nat) : bC u g p q Y + 40 = bC (u + 1) g p q Y := by unfold bC; omega
theorem bS_g (u g p q Y n : Nat) : bS u g p q Y + (6 * (p + 1) + 1800) ≤ bS u (g + 1) (p + n) q Y := by
  unfold bS
  have e1 : (g + 1) * (6 * (p + 1) + 1800) = g * (6 * (p + 1) + 1800) + (6 * (p + 1) + 1800) := by rw [Nat.add_mul, Nat.one_mul]
  have e2 : (g + 1) * (6 * (p + 1) + 1800) ≤ (g + 1) * (6 * (p + n + 1) + 1800) := Nat.mul_le_mul_left _ (by omega)
  have e3 : q * (72 * (p + 1) + 10100 + 20 * u + g) ≤ q * (72 * (p + n + 1) + 10100 + 20 * u + (g + 1)) := Nat.mul_le_mul_left q (by omega)
  omega
theorem bC_g (u g p q Y n : Nat) : bC u g p q Y + 40 ≤ bC u (g + 1) (p + n) q Y := by
  unfold bC
  have e1 : q * (7 * (p + 1) + 200) ≤ q * (7 * (p + n + 1) + 200) := Nat.mul_le_mul_left q (by omega)
  omega
theorem bS_q {u g p q Y Z : Nat} (hY : Y ≤ Z) : bS u g p q Y + (72 * (p + 1) + 10100 + 20 * u + g + (Z - Y)) ≤ bS u (g + 1) p (q + 1) Z := by
  unfold bS
  have e1 : g * (6 * (p + 1) + 1800) ≤ (g + 1) * (6 * (p + 1) + 1800) := Nat.mul_le_mul_right _ (by omega)
  have e2 : (q + 1) * (72 * (p + 1) + 10100 + 20 * u + (g + 1)) = q * (72 * (p + 1) + 10100 + 20 * u + (g + 1)) + (72 * (p + 1) + 10100 + 20 * u + (g + 1)) := by rw [Nat.add_mul, Nat.one_mul]
  have e3 : q * (72 * (p + 1) + 10100 + 20 * u + g) ≤ q * (72 * (p + 1) + 10100 + 20 * u + (g + 1)) := Nat.mul_le_mul_left q (by omega)
  omega
theorem bC_q {u g p q Y Z : Nat} (hY : Y ≤ Z) : bC u g p q Y + (7 * (p + 1) + 240 + (Z - Y)) = bC u (g + 1) p (q + 1) Z := by
  unfold bC
  have e2 : (q + 1) * (7 * (p + 1) + 200) = q * (7 * (p + 1) + 200) + (7 * (p + 1) + 200) := by rw [Nat.add_mul, Nat.one_mul]
  omega
/-- the account of a state -/
def zCt (A : zA4) (rs : List zRt) (c1 c2 u g p q C S : Nat) : Prop := g ≤ u ∧ (0 < A.1.length → g + 1 ≤ u) ∧ q + p ≤ g ∧ A.1.length ≤ 20 * u ∧ rs.length ≤ p + 1 ∧ rNu rs + A.1.length ≤ 23 + 20 * u + g ∧ rcp c1 (wln A.2.2.2) ≤ 1600 ∧ rcp c2 (rPw A.2.2.2) ≤ 200000 ∧ C ≤ bC u g p q (rPi c1 c2 A.2.2.2 0) ∧ S + 4 * A.1.length ≤ bS u g p q (rPi c1 c2 A.2.2.2 0)
theorem rPi_bd {c1 c2 : Nat} {W : zW} (h1 : rcp c1 (wln W) ≤ 1600) (h2 : rcp c2 (rPw W) ≤ 200000) : rPi c1 c2 W 0 ≤ 422400 := by
  unfold rPi
  rw [Nat.add_zero]
  omega
section ZCT
variable {A B : zA4} {rs rs2 : List zRt} {c1 c2 d1 d2 u g p q C S cC cS n m : Nat}
theorem zCt.nr (h : zCt A rs c1 c2 u g p q C S) (hi : u + g ≤ 511) : rs.length < 300 := by
  obtain ⟨h1, h2, h3, h4, h5, -⟩ := h
  omega
/-- room for a call that leaves the tape -/
theorem zCt.rf (h : zCt A rs c1 c2 u g p q C S) (hi : u + g ≤ 511) (h1 : cC ≤ 40) (h2 : cS ≤ 2 * A.1.length + 1410) : C + cC ≤ 600002 ∧ S + cS ≤ 7200000 := by
  obtain ⟨a1, a2, a3, a4, a5, a6, a7, a8, a9, aA⟩ := h
  have l := b_lim (u := u + 1) (g := g) (p := p) (q := q) (by omega) a3 (by omega) (rPi_bd a7 a8)
  have b1 := bS_u u g p q (rPi c1 c2 A.2.2.2 0)
  have b2 := bC_u u g p q (rPi c1 c2 A.2.2.2 0)
  exact ⟨by omega, by omega⟩
/-- room for one that empties it -/
theorem zCt.rg (h : zCt A rs c1 c2 u g p q C S) (hi : u + g ≤ 511) (hT : 0 < A.1.length) (h1 : cC ≤ 40) (h2 : cS ≤ 4 * A.1.length + 6 * (p + 1) + 1800) : C + cC ≤ 600002 ∧ S + cS ≤ 7200000 := by
  obtain ⟨a1, a2, a3, a4, a5, a6, a7, a8, a9, aA⟩ := h
  have l := b_lim (u := u) (g := g + 1) (p := p) (q := q) (a2 hT) (by omega) (by omega) (rPi_bd a7 a8)
  have b1 : bS u g p q (rPi c1 c2 A.2.2.2 0) + (6 * (p + 1) + 1800) ≤ bS u (g + 1) p q (rPi c1 c2 A.2.2.2 0) := bS_g u g p q (rPi c1 c2 A.2.2.2 0) 0
  have b2 : bC u g p q (rPi c1 c2 A.2.2.2 0) + 40 ≤ bC u (g + 1) p q (rPi c1 c2 A.2.2.2 0) := bC_g u g p q (rPi c1 c2 A.2.2.2 0) 0
  exact ⟨by omega, by omega⟩
/-- room for an ask -/
theorem zCt.rq {Z : Nat} (h : zCt A rs c1 c2 u g p q C S) (hi : u + g ≤ 511) (hT : 0 < A.1.length) (hY : rPi c1 c2 A.2.2.2 0 ≤ Z) (hZ : Z ≤ 422400) (h1 : cC ≤ 7 * rs.length + 198 + (Z - rPi c1 c2 A.2.2.2 0)) (h2 : cS ≤ A.1.length + 72 * rs.length + 10030 + rNu rs + (Z - rPi c1 c2 A.2.2.2 0)) : C + cC ≤ 600002 ∧ S + cS ≤ 7200000 := by
  obtain ⟨a1, a2, a3, a4, a5, a6, a7, a8, a9, aA⟩ := h
  have l := b_lim (u := u) (g := g + 1) (p := p) (q := q + 1) (Y := Z) (a2 hT) (by omega) (by omega) hZ
  have b1 := bS_q (u := u) (g := g) (p := p) (q := q) hY
  have b2 := bC_q (u := u) (g := g) (p := p) (q := q) hY
  exact ⟨by omega, by omega⟩
theorem zCt.tf (h : zCt A rs c1 c2 u g p q C S) (h1 : cC ≤ 40) (h2 : cS ≤ 2 * A.1.length + 1410) (hB : B.1.length ≤ A.1.length) (hW : B.2.2.2 = A.2.2.2) (hm : rMo rs A rs2 B 0 0 ∨ (rs2 = rs ∧ B = A)) : zCt B rs2 c1 c2 (u + 1) g p q (C + cC) (S + cS) := by
  obtain ⟨a1, a2, a3, a4, a5, a6, a7, a8, a9, aA⟩ := h
  have b1 := bS_u u g p q (rPi c1 c2 A.2.2.2 0)
  have b2 := bC_u u g p q (rPi c1 c2 A.2.2.2 0)
  have hr : rs2.length ≤ rs.length ∧ rNu rs2 + B.1.length ≤ 23 + 20 * (u + 1) + g := by
    rcases hm with ⟨m1, m2⟩ | ⟨rfl, rfl⟩
    · exact ⟨m1, by omega⟩
    · exact ⟨Nat.le_refl _, by omega⟩
  refine ⟨by omega, fun _ => by omega, a3, by omega, by omega, hr.2, ?_, ?_, ?_, ?_⟩
  · rw [hW]; exact a7
  · rw [hW]; exact a8
  · rw [hW]; omega
  · rw [hW]; omega
theorem zCt.td (h : zCt A rs c1 c2 u g p q C S) (h1 : cC ≤ 40) (h2 : cS ≤ 2 * A.1.length + 60) (hB : B.1.length = A.1.length + 20) (hW : B.2.2.2 = A.2.2.2) (hm : rMo rs A rs2 B 0 20) : zCt B rs2 c1 c2 (u + 1) g p q (C + cC) (S + cS) := by
  obtain ⟨a1, a2, a3, a4, a5, a6, a7, a8, a9, aA⟩ := h
  have b1 := bS_u u g p q (rPi c1 c2 A.2.2.2 0)
  have b2 := bC_u u g p q (rPi c1 c2 A.2.2.2 0)
  obtain ⟨m1, m2⟩ := hm
  refine ⟨by omega, fun _ => by omega, a3, by omega, by omega, by omega, ?_, ?_, ?_, ?_⟩
  · rw [hW]; exact a7
  · rw [hW]; exact a8
  · rw [hW]; omega
  · rw [hW]; omega
theorem zCt.tg (h : zCt A rs c1 c2 u g p q C S) (hT : 0 < A.1.length) (h1 : cC ≤ 40) (h2 : cS ≤ 4 * A.1.length + 6 * (p + 1) + 1800) (hB : B.1.length = 0) (hW : B.2.2.2 = A.2.2.2) (hn : n ≤ 1) (hm1 : m ≤ 1) (hm : rMo rs A rs2 B n m) : zCt B rs2 c1 c2 u (g + 1) (p + n) q (C + cC) (S + cS) := by
  obtain ⟨a1, a2, a3, a4, a5, a6, a7, a8, a9, aA⟩ := h
  have b1 := bS_g u g p q (rPi c1 c2 A.2.2.2 0) n
  have b2 := bC_g u g p q (rPi c1 c2 A.2.2.2 0) n
  have a2' := a2 hT
  obtain ⟨m1, m2⟩ := hm
  refine ⟨a2', fun z => by omega, by omega, by omega, by omega, by omega, ?_, ?_, ?_, ?_⟩
  · rw [hW]; exact a7
  · rw [hW]; exact a8
  · rw [hW]; omega
  · rw [hW]; omega
theorem zCt.tq (h : zCt A rs c1 c2 u g p q C S) (hT : 0 < A.1.length) (hY : rPi c1 c2 A.2.2.2 0 ≤ rPi d1 d2 B.2.2.2 0) (h1 : cC ≤ 7 * rs.length + 198 + (rPi d1 d2 B.2.2.2 0 - rPi c1 c2 A.2.2.2 0)) (h2 : cS ≤ A.1.length + 72 * rs.length + 10030 + rNu rs + (rPi d1 d2 B.2.2.2 0 - rPi c1 c2 A.2.2.2 0)) (hB : B.1.length = 0) (hb1 : rcp d1 (wln B.2.2.2) ≤ 1600) (hb2 : rcp d2 (rPw B.2.2.2) ≤ 200000) (hm : rMo rs A rs2 B 0 0) : zCt B rs2 d1 d2 u (g + 1) p (q + 1) (C + cC) (S + cS) := by
  obtain ⟨a1, a2, a3, a4, a5, a6, a7, a8, a9, aA⟩ := h
  have b1 := bS_q (u := u) (g := g) (p := p) (q := q) hY
  have b2 := bC_q (u := u) (g := g) (p := p) (q := q) hY
  have a2' := a2 hT
  obtain ⟨m1, m2⟩ := hm
  exact ⟨a2', fun z => by omega, by omega, by omega, by omega, by omega, hb1, hb2, by omega, by omega⟩
end ZCT
/-! what stays true -/
theorem r47 {lo : np_N} {rs : List zRt} (h : rGd lo rs) (x : np_N) : rVf rs x 47 = [] := by
  unfold rVf
  rw [List.filter_eq_nil_iff.mpr (fun e he => by simp only [decide_eq_true_eq]; exact fun z => (h.2.2.2.2.2.2 e he).2.2.2.2.2.2.2 z.2)]
  rfl
theorem rdat {lo : np_N} {rs : List zRt} (h : rGd lo rs) {x : np_N} {t : Int32} {p : Int32 × List Int32} (hp : p ∈ rVf rs x t) : p.2.length ≤ 2 ^ 20 := by
  obtain ⟨e, he, rfl⟩ := List.mem_map.mp hp
  exact Nat.le_of_lt (h.2.2.2.2.2.2 e (List.mem_filter.mp he).1).2.2.2.2.2.1
theorem rsoa {lo : np_N} {rs : List zRt} (h : rGd lo rs) : (rB (re rs 0)).length ≤ 530 := by
  obtain ⟨x, y, ⟨a1, -, -⟩, ⟨b1, -, -⟩, e⟩ := h.2.2.2.1
  have := a1.2
  have := b1.2
  omega
theorem zIv_of {lo : np_N} {rs : List zRt} {tp : List Int32} {W : zW} (h : rGd lo rs) (h5 : ∀ x, (rVf rs x 5).length ≤ 1) (hW : wsm W ∧ wDt (2 ^ 20) W) : zIv (tp, rVf rs, lo, W) := by
  refine ⟨h5, r47 h, fun p hp => ?_, fun x t p hp => rdat h hp, hW.1, hW.2⟩
  have hp : p ∈ rVf rs lo 6 := hp
  rw [h.six, List.mem_singleton] at hp
  rw [hp]
  exact Nat.le_trans (rsoa h) (by decide)
theorem zTn_pos {tp : List Int32} {ls : np_N} (h : zTn tp ls) : 0 < tp.length := by
  have := h.2
  have : 0 < np_len ls := Nat.succ_pos _
  omega
theorem zRec_pos {tp : List Int32} {t : Int32} {top x : np_N} {D : List Int32} (h : zRec tp t top x D) : 0 < tp.length := by
  obtain ⟨ls, ⟨⟨-, a2, -⟩, -⟩, -⟩ := h
  have : 0 < np_len ls := Nat.succ_pos _
  omega
theorem zOrg_pos {tp : List Int32} {x y z : np_N} (h : zOrg tp x y z) : 0 < tp.length := by
  have := h.1.2.1
  have : 0 < np_len x := Nat.succ_pos _
  omega
theorem v5_put {V : zVt} {x : np_N} {t tm : Int32} {D : List Int32} (h5 : ∀ x, (V x 5).length ≤ 1) (hg : ¬ pBad V x t) (y : np_N) : (vpt V x t tm [(0, D)] y 5).length ≤ 1 := by
  unfold vpt
  split
  · rename_i z
    rw [List.length_map, List.length_append]
    have : V y 5 = [] := by
      apply Classical.byContradiction
      intro w
      exact hg ⟨⟨5, by rw [← z.1]; exact w⟩, Or.inl z.2.symm⟩
    rw [this]; exact Nat.le_refl _
  · exact h5 y
theorem v5_put0 {V : zVt} {x : np_N} {t tm : Int32} (h5 : ∀ x, (V x 5).length ≤ 1) (y : np_N) : (vpt V x t tm [] y 5).length ≤ 1 := by
  unfold vpt
  split
  · rw [List.length_map, List.append_nil]; exact h5 y
  · exact h5 y
theorem v5_take {V : zVt} {x : np_N} {t : Int32} {j : Nat} (h5 : ∀ x, (V x 5).length ≤ 1) (y : np_N) : (vtk V x t j y 5).length ≤ 1 := by
  unfold vtk
  split
  · unfold zdr
    rw [List.length_append, List.length_take, List.length_drop]
    have := h5 y
    omega
  · exact h5 y
theorem v5_all {V : zVt} {x : np_N} {t : Int32} (h5 : ∀ x, (V x 5).length ≤ 1) (y : np_N) : (vta V x t y 5).length ≤ 1 := by
  unfold vta
  split
  · exact Nat.zero_le _
  · exact h5 y
theorem v5_ser {V : zVt} {top : np_N} {v : Int32} (h5 : ∀ x, (V x 5).length ≤ 1) (y : np_N) : (vsr V top v y 5).length ≤ 1 := by
  unfold vsr
  split
  · rw [List.length_map]; exact h5 y
  · exact h5 y
theorem v5_org {top : np_N} {tm : Int32} {D : List Int32} (y : np_N) : (vor top tm D y 5).length ≤ 1 := by
  unfold vor
  split <;> simp
