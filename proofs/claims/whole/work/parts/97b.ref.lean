/-! THE REFERENCE'S RECORDS, read as what is asked for -/
def rVf (rs : List zRt) : zVt := fun x t => (rs.filter (fun e => decide (rM e = x ∧ rT e = t))).map (fun e => (rU e, rB e))
theorem rVf_ne {rs : List zRt} {x : np_N} {t : Int32} : rVf rs x t ≠ [] ↔ ∃ e ∈ rs, rT e = t ∧ rM e = x := by
  unfold rVf
  rw [Ne, List.map_eq_nil_iff, List.filter_eq_nil_iff]
  constructor
  · intro h
    apply Classical.byContradiction
    intro hn
    exact h (fun e he hd => hn ⟨e, he, (of_decide_eq_true hd).2, (of_decide_eq_true hd).1⟩)
  · rintro ⟨e, he, h1, h2⟩ h
    exact h e he (decide_eq_true ⟨h2, h1⟩)
theorem rVf_D {rs : List zRt} {x : np_N} : vD (rVf rs) x ↔ ∃ e ∈ rs, rM e = x := ⟨fun ⟨t, h⟩ => by
  obtain ⟨e, he, -, h2⟩ := rVf_ne.mp h
  exact ⟨e, he, h2⟩, fun ⟨e, he, h⟩ => ⟨rT e, rVf_ne.mpr ⟨e, he, rfl, h⟩⟩⟩
theorem rVf_th {rs : List zRt} {x : np_N} : vth (rVf rs) x ↔ ∃ e ∈ rs, x <:+ rM e := ⟨fun ⟨y, hy, h⟩ => by
  obtain ⟨e, he, rfl⟩ := rVf_D.mp hy
  exact ⟨e, he, h⟩, fun ⟨e, he, h⟩ => ⟨rM e, rVf_D.mpr ⟨e, he, rfl⟩, h⟩⟩
/-- data with a name at its end have it -/
def rdt (t : Int32) (b : List Int32) : Prop := (t = 2 ∨ t = 5 ∨ t = 12 ∨ t = 15 ∨ t = 33) → ∃ ls, np_enc ls = b.drop (voff t) ∧ np_g ls ∧ voff t ≤ b.length
/-- the records are a zone's -/
def rGd (lo : np_N) (rs : List zRt) : Prop := 0 < rs.length ∧ rM (re rs 0) = lo ∧ rT (re rs 0) = 6 ∧ (∃ x1 x2, zSoa (rB (re rs 0)) x1 x2) ∧ 0 ≤ rU (re rs 0) ∧ (∀ i, 0 < i → i < rs.length → rT (re rs i) ≠ 6) ∧ ∀ e ∈ rs, lo <:+ rM e ∧ zfn (rM e) ∧ np_g (rM e) ∧ 1 ≤ rT e ∧ rT e ≤ 65535 ∧ (rB e).length < 2 ^ 20 ∧ rdt (rT e) (rB e) ∧ rT e ≠ 47
section RGD
variable {lo : np_N} {rs : List zRt}
theorem rGd.vgd (h : rGd lo rs) : vgd (rVf rs) := fun x hx => by
  obtain ⟨e, he, rfl⟩ := rVf_D.mp hx
  obtain ⟨-, h2, h3, -⟩ := h.2.2.2.2.2.2 e he
  exact ⟨h2, h3⟩
theorem rGd.top (h : rGd lo rs) : vD (rVf rs) lo := rVf_D.mpr ⟨_, re_mem h.1, h.2.1⟩
theorem rGd.org (h : rGd lo rs) : zfn lo ∧ np_g lo := h.vgd lo h.top
theorem rGd.below (h : rGd lo rs) {x : np_N} (hx : vD (rVf rs) x) : lo <:+ x := by
  obtain ⟨e, he, rfl⟩ := rVf_D.mp hx
  exact (h.2.2.2.2.2.2 e he).1
theorem rGd.six (h : rGd lo rs) : rVf rs lo 6 = [(rU (re rs 0), rB (re rs 0))] := by
  obtain ⟨h0, h1, h2, -, -, h3, -⟩ := h
  unfold rVf
  cases rs with
  | nil => exact absurd h0 (Nat.lt_irrefl _)
  | cons a r =>
    have e0 : re (a :: r) 0 = a := rfl
    rw [e0] at h1 h2 ⊢
    rw [List.filter_cons_of_pos (by exact decide_eq_true ⟨h1, h2⟩), List.filter_eq_nil_iff.mpr ?_]
    · rfl
    · intro e he hd
      obtain ⟨j, hj, rfl⟩ := List.getElem_of_mem he
      refine h3 (j + 1) (Nat.succ_pos j) (Nat.succ_lt_succ hj) ?_
      rw [re_at (Nat.succ_lt_succ hj)]
      exact (of_decide_eq_true hd).2
theorem suf_drop {x c : np_N} (h : c <:+ x) : c = x.drop (x.length - c.length) := List.suffix_iff_eq_drop.mp h
theorem zcut_V {x : np_N} : zcut lo rs x ↔ x ≠ lo ∧ rVf rs x 2 ≠ [] := by
  unfold zcut
  rw [rVf_ne]
theorem rct_k {x : np_N} {k : Nat} (h1 : lo.length < k) (h2 : k ≤ x.length) (h3 : zcut lo rs (x.drop (x.length - k))) : isCt (rVf rs) lo x (x.drop (x.length - k)) := by
  refine ⟨List.drop_suffix _ _, ?_, (zcut_V.mp h3).2⟩
  rw [List.length_drop]; omega
theorem rct_c {x c : np_N} (h : isCt (rVf rs) lo x c) : lo.length < c.length ∧ c.length ≤ x.length ∧ c = x.drop (x.length - c.length) ∧ zcut lo rs (x.drop (x.length - c.length)) := by
  obtain ⟨h1, h2, h3⟩ := h
  have e := suf_drop h1
  refine ⟨h2, h1.length_le, e, ?_⟩
  rw [← e]
  exact zcut_V.mpr ⟨fun z => by rw [z] at h2; exact Nat.lt_irrefl _ h2, h3⟩
/-- the cut over a name, as the reference finds it -/
theorem rco_y {x : np_N} {k : Nat} (h1 : lo.length < k) (h2 : k ≤ x.length) (h3 : zcut lo rs (x.drop (x.length - k))) (h4 : ∀ j, lo.length < j → j < k → ¬ zcut lo rs (x.drop (x.length - j))) : vco (rVf rs) lo x = some (x.drop (x.length - k)) := by
  refine vco_y ⟨rct_k h1 h2 h3, fun c hc => ?_⟩
  obtain ⟨c1, c2, c3, c4⟩ := rct_c hc
  rw [List.length_drop]
  rcases Nat.lt_or_ge c.length k with q | q
  · exact absurd c4 (h4 _ c1 q)
  · omega
theorem rco_n {x : np_N} (h : ∀ k, lo.length < k → k ≤ x.length → ¬ zcut lo rs (x.drop (x.length - k))) : vco (rVf rs) lo x = none := by
  refine vco_no (fun c hc => ?_)
  obtain ⟨c1, c2, c3, c4⟩ := rct_c hc
  exact h _ c1 c2 c4
theorem raw_V {x : np_N} : zaway lo rs x ↔ vaw (rVf rs) lo x := by
  constructor
  · rintro ⟨k, h1, h2, h3⟩
    have hc := rct_k h1 (Nat.le_of_lt h2) h3
    obtain ⟨d, hd⟩ := isCo_ex _ _ (Nat.le_refl _) hc
    refine ⟨d, vco_y hd, fun z => ?_⟩
    have := hd.2 _ hc
    rw [z, List.length_drop] at this
    omega
  · rintro ⟨c, h1, h2⟩
    have hc := (vco_s h1).1
    obtain ⟨c1, c2, c3, c4⟩ := rct_c hc
    refine ⟨c.length, c1, ?_, c4⟩
    rcases Nat.lt_or_ge c.length x.length with q | q
    · exact q
    · exact absurd (hc.1.eq_of_length (Nat.le_antisymm c2 q)) h2
theorem rch_V {x : np_N} : vch (rVf rs) lo x ↔ (∃ e ∈ rs, rM e = x) ∧ ¬ zaway lo rs x := by
  unfold vch
  rw [rVf_D, raw_V]
theorem rco_lo : vco (rVf rs) lo lo = none := vco_no (fun c hc => by
  have h1 := hc.1.length_le
  have h2 := hc.2.1
  omega)
theorem rGd.chain (h : rGd lo rs) : vch (rVf rs) lo lo := ⟨h.top, fun ⟨c, h1, _⟩ => by rw [rco_lo] at h1; cases h1⟩
theorem re_ix {e : zRt} (h : e ∈ rs) : ∃ j, j < rs.length ∧ re rs j = e := by
  obtain ⟨j, hj, rfl⟩ := List.getElem_of_mem h
  exact ⟨j, hj, re_at hj⟩
theorem rch_j {x : np_N} (h : vch (rVf rs) lo x) : ∃ j, j < rs.length ∧ rM (re rs j) = x ∧ ¬ zaway lo rs (rM (re rs j)) := by
  obtain ⟨⟨e, he, h1⟩, h2⟩ := rch_V.mp h
  obtain ⟨j, hj, rfl⟩ := re_ix he
  exact ⟨j, hj, h1, by rw [h1]; exact h2⟩
theorem rch_i {j : Nat} (hj : j < rs.length) (h : ¬ zaway lo rs (rM (re rs j))) : vch (rVf rs) lo (rM (re rs j)) := rch_V.mpr ⟨⟨_, re_mem hj, rfl⟩, h⟩
/-- the last of the chain before x, as the reference finds it -/
theorem rov_y {x : np_N} {bo : Option Nat} (h : zbst lo rs x rs.length bo) (hl : vch (rVf rs) lo lo) (hx : zl lo x) : ∃ j, j < rs.length ∧ bo = some (rN (re rs j)) ∧ isOv (rVf rs) lo x (rM (re rs j)) := by
  rcases h with ⟨-, h⟩ | ⟨j0, h1, h2, h3, h4⟩
  · obtain ⟨j, hj, e, ha⟩ := rch_j hl
    refine absurd ⟨?_, ha⟩ (h j hj)
    show nk_d (zky (rM (re rs j))) _ < 0
    rw [e]; exact hx
  · refine ⟨j0, h1, h2, rch_i h1 h3.2, h3.1, fun y hy hyx hz => ?_⟩
    obtain ⟨j, hj, e, ha⟩ := rch_j hy
    subst e
    exact h4 j hj ⟨hyx, ha⟩ hz
/-- the next of the chain, as the reference finds it -/
theorem rnx_y {x : np_N} {r bo fo : Option Nat} (hr : r = (match bo with | none => fo | some q => some q)) (hb : zlst rs (fun j => 0 < nk_d (zkk rs j) (zky x) ∧ ¬ zaway lo rs (rM (re rs j))) rs.length bo) (hf : zlst rs (fun j => ¬ zaway lo rs (rM (re rs j))) rs.length fo) (hl : vch (rVf rs) lo lo) : ∃ j, j < rs.length ∧ r = some (rN (re rs j)) ∧ isNx (rVf rs) lo x (rM (re rs j)) := by
  have hs : ∀ y : np_N, 0 < nk_d (zky y) (zky x) ↔ zl x y := fun y => by
    unfold zl
    rw [nk_d_neg (zky y) (zky x)]; omega
  rcases hb with ⟨e, h⟩ | ⟨j0, h1, h2, h3, h4⟩
  · subst e
    rcases hf with ⟨-, g⟩ | ⟨j0, g1, g2, g3, g4⟩
    · obtain ⟨j, hj, -, ha⟩ := rch_j hl
      exact absurd ha (g j hj)
    · refine ⟨j0, g1, hr.trans g2, rch_i g1 g3, Or.inr ⟨fun y hy hz => ?_, fun y hy hz => ?_⟩⟩
      · obtain ⟨j, hj, e, ha⟩ := rch_j hy
        subst e
        exact h j hj ⟨(hs _).mpr hz, ha⟩
      · obtain ⟨j, hj, e, ha⟩ := rch_j hy
        subst e
        exact g4 j hj ha hz
  · subst h2
    refine ⟨j0, h1, hr, rch_i h1 h3.2, Or.inl ⟨(hs _).mp h3.1, fun y hy hxy hz => ?_⟩⟩
    obtain ⟨j, hj, e, ha⟩ := rch_j hy
    subst e
    exact h4 j hj ⟨(hs _).mpr hxy, ha⟩ hz
/-- the longest part that is there -/
theorem rcl_y (h : rGd lo rs) {x : np_N} {k : Nat} (hlo : lo <:+ x) (hk : k ≤ x.length) (hth : vth (rVf rs) (x.drop k)) (hno : ∀ j, j < k → ¬ (np_len lo ≤ np_len (x.drop j) ∧ vth (rVf rs) (x.drop j))) : vcl (rVf rs) x = x.drop k := by
  have el := suf_drop hlo
  have hll := hlo.length_le
  have hkk : k ≤ x.length - lo.length := by
    rcases Nat.lt_or_ge (x.length - lo.length) k with q | q
    · refine absurd ⟨?_, ?_⟩ (hno _ q)
      · rw [← el]; exact Nat.le_refl _
      · rw [← el]; exact ⟨lo, h.top, List.suffix_refl _⟩
    · exact q
  refine vcl_y ⟨List.drop_suffix _ _, hth, fun s2 h2 h3 => ?_⟩
  have e2 := suf_drop h2
  have hl2 := h2.length_le
  rw [List.length_drop]
  rcases Nat.lt_or_ge (x.length - s2.length) k with q | q
  · refine absurd ⟨?_, ?_⟩ (hno _ q)
    · have a1 := np_len_drop x (x.length - s2.length) (by omega)
      have a2 := np_len_drop x (x.length - lo.length) (by omega)
      rw [← el] at a2
      have a3 : np_pos x (x.length - s2.length) ≤ np_pos x (x.length - lo.length) := by
        have hm : ∀ d i, i + d ≤ x.length → np_pos x i ≤ np_pos x (i + d) := by
          intro d
          induction d with
          | zero => intro i _; exact Nat.le_refl _
          | succ d ih =>
            intro i hi
            have := ih i (by omega)
            have e := np_pos_succ x (i + d) (by omega)
            rw [show i + (d + 1) = i + d + 1 by omega, e]; omega
        have := hm (x.length - lo.length - (x.length - s2.length)) (x.length - s2.length) (by omega)
        rw [show x.length - s2.length + (x.length - lo.length - (x.length - s2.length)) = x.length - lo.length by omega] at this
        exact this
      omega
    · rw [← e2]; exact h3
  · omega
theorem np_len_suf {x y : np_N} (h : x <:+ y) : np_len x ≤ np_len y := by
  have e := suf_drop h
  have := np_len_drop y (y.length - x.length) (by omega)
  rw [← e] at this
  omega
theorem rth_0 (h : rGd lo rs) {x : np_N} (hlo : lo <:+ x) : (lo <:+ x ∧ np_len lo ≤ np_len (x.drop 0) ∧ ∃ e ∈ rs, x.drop 0 <:+ rM e) ↔ vth (rVf rs) x := by
  rw [List.drop_zero, ← rVf_th]
  exact ⟨fun z => z.2.2, fun z => ⟨hlo, np_len_suf hlo, z⟩⟩
end RGD
/-- the types of a link, one by one -/
theorem rTy_V {lo : np_N} {rs : List zRt} {x : np_N} (h : rGd lo rs) (hna : ¬ vaw (rVf rs) lo x) (t : Nat) (ht : t < 65536) : rTy rs x (zcut lo rs (x.drop 0)) rs.length (nI t) ↔ (t = 46 ∨ t = 47 ∨ (t < 65536 ∧ rVf rs x (nI t) ≠ [] ∧ (vco (rVf rs) lo x = some x → t = 2 ∨ t = 43))) := by
  have hn : ∀ m : Nat, m < 65536 → (nI t = nI m ↔ t = m) := fun m hm => nI_eq (by omega) (by omega)
  have hg : vco (rVf rs) lo x = some x → zcut lo rs (x.drop 0) := fun z => by
    have := (rct_c (vco_s z).1).2.2.2
    rw [Nat.sub_self] at this
    exact this
  have hg2 : zcut lo rs (x.drop 0) → rVf rs x (nI t) ≠ [] → vco (rVf rs) lo x = some x := fun z hv => by
    rw [List.drop_zero] at z
    have hb := h.below ⟨_, hv⟩
    have hl : lo.length < x.length := by
      rcases Nat.lt_or_ge lo.length x.length with q | q
      · exact q
      · exact absurd (hb.eq_of_length (Nat.le_antisymm hb.length_le q)).symm z.1
    cases hc : vco (rVf rs) lo x with
    | none => exact absurd ⟨List.suffix_refl x, hl, (zcut_V.mp z).2⟩ (vco_n hc x)
    | some c =>
      by_cases e : c = x
      · rw [e]
      · exact absurd ⟨c, hc, e⟩ hna
  unfold rTy
  constructor
  · rintro (e | e | ⟨j, hj, e1, e2, e3⟩)
    · exact Or.inl ((hn 46 (by decide)).mp e)
    · exact Or.inr (Or.inl ((hn 47 (by decide)).mp e))
    · refine Or.inr (Or.inr ⟨ht, rVf_ne.mpr ⟨_, re_mem hj, e1, e2⟩, fun z => ?_⟩)
      rcases e3 (hg z) with q | q
      · exact Or.inl ((hn 2 (by decide)).mp q)
      · exact Or.inr ((hn 43 (by decide)).mp q)
  · rintro (e | e | ⟨-, e1, e2⟩)
    · exact Or.inl (by rw [e]; rfl)
    · exact Or.inr (Or.inl (by rw [e]; rfl))
    · obtain ⟨e, he, a1, a2⟩ := rVf_ne.mp e1
      obtain ⟨j, hj, rfl⟩ := re_ix he
      refine Or.inr (Or.inr ⟨j, hj, a1, a2, fun z => ?_⟩)
      rcases e2 (hg2 z e1) with q | q
      · exact Or.inl (by rw [q]; rfl)
      · exact Or.inr (by rw [q]; rfl)
/-- the types up to u, found one by one -/
def rTp (P : Int32 → Prop) (u : Nat) (T : List Nat) : Prop := wso T ∧ (∀ t, t ∈ T ↔ t < 65536 ∧ P (nI t) ∧ t ≤ u)
theorem wso_snoc {T : List Nat} {t : Nat} (h : wso T) (hl : ∀ s ∈ T, s < t) : wso (T ++ [t]) := by
  intro i hi
  rw [List.length_append, List.length_singleton] at hi
  rw [List.getD_eq_getElem?_getD, List.getD_eq_getElem?_getD, List.getElem?_append_left (by omega)]
  rcases Nat.lt_or_ge (i + 1) T.length with q | q
  · rw [List.getElem?_append_left q]
    have := h i q
    rw [List.getD_eq_getElem?_getD, List.getD_eq_getElem?_getD] at this
    exact this
  · rw [List.getElem?_append_right q, show i + 1 - T.length = 0 by omega, List.getElem?_eq_getElem (show i < T.length by omega)]
    exact hl _ (List.getElem_mem _)
theorem rTp_s {P : Int32 → Prop} {u w : Nat} {T : List Nat} (h : rTp P u T) (hw : w < 65536) (hu : u < 65536) (hn : rNx P (nI u) (nI w)) (h0 : 0 < w) : rTp P w (T ++ [w]) := by
  have hlt : ∀ a b : Nat, a < 65536 → b < 65536 → (nI a < nI b ↔ a < b) := fun a b ha hb => nI_ltI (by omega) (by omega)
  have hle : ∀ a b : Nat, a < 65536 → b < 65536 → (nI a ≤ nI b ↔ a ≤ b) := fun a b ha hb => nI_leI (by omega) (by omega)
  rcases hn with ⟨e, -⟩ | ⟨-, h1, h2, h3⟩
  · have : w = 0 := (nI_z (by omega)).mp e
    omega
  · have huw := (hlt u w hu hw).mp h2
    refine ⟨wso_snoc h.1 (fun s hs => by have := ((h.2 s).mp hs).2.2; omega), fun t => ?_⟩
    rw [List.mem_append, List.mem_singleton, h.2]
    constructor
    · rintro (⟨a1, a2, a3⟩ | rfl)
      · exact ⟨a1, a2, by omega⟩
      · exact ⟨hw, h1, Nat.le_refl _⟩
    · rintro ⟨a1, a2, a3⟩
      rcases Nat.lt_or_ge u t with q | q
      · exact Or.inr (Nat.le_antisymm a3 ((hle w t hw a1).mp (h3 _ a2 ((hlt u t hu a1).mpr q))))
      · exact Or.inl ⟨a1, a2, q⟩
theorem rTp_e {P : Int32 → Prop} {u : Nat} {T : List Nat} (h : rTp P u T) (hu : u < 65536) (hn : rNx P (nI u) 0) : wso T ∧ ∀ t, t ∈ T ↔ t < 65536 ∧ P (nI t) := by
  refine ⟨h.1, fun t => ?_⟩
  rw [h.2]
  constructor
  · rintro ⟨a1, a2, -⟩; exact ⟨a1, a2⟩
  · rintro ⟨a1, a2⟩
    refine ⟨a1, a2, ?_⟩
    rcases hn with ⟨-, h1⟩ | ⟨h1, -⟩
    · rcases Nat.lt_or_ge u t with q | q
      · exact absurd ((nI_ltI (a := u) (b := t) (by omega) (by omega)).mpr q) (h1 _ a2)
      · exact q
    · exact absurd h1 (by decide)
theorem rvty {lo : np_N} {rs : List zRt} {x : np_N} {T : List Nat} {u : Nat} (h : rGd lo rs) (hna : ¬ vaw (rVf rs) lo x) (hT : rTp (rTy rs x (zcut lo rs (x.drop 0)) rs.length) u T) (hu : u < 65536) (hn : rNx (rTy rs x (zcut lo rs (x.drop 0)) rs.length) (nI u) 0) : vty (rVf rs) lo x = T := by
  obtain ⟨h1, h2⟩ := rTp_e hT hu hn
  refine vty_y ⟨h1, fun t => ?_⟩
  rw [h2]
  constructor
  · rintro ⟨a1, a2⟩; exact (rTy_V h hna t a1).mp a2
  · intro z
    have ht : t < 65536 := by rcases z with rfl | rfl | ⟨z, -⟩ <;> first | decide | exact z
    exact ⟨ht, (rTy_V h hna t ht).mpr z⟩
