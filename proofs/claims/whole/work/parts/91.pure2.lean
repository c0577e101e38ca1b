/-! a name's key tells the name -/
def zfn (ls : np_N) : Prop := ∀ l ∈ ls, ∀ v ∈ l, fits .byte (.int v) = true
theorem np_enc_mem {ls : np_N} {l : List Int32} {v : Int32} (hl : l ∈ ls) (hv : v ∈ l) : v ∈ np_enc ls := by
  induction ls with
  | nil => cases hl
  | cons a r ih =>
    show v ∈ nI a.length :: (a ++ np_enc r)
    rcases List.mem_cons.mp hl with z | z
    · subst z; exact List.mem_cons_of_mem _ (List.mem_append_left _ hv)
    · exact List.mem_cons_of_mem _ (List.mem_append_right _ (ih z))
theorem zfn_of {ls : np_N} {f : Nat → Int32} (hf : np_f ls f) (hft : sb_Fit f) : zfn ls := by
  intro l hl v hv
  obtain ⟨j, hj, e⟩ := List.getElem_of_mem (np_enc_mem hl hv)
  rw [np_enc_len] at hj
  have := hf j hj
  rw [List.getD_eq_getElem?_getD, List.getElem?_eq_getElem (by rw [np_enc_len]; exact hj)] at this
  have e2 : f j = v := by rw [this]; exact e
  rw [← e2]
  exact hft j
theorem zNR.fn {E : zc_E} {G : zg_G} {r : zRo} {q : Nat} {ls : np_N} (h : zNR E G r q ls) : zfn ls ∧ np_g ls := by
  obtain ⟨b, f, h1, h2, h3, h4, h5, -⟩ := h
  exact ⟨zfn_of h3 h5, h4⟩
theorem zu1 {v w : Int32} (hv : fits .byte (.int v) = true) (hw : fits .byte (.int w) = true) (h : (v &&& 255).toNatClampNeg = (w &&& 255).toNatClampNeg) : v = w := by
  obtain ⟨c, hc, rfl⟩ := zu8 hv
  obtain ⟨c', hc', rfl⟩ := zu8 hw
  rw [(sb_byte c hc).1, (sb_byte c' hc').1, show (nI c).toNatClampNeg = c from nI_clamp (by omega), show (nI c').toNatClampNeg = c' from nI_clamp (by omega)] at h
  rw [h]
theorem zl_inj {x y : List Int32} (hx : ∀ v ∈ x, fits .byte (.int v) = true) (hy : ∀ v ∈ y, fits .byte (.int v) = true) (h : x.map (fun v => (v &&& 255).toNatClampNeg) = y.map (fun v => (v &&& 255).toNatClampNeg)) : x = y := by
  induction x generalizing y with
  | nil => cases y with | nil => rfl | cons b s => cases h
  | cons a r ih =>
    cases y with
    | nil => cases h
    | cons b s =>
      rw [List.map_cons, List.map_cons, List.cons.injEq] at h
      rw [zu1 (hx a List.mem_cons_self) (hy b List.mem_cons_self) h.1, ih (fun v hv => hx v (List.mem_cons_of_mem _ hv)) (fun v hv => hy v (List.mem_cons_of_mem _ hv)) h.2]
theorem zky_inj {x y : np_N} (hx : zfn x) (hy : zfn y) (h : zky x = zky y) : x = y := by
  unfold zky at h
  rw [List.map_reverse, List.map_reverse] at h
  replace h := List.reverse_inj.mp h
  induction x generalizing y with
  | nil => cases y with | nil => rfl | cons b s => cases h
  | cons a r ih =>
    cases y with
    | nil => cases h
    | cons b s =>
      rw [List.map_cons, List.map_cons, List.cons.injEq] at h
      rw [zl_inj (hx a List.mem_cons_self) (hy b List.mem_cons_self) h.1, ih (fun l hl => hx l (List.mem_cons_of_mem _ hl)) (fun l hl => hy l (List.mem_cons_of_mem _ hl)) h.2]
theorem nk_ne {x y : np_N} (hx : zfn x) (hy : zfn y) (hn : x ≠ y) (h : ¬ nk_d (zky x) (zky y) < 0) : nk_d (zky y) (zky x) < 0 := by
  rw [nk_d_neg]
  rcases Int.lt_or_eq_of_le (Int.not_lt.mp h) with z | z
  · omega
  · exact absurd (zky_inj hx hy (nk_d_eq z.symm)) hn
/-! lists with one thing more, less, or other -/
theorem oe_in {os : List zOt} {k j : Nat} {o : zOt} (hk : k ≤ os.length) : oe (zin os k o) j = if j < k then oe os j else if j = k then o else oe os (j - 1) := by
  unfold oe zin
  rw [List.getD_eq_getElem?_getD, List.getD_eq_getElem?_getD, List.getD_eq_getElem?_getD]
  by_cases h1 : j < k
  · rw [if_pos h1, List.getElem?_append_left (by rw [List.length_take]; omega), List.getElem?_take, if_pos h1]
  · rw [if_neg h1, List.getElem?_append_right (by rw [List.length_take]; omega), List.length_take, Nat.min_eq_left hk]
    by_cases h2 : j = k
    · rw [if_pos h2, h2, Nat.sub_self]; rfl
    · rw [if_neg h2, show j - k = (j - k - 1) + 1 by omega, List.getElem?_cons_succ, List.getElem?_drop, show k + (j - k - 1) = j - 1 by omega]
theorem oe_dr {os : List zOt} {k j : Nat} (hk : k < os.length) : oe (zdr os k) j = if j < k then oe os j else oe os (j + 1) := by
  unfold oe zdr
  rw [List.getD_eq_getElem?_getD, List.getD_eq_getElem?_getD, List.getD_eq_getElem?_getD]
  by_cases h1 : j < k
  · rw [if_pos h1, List.getElem?_append_left (by rw [List.length_take]; omega), List.getElem?_take, if_pos h1]
  · rw [if_neg h1, List.getElem?_append_right (by rw [List.length_take]; omega), List.length_take, Nat.min_eq_left (by omega), List.getElem?_drop, show k + 1 + (j - k) = j + 1 by omega]
theorem zso_in {os : List zOt} {k : Nat} {o : zOt} (h : zso os) (hk : k ≤ os.length) (h1 : ∀ i, i < k → nk_d (zky (oM (oe os i))) (zky (oM o)) < 0) (h2 : ∀ i, k ≤ i → i < os.length → nk_d (zky (oM o)) (zky (oM (oe os i))) < 0) : zso (zin os k o) := by
  intro i j hij hj
  rw [zin_len hk] at hj
  rw [oe_in hk, oe_in hk]
  by_cases a1 : j < k
  · rw [if_pos a1, if_pos (by omega)]; exact h i j hij (by omega)
  · rw [if_neg a1]
    by_cases a2 : j = k
    · rw [if_pos a2, if_pos (by omega)]; exact h1 i (by omega)
    · rw [if_neg a2]
      by_cases a3 : i < k
      · rw [if_pos a3]; exact h i (j - 1) (by omega) (by omega)
      · rw [if_neg a3]
        by_cases a4 : i = k
        · rw [if_pos a4]; exact h2 _ (by omega) (by omega)
        · rw [if_neg a4]; exact h _ _ (by omega) (by omega)
theorem zso_set {os : List zOt} {k : Nat} {o : zOt} (h : zso os) (hk : k < os.length) (e : oM o = oM (oe os k)) : zso (os.set k o) := by
  have h9 : ∀ j, oM (oe (os.set k o) j) = oM (oe os j) := fun j => by
    rw [oe_set hk]
    by_cases z : j = k
    · rw [if_pos z, z, e]
    · rw [if_neg z]
  intro i j hij hj
  rw [List.length_set] at hj
  rw [h9, h9]
  exact h i j hij hj
theorem zso_dr {os : List zOt} {k : Nat} (h : zso os) (hk : k < os.length) : zso (zdr os k) := by
  intro i j hij hj
  rw [zdr_len hk] at hj
  rw [oe_dr hk, oe_dr hk]
  by_cases a1 : j < k
  · rw [if_pos a1, if_pos (by omega)]; exact h i j hij (by omega)
  · rw [if_neg a1]
    by_cases a2 : i < k
    · rw [if_pos a2]; exact h _ _ (by omega) (by omega)
    · rw [if_neg a2]; exact h _ _ (by omega) (by omega)
/-! what is there, behind a change -/
theorem zgt_set {os : List zOt} {k : Nat} {o : zOt} (hk : k < os.length) (x : np_N) (t : Int32) (e : zgO o x t = zgO (oe os k) x t) : zgt (os.set k o) x t = zgt os x t := by
  have e1 : os = os.take k ++ oe os k :: os.drop (k + 1) := by
    rw [oe_at hk, List.getElem_cons_drop, List.take_append_drop]
  have e2 : os.set k o = os.take k ++ o :: os.drop (k + 1) := List.set_eq_take_append_cons_drop.trans (if_pos hk)
  rw [e2]
  conv => rhs; rw [e1]
  rw [zgt_app, zgt_app, zgt_cons, zgt_cons, e]
theorem zgt_in {os : List zOt} {k : Nat} {o : zOt} (x : np_N) (t : Int32) (e : zgO o x t = []) : zgt (zin os k o) x t = zgt os x t := by
  unfold zin
  rw [zgt_app, zgt_cons, e, List.nil_append, ← zgt_app, List.take_append_drop]
theorem zgt_dr {os : List zOt} {k : Nat} (hk : k < os.length) (x : np_N) (t : Int32) (e : zgO (oe os k) x t = []) : zgt (zdr os k) x t = zgt os x t := by
  have e1 : os = os.take k ++ oe os k :: os.drop (k + 1) := by
    rw [oe_at hk, List.getElem_cons_drop, List.take_append_drop]
  conv => rhs; rw [e1]
  unfold zdr
  rw [zgt_app, zgt_app, zgt_cons, e, List.nil_append]
theorem zgt_no {os : List zOt} {x : np_N} {t : Int32} (h : ∀ o ∈ os, oM o ≠ x) : zgt os x t = [] := by
  unfold zgt
  rw [List.flatMap_eq_nil_iff]
  intro o ho
  exact if_neg (h o ho)
theorem zso_ne {os : List zOt} (h : zso os) {i j : Nat} (hi : i < os.length) (hj : j < os.length) (hij : i ≠ j) : oM (oe os i) ≠ oM (oe os j) := by
  intro e
  rcases Nat.lt_or_gt_of_ne hij with z | z
  · have := h i j z hj; rw [e, nk_d_self] at this; omega
  · have := h j i z hi; rw [e, nk_d_self] at this; omega
theorem zgt_at {os : List zOt} (h : zso os) {i : Nat} (hi : i < os.length) {x : np_N} (e : oM (oe os i) = x) (t : Int32) : zgt os x t = (oX (oe os i)).flatMap (fun s => zgS s t) := by
  have e1 : os = os.take i ++ oe os i :: os.drop (i + 1) := by
    rw [oe_at hi, List.getElem_cons_drop, List.take_append_drop]
  conv => lhs; rw [e1]
  rw [zgt_app, zgt_cons, zgt_no (os := os.take i) (fun o ho => ?_), zgt_no (os := os.drop (i + 1)) (fun o ho => ?_), List.nil_append, List.append_nil]
  · exact if_pos e
  · obtain ⟨j, hj, rfl⟩ := List.getElem_of_mem ho
    rw [List.length_drop] at hj
    rw [List.getElem_drop, ← oe_at (by omega), ← e]
    exact zso_ne h (by omega) hi (by omega)
  · obtain ⟨j, hj, rfl⟩ := List.getElem_of_mem ho
    rw [List.length_take] at hj
    rw [List.getElem_take, ← oe_at (by omega), ← e]
    exact zso_ne h (by omega) hi (by omega)
theorem zss_ne {o : zOt} (h : zss o) {i j : Nat} (hi : i < (oX o).length) (hj : j < (oX o).length) (hij : i ≠ j) : sT (oS o i) ≠ sT (oS o j) := by
  intro e
  rcases Nat.lt_or_gt_of_ne hij with z | z
  · have := h i j z hj; rw [e] at this; exact Int32.lt_irrefl this
  · have := h j i z hi; rw [e] at this; exact Int32.lt_irrefl this
theorem zgX_no {xs : List zSt} {t : Int32} (h : ∀ s ∈ xs, sT s ≠ t) : xs.flatMap (fun s => zgS s t) = [] := by
  rw [List.flatMap_eq_nil_iff]
  intro s hs
  exact if_neg (h s hs)
theorem zgX_at {o : zOt} (h : zss o) {i : Nat} (hi : i < (oX o).length) {t : Int32} (e : sT (oS o i) = t) : (oX o).flatMap (fun s => zgS s t) = (sX (oS o i)).map (fun d => (sU (oS o i), d.2)) := by
  have e1 : oX o = (oX o).take i ++ oS o i :: (oX o).drop (i + 1) := by
    rw [oS_at hi, List.getElem_cons_drop, List.take_append_drop]
  conv => lhs; rw [e1]
  rw [List.flatMap_append, List.flatMap_cons, zgX_no (xs := (oX o).take i) (fun s hs => ?_), zgX_no (xs := (oX o).drop (i + 1)) (fun s hs => ?_), List.nil_append, List.append_nil]
  · exact if_pos e
  · obtain ⟨j, hj, rfl⟩ := List.getElem_of_mem hs
    rw [List.length_drop] at hj
    rw [List.getElem_drop, ← oS_at (by omega), ← e]
    exact zss_ne h (by omega) hi (by omega)
  · obtain ⟨j, hj, rfl⟩ := List.getElem_of_mem hs
    rw [List.length_take] at hj
    rw [List.getElem_take, ← oS_at (by omega), ← e]
    exact zss_ne h (by omega) hi (by omega)
theorem oe_out {os : List zOt} {x : np_N} (h : ∀ i, i < os.length → ¬ oM (oe os i) = x) : ∀ o ∈ os, oM o ≠ x := by
  intro o ho
  obtain ⟨j, hj, rfl⟩ := oe_ix ho
  exact h j hj
