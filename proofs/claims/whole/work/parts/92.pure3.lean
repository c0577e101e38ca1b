/-! a good zone, and what an insert makes of it -/
def zgo (os : List zOt) : Prop := zso os ∧ ∀ i, i < os.length → zss (oe os i) ∧ 0 < (oX (oe os i)).length ∧ ∀ j, j < (oX (oe os i)).length → 0 < (sX (oS (oe os i) j)).length
/-- good but for one set, that may be empty -/
def zgw (os : List zOt) (k si : Nat) : Prop := zso os ∧ ∀ i, i < os.length → zss (oe os i) ∧ 0 < (oX (oe os i)).length ∧ ∀ j, j < (oX (oe os i)).length → ¬ (i = k ∧ j = si) → 0 < (sX (oS (oe os i) j)).length
theorem zgo.w {os : List zOt} (h : zgo os) (k si : Nat) : zgw os k si := ⟨h.1, fun i hi => ⟨(h.2 i hi).1, (h.2 i hi).2.1, fun j hj _ => (h.2 i hi).2.2 j hj⟩⟩
def znO (o : zOt) : Nat := ((oX o).map (fun s => (sX s).length)).sum
def znr (os : List zOt) : Nat := (os.map znO).sum
theorem os_split {os : List zOt} {k : Nat} (hk : k < os.length) : os = os.take k ++ oe os k :: os.drop (k + 1) := by
  rw [oe_at hk, List.getElem_cons_drop, List.take_append_drop]
theorem os_set {os : List zOt} {k : Nat} {o : zOt} (hk : k < os.length) : os.set k o = os.take k ++ o :: os.drop (k + 1) := List.set_eq_take_append_cons_drop.trans (if_pos hk)
theorem oX_split {o : zOt} {k : Nat} (hk : k < (oX o).length) : oX o = (oX o).take k ++ oS o k :: (oX o).drop (k + 1) := by
  rw [oS_at hk, List.getElem_cons_drop, List.take_append_drop]
theorem oX_set {o : zOt} {k : Nat} {s : zSt} (hk : k < (oX o).length) : (oX o).set k s = (oX o).take k ++ s :: (oX o).drop (k + 1) := List.set_eq_take_append_cons_drop.trans (if_pos hk)
theorem znr_set {os : List zOt} {k : Nat} {o : zOt} (hk : k < os.length) : znr (os.set k o) + znO (oe os k) = znr os + znO o := by
  unfold znr
  rw [os_set hk]
  conv => rhs; rw [os_split hk]
  rw [List.map_append, List.map_append, List.map_cons, List.map_cons, List.sum_append, List.sum_append, List.sum_cons, List.sum_cons]
  omega
theorem znr_in {os : List zOt} {k : Nat} {o : zOt} : znr (zin os k o) = znr os + znO o := by
  unfold znr zin
  conv => rhs; rw [← List.take_append_drop k os]
  rw [List.map_append, List.map_append, List.map_cons, List.sum_append, List.sum_append, List.sum_cons]
  omega
theorem znr_dr {os : List zOt} {k : Nat} (hk : k < os.length) : znr (zdr os k) + znO (oe os k) = znr os := by
  unfold znr zdr
  conv => rhs; rw [os_split hk]
  rw [List.map_append, List.map_append, List.map_cons, List.sum_append, List.sum_append, List.sum_cons]
  omega
theorem znX_set {o : zOt} {k d : Nat} {s : zSt} (hk : k < (oX o).length) : znO (oSetX o d ((oX o).set k s)) + (sX (oS o k)).length = znO o + (sX s).length := by
  show (((oX o).set k s).map _).sum + _ = ((oX o).map _).sum + _
  rw [oX_set hk]
  conv => rhs; rw [oX_split hk]
  rw [List.map_append, List.map_append, List.map_cons, List.map_cons, List.sum_append, List.sum_append, List.sum_cons, List.sum_cons]
  omega
theorem znX_in {o : zOt} {k d : Nat} {s : zSt} : znO (oSetX o d (zin (oX o) k s)) = znO o + (sX s).length := by
  show ((zin (oX o) k s).map _).sum = ((oX o).map _).sum + _
  unfold zin
  conv => rhs; rw [← List.take_append_drop k (oX o)]
  rw [List.map_append, List.map_append, List.map_cons, List.sum_append, List.sum_append, List.sum_cons]
  omega
theorem znX_dr {o : zOt} {k d : Nat} (hk : k < (oX o).length) : znO (oSetX o d (zdr (oX o) k)) + (sX (oS o k)).length = znO o := by
  show ((zdr (oX o) k).map _).sum + _ = ((oX o).map _).sum
  unfold zdr
  conv => rhs; rw [oX_split hk]
  rw [List.map_append, List.map_append, List.map_cons, List.sum_append, List.sum_append, List.sum_cons]
  omega
theorem oS_in {o : zOt} {k j d : Nat} {s : zSt} (hk : k ≤ (oX o).length) : oS (oSetX o d (zin (oX o) k s)) j = if j < k then oS o j else if j = k then s else oS o (j - 1) := by
  show (zin (oX o) k s).getD j _ = _
  unfold oS zin
  rw [List.getD_eq_getElem?_getD, List.getD_eq_getElem?_getD, List.getD_eq_getElem?_getD]
  by_cases h1 : j < k
  · rw [if_pos h1, List.getElem?_append_left (by rw [List.length_take]; omega), List.getElem?_take, if_pos h1]
  · rw [if_neg h1, List.getElem?_append_right (by rw [List.length_take]; omega), List.length_take, Nat.min_eq_left hk]
    by_cases h2 : j = k
    · rw [if_pos h2, h2, Nat.sub_self]; rfl
    · rw [if_neg h2, show j - k = (j - k - 1) + 1 by omega, List.getElem?_cons_succ, List.getElem?_drop, show k + (j - k - 1) = j - 1 by omega]
theorem oS_dr {o : zOt} {k j d : Nat} (hk : k < (oX o).length) : oS (oSetX o d (zdr (oX o) k)) j = if j < k then oS o j else oS o (j + 1) := by
  show (zdr (oX o) k).getD j _ = _
  unfold oS zdr
  rw [List.getD_eq_getElem?_getD, List.getD_eq_getElem?_getD, List.getD_eq_getElem?_getD]
  by_cases h1 : j < k
  · rw [if_pos h1, List.getElem?_append_left (by rw [List.length_take]; omega), List.getElem?_take, if_pos h1]
  · rw [if_neg h1, List.getElem?_append_right (by rw [List.length_take]; omega), List.length_take, Nat.min_eq_left (by omega), List.getElem?_drop, show k + 1 + (j - k) = j + 1 by omega]
theorem zss_set {o : zOt} {k d : Nat} {s : zSt} (h : zss o) (hk : k < (oX o).length) (e : sT s = sT (oS o k)) : zss (oSetX o d ((oX o).set k s)) := by
  have h9 : ∀ j, sT (oS (oSetX o d ((oX o).set k s)) j) = sT (oS o j) := fun j => by
    rw [oS_set hk]
    by_cases z : j = k
    · rw [if_pos z, z, e]
    · rw [if_neg z]
  intro i j hij hj
  have hj : j < ((oX o).set k s).length := hj
  rw [List.length_set] at hj
  rw [h9, h9]
  exact h i j hij hj
theorem zss_in {o : zOt} {k d : Nat} {s : zSt} (h : zss o) (hk : k ≤ (oX o).length) (h1 : ∀ j, j < k → sT (oS o j) < sT s) (h2 : k < (oX o).length → sT s < sT (oS o k)) : zss (oSetX o d (zin (oX o) k s)) := by
  intro i j hij hj
  have hj : j < (zin (oX o) k s).length := hj
  rw [zin_len hk] at hj
  rw [oS_in hk, oS_in hk]
  have h3 : ∀ j, k ≤ j → j < (oX o).length → sT s < sT (oS o j) := by
    intro j h4 h5
    rcases Nat.lt_or_ge k j with z | z
    · exact Int32.lt_trans (h2 (by omega)) (h k j z h5)
    · rw [show j = k by omega]; exact h2 (by omega)
  by_cases a1 : j < k
  · rw [if_pos a1, if_pos (by omega)]; exact h i j hij (by omega)
  · rw [if_neg a1]
    by_cases a2 : j = k
    · rw [if_pos a2, if_pos (by omega)]; exact h1 i (by omega)
    · rw [if_neg a2]
      by_cases a3 : i < k
      · rw [if_pos a3]; exact h i (j - 1) (by omega) (by omega)
      · rw [if_neg a3]
        by_cases a4 : i = k
        · rw [if_pos a4]; exact h3 _ (by omega) (by omega)
        · rw [if_neg a4]; exact h _ _ (by omega) (by omega)
theorem zss_dr {o : zOt} {k d : Nat} (h : zss o) (hk : k < (oX o).length) : zss (oSetX o d (zdr (oX o) k)) := by
  intro i j hij hj
  have hj : j < (zdr (oX o) k).length := hj
  rw [zdr_len hk] at hj
  rw [oS_dr hk, oS_dr hk]
  by_cases a1 : j < k
  · rw [if_pos a1, if_pos (by omega)]; exact h i j hij (by omega)
  · rw [if_neg a1]
    by_cases a2 : i < k
    · rw [if_pos a2]; exact h _ _ (by omega) (by omega)
    · rw [if_neg a2]; exact h _ _ (by omega) (by omega)
/-- one set got other data -/
theorem zgt_D {os : List zOt} {k si d9 : Nat} {s' : zSt} (hso : zso os) (hk : k < os.length) (hss : zss (oe os k)) (hs : si < (oX (oe os k)).length) (e : sT s' = sT (oS (oe os k) si)) (x : np_N) (t : Int32) : zgt (os.set k (oSetX (oe os k) d9 ((oX (oe os k)).set si s'))) x t = if x = oM (oe os k) ∧ t = sT (oS (oe os k) si) then (sX s').map (fun d => (sU s', d.2)) else zgt os x t := by
  by_cases h1 : x = oM (oe os k)
  · subst h1
    have hso2 := zso_set (o := oSetX (oe os k) d9 ((oX (oe os k)).set si s')) hso hk rfl
    have e2 : oe (os.set k (oSetX (oe os k) d9 ((oX (oe os k)).set si s'))) k = oSetX (oe os k) d9 ((oX (oe os k)).set si s') := by rw [oe_set hk, if_pos rfl]
    rw [zgt_at hso2 (i := k) (by rw [List.length_set]; exact hk) (by rw [e2]; rfl), e2]
    by_cases h2 : t = sT (oS (oe os k) si)
    · subst h2
      rw [if_pos ⟨rfl, rfl⟩, zgX_at (zss_set hss hs e) (i := si) (by show si < ((oX (oe os k)).set si s').length; rw [List.length_set]; exact hs) (by rw [oS_set hs, if_pos rfl]; exact e), oS_set hs, if_pos rfl]
    · rw [if_neg (fun z => h2 z.2), zgt_at hso hk rfl]
      show ((oX (oe os k)).set si s').flatMap _ = _
      rw [oX_set hs]
      conv => rhs; rw [oX_split hs]
      rw [List.flatMap_append, List.flatMap_append, List.flatMap_cons, List.flatMap_cons]
      have z1 : zgS s' t = [] := if_neg (by rw [e]; exact fun z => h2 z.symm)
      have z2 : zgS (oS (oe os k) si) t = [] := if_neg (fun z => h2 z.symm)
      rw [z1, z2]
  · rw [if_neg (fun z => h1 z.1)]
    exact zgt_set hk x t ((if_neg (fun z => h1 z.symm)).trans (if_neg (fun z => h1 z.symm)).symm)
theorem zgw_B {os : List zOt} {k si d2 d9 : Nat} {d : zDt} (h : zgw os k si) (hk : k < os.length) (hs : si < (oX (oe os k)).length) : zgo (os.set k (oSetX (oe os k) d9 ((oX (oe os k)).set si (sSetX (oS (oe os k) si) d2 (sX (oS (oe os k) si) ++ [d]))))) ∧ (∀ x t, zgt (os.set k (oSetX (oe os k) d9 ((oX (oe os k)).set si (sSetX (oS (oe os k) si) d2 (sX (oS (oe os k) si) ++ [d]))))) x t = if x = oM (oe os k) ∧ t = sT (oS (oe os k) si) then zgt os x t ++ [(sU (oS (oe os k) si), d.2)] else zgt os x t) ∧ znr (os.set k (oSetX (oe os k) d9 ((oX (oe os k)).set si (sSetX (oS (oe os k) si) d2 (sX (oS (oe os k) si) ++ [d]))))) = znr os + 1 := by
  have hss := (h.2 k hk).1
  refine ⟨⟨zso_set h.1 hk rfl, fun i hi => ?_⟩, fun x t => ?_, ?_⟩
  · rw [List.length_set] at hi
    rw [oe_set hk]
    by_cases z : i = k
    · rw [if_pos z]
      have hl : (oX (oSetX (oe os k) d9 ((oX (oe os k)).set si (sSetX (oS (oe os k) si) d2 (sX (oS (oe os k) si) ++ [d]))))).length = (oX (oe os k)).length := List.length_set
      refine ⟨zss_set hss hs rfl, by rw [hl]; exact (h.2 k hk).2.1, fun j hj => ?_⟩
      rw [hl] at hj
      rw [oS_set hs]
      by_cases w : j = si
      · rw [if_pos w]
        show 0 < (sX (oS (oe os k) si) ++ [d]).length
        rw [List.length_append]; exact Nat.succ_pos _
      · rw [if_neg w]; exact (h.2 k hk).2.2 j hj (fun q => w q.2)
    · rw [if_neg z]
      exact ⟨(h.2 i hi).1, (h.2 i hi).2.1, fun j hj => (h.2 i hi).2.2 j hj (fun q => z q.1)⟩
  · rw [zgt_D (s' := sSetX (oS (oe os k) si) d2 (sX (oS (oe os k) si) ++ [d])) h.1 hk hss hs rfl]
    by_cases z : x = oM (oe os k) ∧ t = sT (oS (oe os k) si)
    · rw [if_pos z, if_pos z, z.1, z.2, zgt_at h.1 hk rfl, zgX_at hss hs rfl]
      show List.map _ (sX (oS (oe os k) si) ++ [d]) = _
      rw [List.map_append]; rfl
    · rw [if_neg z, if_neg z]
  · have e1 := znr_set (o := oSetX (oe os k) d9 ((oX (oe os k)).set si (sSetX (oS (oe os k) si) d2 (sX (oS (oe os k) si) ++ [d])))) hk
    have e2 := znX_set (d := d9) (s := sSetX (oS (oe os k) si) d2 (sX (oS (oe os k) si) ++ [d])) hs
    have e3 : (sX (sSetX (oS (oe os k) si) d2 (sX (oS (oe os k) si) ++ [d]))).length = (sX (oS (oe os k) si)).length + 1 := List.length_append
    omega
theorem zgO_X {o : zOt} {d k : Nat} {qs bs e9 : Nat} {t u : Int32} (x : np_N) (t' : Int32) : zgO (oSetX o d (zin (oX o) k (qs, t, u, bs, e9, []))) x t' = zgO o x t' := by
  unfold zgO
  show (if oM o = x then (zin (oX o) k (qs, t, u, bs, e9, [])).flatMap _ else []) = _
  by_cases z : oM o = x
  · rw [if_pos z, if_pos z]
    unfold zin
    have e : zgS (qs, t, u, bs, e9, []) t' = [] := by unfold zgS; split <;> rfl
    rw [List.flatMap_append, List.flatMap_cons, e, List.nil_append, ← List.flatMap_append, List.take_append_drop]
  · rw [if_neg z, if_neg z]
theorem zgw_C {os : List zOt} {k si d2 qs bs e9 : Nat} {t : Int32} (h : zgo os) (hk : k < os.length) (hs : si ≤ (oX (oe os k)).length) (h1 : ∀ j, j < si → sT (oS (oe os k) j) < t) (h2 : si < (oX (oe os k)).length → t < sT (oS (oe os k) si)) : zgw (os.set k (oSetX (oe os k) d2 (zin (oX (oe os k)) si (qs, t, 0, bs, e9, [])))) k si ∧ (∀ x t', zgt (os.set k (oSetX (oe os k) d2 (zin (oX (oe os k)) si (qs, t, 0, bs, e9, [])))) x t' = zgt os x t') ∧ znr (os.set k (oSetX (oe os k) d2 (zin (oX (oe os k)) si (qs, t, 0, bs, e9, [])))) = znr os := by
  refine ⟨⟨zso_set h.1 hk rfl, fun i hi => ?_⟩, fun x t' => zgt_set hk x t' (zgO_X x t'), ?_⟩
  · rw [List.length_set] at hi
    rw [oe_set hk]
    by_cases z : i = k
    · rw [if_pos z]
      have hl : (oX (oSetX (oe os k) d2 (zin (oX (oe os k)) si (qs, t, 0, bs, e9, [])))).length = (oX (oe os k)).length + 1 := zin_len hs
      refine ⟨zss_in (h.2 k hk).1 hs h1 h2, by rw [hl]; omega, fun j hj hn => ?_⟩
      rw [hl] at hj
      rw [oS_in hs]
      by_cases w : j < si
      · rw [if_pos w]; exact (h.2 k hk).2.2 j (by omega)
      · rw [if_neg w]
        by_cases v : j = si
        · exact absurd ⟨z, v⟩ hn
        · rw [if_neg v]; exact (h.2 k hk).2.2 _ (by omega)
    · rw [if_neg z]
      exact ⟨(h.2 i hi).1, (h.2 i hi).2.1, fun j hj _ => (h.2 i hi).2.2 j hj⟩
  · have e1 := znr_set (o := oSetX (oe os k) d2 (zin (oX (oe os k)) si (qs, t, 0, bs, e9, []))) hk
    have e2 := znX_in (o := oe os k) (k := si) (d := d2) (s := ((qs, t, 0, bs, e9, []) : zSt))
    have e3 : (sX ((qs, t, 0, bs, e9, []) : zSt)).length = 0 := rfl
    omega
theorem zgw_A {os : List zOt} {k q a1 ol d2 qs bs e9 : Nat} {ls : np_N} {t : Int32} (h : zgo os) (hk : k ≤ os.length) (h1 : ∀ i, i < k → nk_d (zky (oM (oe os i))) (zky ls) < 0) (h2 : ∀ i, k ≤ i → i < os.length → nk_d (zky ls) (zky (oM (oe os i))) < 0) : zgw ((zin os k (q, a1, ls, none, ol, e9, [])).set k (oSetX (q, a1, ls, none, ol, e9, []) d2 (zin [] 0 (qs, t, 0, bs, e9, [])))) k 0 ∧ (∀ x t', zgt ((zin os k (q, a1, ls, none, ol, e9, [])).set k (oSetX (q, a1, ls, none, ol, e9, []) d2 (zin [] 0 (qs, t, 0, bs, e9, [])))) x t' = zgt os x t') ∧ znr ((zin os k (q, a1, ls, none, ol, e9, [])).set k (oSetX (q, a1, ls, none, ol, e9, []) d2 (zin [] 0 (qs, t, 0, bs, e9, [])))) = znr os := by
  have hk2 : k < (zin os k ((q, a1, ls, none, ol, e9, []) : zOt)).length := by rw [zin_len hk]; omega
  have hoe : oe (zin os k ((q, a1, ls, none, ol, e9, []) : zOt)) k = (q, a1, ls, none, ol, e9, []) := by rw [oe_in hk, if_neg (Nat.lt_irrefl _), if_pos rfl]
  have hso2 : zso (zin os k ((q, a1, ls, none, ol, e9, []) : zOt)) := zso_in h.1 hk h1 h2
  refine ⟨⟨zso_set hso2 hk2 (by rw [hoe]; rfl), fun i hi => ?_⟩, fun x t' => ?_, ?_⟩
  · rw [List.length_set, zin_len hk] at hi
    rw [oe_set hk2]
    by_cases z : i = k
    · rw [if_pos z]
      refine ⟨fun i j hij hj => ?_, Nat.succ_pos 0, fun j hj hn => ?_⟩
      · have hj : j < 1 := hj
        omega
      · have hj : j < 1 := hj
        exact absurd ⟨z, by omega⟩ hn
    · rw [if_neg z, oe_in hk]
      by_cases w : i < k
      · rw [if_pos w]
        exact ⟨(h.2 i (by omega)).1, (h.2 i (by omega)).2.1, fun j hj _ => (h.2 i (by omega)).2.2 j hj⟩
      · rw [if_neg w, if_neg z]
        exact ⟨(h.2 _ (by omega)).1, (h.2 _ (by omega)).2.1, fun j hj _ => (h.2 _ (by omega)).2.2 j hj⟩
  · rw [zgt_set hk2 x t' (by rw [hoe]; exact zgO_X (o := (q, a1, ls, none, ol, e9, [])) x t')]
    refine zgt_in x t' ?_
    unfold zgO
    split <;> rfl
  · have e1 := znr_set (o := oSetX (q, a1, ls, none, ol, e9, []) d2 (zin [] 0 (qs, t, 0, bs, e9, []))) hk2
    rw [hoe] at e1
    have e2 := znr_in (os := os) (k := k) (o := (q, a1, ls, none, ol, e9, []))
    have e3 : znO (oSetX (q, a1, ls, none, ol, e9, []) d2 (zin [] 0 ((qs, t, 0, bs, e9, []) : zSt))) = 0 := rfl
    have e4 : znO (q, a1, ls, none, ol, e9, []) = 0 := rfl
    omega
/-- the set of that name and type lies there -/
def zsa (os : List zOt) (x : np_N) (t : Int32) (q : Nat) : Prop := ∃ o ∈ os, oM o = x ∧ ∃ s ∈ oX o, sT s = t ∧ sA s = q
theorem zsa_in {os : List zOt} {k : Nat} {o : zOt} {x : np_N} {t : Int32} {q : Nat} (h : zsa os x t q) : zsa (zin os k o) x t q := by
  obtain ⟨o1, h1, h2⟩ := h
  refine ⟨o1, ?_, h2⟩
  unfold zin
  rw [← List.take_append_drop k os] at h1
  rcases List.mem_append.mp h1 with z | z
  · exact List.mem_append_left _ z
  · exact List.mem_append_right _ (List.mem_cons_of_mem _ z)
theorem zsa_set {os : List zOt} {k d : Nat} {ys : List zSt} {x : np_N} {t : Int32} {q : Nat} (h : zsa os x t q) (hk : k < os.length) (hy : ∀ s ∈ oX (oe os k), x = oM (oe os k) → sT s = t → ∃ s' ∈ ys, sT s' = t ∧ sA s' = sA s) : zsa (os.set k (oSetX (oe os k) d ys)) x t q := by
  obtain ⟨o1, h1, h2, s, h3, h4, h5⟩ := h
  obtain ⟨j, hj, rfl⟩ := oe_ix h1
  by_cases z : j = k
  · subst z
    obtain ⟨s', g1, g2, g3⟩ := hy s h3 h2.symm h4
    refine ⟨oSetX (oe os j) d ys, ?_, h2, s', g1, g2, g3.trans h5⟩
    have e := oe_set (o := oSetX (oe os j) d ys) (j := j) hj
    rw [if_pos rfl] at e
    have hm := oe_mem (os := os.set j (oSetX (oe os j) d ys)) (i := j) (by rw [List.length_set]; exact hj)
    rw [e] at hm; exact hm
  · refine ⟨oe os j, ?_, h2, s, h3, h4, h5⟩
    have e := oe_set (o := oSetX (oe os k) d ys) (j := j) hk
    rw [if_neg z] at e
    have hm := oe_mem (os := os.set k (oSetX (oe os k) d ys)) (i := j) (by rw [List.length_set]; exact hj)
    rw [e] at hm; exact hm
theorem zdr_ne {α : Type} {xs : List α} {i : Nat} {s : α} (h : s ∈ xs) (hn : ∀ hi : i < xs.length, s ≠ xs[i]) : s ∈ zdr xs i := by
  unfold zdr
  by_cases hi : i < xs.length
  · have e := List.take_append_drop i xs
    rw [← e] at h
    rcases List.mem_append.mp h with z | z
    · exact List.mem_append_left _ z
    · rw [List.drop_eq_getElem_cons hi] at z
      rcases List.mem_cons.mp z with z | z
      · exact absurd z (hn hi)
      · exact List.mem_append_right _ z
  · rw [List.take_of_length_le (by omega)]; exact List.mem_append_left _ h
theorem zsa_dr {os : List zOt} {k : Nat} {x : np_N} {t : Int32} {q : Nat} (h : zsa os x t q) (h0 : oX (oe os k) = []) : zsa (zdr os k) x t q := by
  obtain ⟨o1, h1, h2, s, h3, h4⟩ := h
  refine ⟨o1, zdr_ne h1 (fun hk e => ?_), h2, s, h3, h4⟩
  rw [e, ← oe_at hk, h0] at h3
  cases h3
theorem zsa_D {xs : List zSt} {si : Nat} {s2 s : zSt} (hs : ∀ h : si < xs.length, sT s2 = sT xs[si] ∧ sA s2 = sA xs[si]) (h : s ∈ xs) : ∃ s' ∈ xs.set si s2, sT s' = sT s ∧ sA s' = sA s := by
  obtain ⟨j, hj, rfl⟩ := List.getElem_of_mem h
  by_cases z : si = j
  · subst z
    exact ⟨s2, List.mem_of_getElem? (i := si) (by rw [List.getElem?_set_self hj]), (hs hj).1, (hs hj).2⟩
  · exact ⟨xs[j], List.mem_of_getElem? (i := j) (by rw [List.getElem?_set_ne z, List.getElem?_eq_getElem hj]), rfl, rfl⟩
theorem zsa_zin {xs : List zSt} {si : Nat} {s2 s : zSt} (h : s ∈ xs) : s ∈ zin xs si s2 := by
  unfold zin
  rw [← List.take_append_drop si xs] at h
  rcases List.mem_append.mp h with z | z
  · exact List.mem_append_left _ z
  · exact List.mem_append_right _ (List.mem_cons_of_mem _ z)
theorem zsa_of {os : List zOt} {k si : Nat} (hk : k < os.length) (hs : si < (oX (oe os k)).length) : zsa os (oM (oe os k)) (sT (oS (oe os k) si)) (sA (oS (oe os k) si)) := ⟨_, oe_mem hk, rfl, _, oS_mem hs, rfl, rfl⟩
theorem zsa_ix {os : List zOt} {x : np_N} {t : Int32} {q : Nat} (h : zsa os x t q) : ∃ i si, i < os.length ∧ oM (oe os i) = x ∧ si < (oX (oe os i)).length ∧ sT (oS (oe os i) si) = t ∧ sA (oS (oe os i) si) = q := by
  obtain ⟨o1, h1, h2, s, h3, h4, h5⟩ := h
  obtain ⟨j, hj, rfl⟩ := oe_ix h1
  obtain ⟨si, hs, rfl⟩ := oS_ix h3
  exact ⟨j, si, hj, h2, hs, h4, h5⟩
