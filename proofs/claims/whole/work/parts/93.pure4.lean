/-! what a removal makes of a zone -/
/-- good but for one owner, that may have no sets -/
def zge (os : List zOt) (k : Nat) : Prop := zso os ∧ ∀ i, i < os.length → zss (oe os i) ∧ (i ≠ k → 0 < (oX (oe os i)).length) ∧ ∀ j, j < (oX (oe os i)).length → 0 < (sX (oS (oe os i) j)).length
theorem zge.go {os : List zOt} {k : Nat} (h : zge os k) (h0 : 0 < (oX (oe os k)).length) : zgo os := ⟨h.1, fun i hi => ⟨(h.2 i hi).1, by
  by_cases z : i = k
  · rw [z]; exact h0
  · exact (h.2 i hi).2.1 z, (h.2 i hi).2.2⟩⟩
theorem zge_dr {os : List zOt} {k : Nat} (h : zge os k) (hk : k < os.length) (h0 : oX (oe os k) = []) : zgo (zdr os k) ∧ (∀ x t, zgt (zdr os k) x t = zgt os x t) ∧ znr (zdr os k) = znr os := by
  refine ⟨⟨zso_dr h.1 hk, fun i hi => ?_⟩, fun x t => zgt_dr hk x t (by unfold zgO; rw [h0]; split <;> rfl), ?_⟩
  · rw [zdr_len hk] at hi
    rw [oe_dr hk]
    by_cases z : i < k
    · rw [if_pos z]; exact ⟨(h.2 i (by omega)).1, (h.2 i (by omega)).2.1 (by omega), (h.2 i (by omega)).2.2⟩
    · rw [if_neg z]; exact ⟨(h.2 _ (by omega)).1, (h.2 _ (by omega)).2.1 (by omega), (h.2 _ (by omega)).2.2⟩
  · have e1 := znr_dr hk
    have e2 : znO (oe os k) = 0 := by unfold znO; rw [h0]; rfl
    omega
theorem zge_at {os : List zOt} {i k : Nat} (h : zso os) (hi : i < os.length) (hk : k ≤ os.length) (h1 : ∀ j, j < k → nk_d (zky (oM (oe os j))) (zky (oM (oe os i))) < 0) (h2 : ∀ j, k ≤ j → j < os.length → ¬ nk_d (zky (oM (oe os j))) (zky (oM (oe os i))) < 0) : k = i := by
  rcases Nat.lt_or_ge i k with z | z
  · have := h1 i z; rw [nk_d_self] at this; omega
  · rcases Nat.lt_or_ge k i with w | w
    · exact absurd (h k i w hi) (h2 k (Nat.le_refl _) (by omega))
    · omega
/-- a datum went -/
theorem zgo_D {os : List zOt} {k si j d9 d2 : Nat} (h : zgo os) (hk : k < os.length) (hs : si < (oX (oe os k)).length) (hj : j < (sX (oS (oe os k) si)).length) : (∀ x t, zgt (os.set k (oSetX (oe os k) d9 ((oX (oe os k)).set si (sSetX (oS (oe os k) si) d2 (zdr (sX (oS (oe os k) si)) j))))) x t = if x = oM (oe os k) ∧ t = sT (oS (oe os k) si) then zdr (zgt os x t) j else zgt os x t) ∧ znr (os.set k (oSetX (oe os k) d9 ((oX (oe os k)).set si (sSetX (oS (oe os k) si) d2 (zdr (sX (oS (oe os k) si)) j))))) + 1 = znr os ∧ zgw (os.set k (oSetX (oe os k) d9 ((oX (oe os k)).set si (sSetX (oS (oe os k) si) d2 (zdr (sX (oS (oe os k) si)) j))))) k si := by
  have hss := (h.2 k hk).1
  refine ⟨fun x t => ?_, ?_, ⟨zso_set h.1 hk rfl, fun i hi => ?_⟩⟩
  · rw [zgt_D (s' := sSetX (oS (oe os k) si) d2 (zdr (sX (oS (oe os k) si)) j)) h.1 hk hss hs rfl]
    by_cases z : x = oM (oe os k) ∧ t = sT (oS (oe os k) si)
    · rw [if_pos z, if_pos z, z.1, z.2, zgt_at h.1 hk rfl, zgX_at hss hs rfl]
      show List.map _ (zdr (sX (oS (oe os k) si)) j) = _
      rw [zdr_map]; rfl
    · rw [if_neg z, if_neg z]
  · have e1 := znr_set (o := oSetX (oe os k) d9 ((oX (oe os k)).set si (sSetX (oS (oe os k) si) d2 (zdr (sX (oS (oe os k) si)) j)))) hk
    have e2 := znX_set (d := d9) (s := sSetX (oS (oe os k) si) d2 (zdr (sX (oS (oe os k) si)) j)) hs
    have e3 : (sX (sSetX (oS (oe os k) si) d2 (zdr (sX (oS (oe os k) si)) j))).length = (sX (oS (oe os k) si)).length - 1 := zdr_len hj
    omega
  · rw [List.length_set] at hi
    rw [oe_set hk]
    by_cases z : i = k
    · rw [if_pos z]
      have hl : (oX (oSetX (oe os k) d9 ((oX (oe os k)).set si (sSetX (oS (oe os k) si) d2 (zdr (sX (oS (oe os k) si)) j))))).length = (oX (oe os k)).length := List.length_set
      refine ⟨zss_set hss hs rfl, by rw [hl]; exact (h.2 k hk).2.1, fun i9 hi9 hn => ?_⟩
      rw [hl] at hi9
      rw [oS_set hs]
      by_cases w : i9 = si
      · exact absurd ⟨z, w⟩ hn
      · rw [if_neg w]; exact (h.2 k hk).2.2 i9 hi9
    · rw [if_neg z]
      exact ⟨(h.2 i hi).1, (h.2 i hi).2.1, fun i9 hi9 _ => (h.2 i hi).2.2 i9 hi9⟩
/-- an empty set went -/
theorem zgw_S {os : List zOt} {k si d9 : Nat} (h : zgw os k si) (hk : k < os.length) (hs : si < (oX (oe os k)).length) (h0 : sX (oS (oe os k) si) = []) : (∀ x t, zgt (os.set k (oSetX (oe os k) d9 (zdr (oX (oe os k)) si))) x t = zgt os x t) ∧ znr (os.set k (oSetX (oe os k) d9 (zdr (oX (oe os k)) si))) = znr os ∧ zge (os.set k (oSetX (oe os k) d9 (zdr (oX (oe os k)) si))) k := by
  refine ⟨fun x t => zgt_set hk x t ?_, ?_, ⟨zso_set h.1 hk rfl, fun i hi => ?_⟩⟩
  · unfold zgO
    show (if oM (oe os k) = x then (zdr (oX (oe os k)) si).flatMap _ else []) = _
    by_cases z : oM (oe os k) = x
    · rw [if_pos z, if_pos z]
      conv => rhs; rw [oX_split hs]
      unfold zdr
      have e : zgS (oS (oe os k) si) t = [] := by unfold zgS; rw [h0]; split <;> rfl
      rw [List.flatMap_append, List.flatMap_append, List.flatMap_cons, e, List.nil_append]
    · rw [if_neg z, if_neg z]
  · have e1 := znr_set (o := oSetX (oe os k) d9 (zdr (oX (oe os k)) si)) hk
    have e2 := znX_dr (d := d9) hs
    have e3 : (sX (oS (oe os k) si)).length = 0 := by rw [h0]; rfl
    omega
  · rw [List.length_set] at hi
    rw [oe_set hk]
    by_cases z : i = k
    · rw [if_pos z]
      have hl : (oX (oSetX (oe os k) d9 (zdr (oX (oe os k)) si))).length = (oX (oe os k)).length - 1 := zdr_len hs
      refine ⟨zss_dr (h.2 k hk).1 hs, fun q => absurd z q, fun i9 hi9 => ?_⟩
      rw [hl] at hi9
      rw [oS_dr hs]
      by_cases w : i9 < si
      · rw [if_pos w]; exact (h.2 k hk).2.2 i9 (by omega) (by omega)
      · rw [if_neg w]; exact (h.2 k hk).2.2 _ (by omega) (by omega)
    · rw [if_neg z]
      exact ⟨(h.2 i hi).1, fun _ => (h.2 i hi).2.1, fun i9 hi9 => (h.2 i hi).2.2 i9 hi9 (fun q => z q.1)⟩
/-- sets of some types went -/
def zkt (t x : Int32) : Bool := !(decide (x = t) || (decide (t = 255) && !decide (x = 6)))
def zkf (t : Int32) (xs : List zSt) : List zSt := xs.filter (fun s => zkt t (sT s))
def zgn (t : Int32) (xs : List zSt) : Nat := ((xs.filter (fun s => !zkt t (sT s))).map (fun s => (sX s).length)).sum
theorem zkf_n (t : Int32) (xs : List zSt) : ((zkf t xs).map (fun s => (sX s).length)).sum + zgn t xs = (xs.map (fun s => (sX s).length)).sum := by
  unfold zkf zgn
  induction xs with
  | nil => rfl
  | cons s r ih =>
    rw [List.filter_cons, List.filter_cons]
    by_cases z : zkt t (sT s) = true
    · rw [if_pos z, if_neg (by rw [z]; decide), List.map_cons, List.map_cons, List.sum_cons, List.sum_cons]; omega
    · rw [if_neg z, if_pos (by simpa using z), List.map_cons, List.map_cons, List.sum_cons, List.sum_cons]; omega
theorem zkf_g (t x : Int32) (xs : List zSt) : (zkf t xs).flatMap (fun s => zgS s x) = if zkt t x = true then xs.flatMap (fun s => zgS s x) else [] := by
  unfold zkf
  induction xs with
  | nil => split <;> rfl
  | cons s r ih =>
    rw [List.filter_cons]
    by_cases e : sT s = x
    · rw [e]
      by_cases z : zkt t x = true
      · rw [if_pos z, List.flatMap_cons, ih, if_pos z, if_pos z, List.flatMap_cons]
      · rw [if_neg z, ih, if_neg z, if_neg z]
    · have e0 : zgS s x = [] := if_neg e
      by_cases z : zkt t (sT s) = true
      · rw [if_pos z, List.flatMap_cons, List.flatMap_cons, e0, ih]; rfl
      · rw [if_neg z, List.flatMap_cons, e0, ih]; rfl
theorem zss_pw {o : zOt} : zss o ↔ (oX o).Pairwise (fun s1 s2 => sT s1 < sT s2) := by
  rw [List.pairwise_iff_getElem]
  constructor
  · intro h i j hi hj hij
    have := h i j hij hj
    rw [oS_at hi, oS_at hj] at this; exact this
  · intro h i j hij hj
    rw [oS_at hj, oS_at (by omega)]
    exact h i j (by omega) hj hij
theorem zgo_F {os : List zOt} {k d9 : Nat} {t : Int32} (h : zgo os) (hk : k < os.length) : (∀ x t', zgt (os.set k (oSetX (oe os k) d9 (zkf t (oX (oe os k))))) x t' = if x = oM (oe os k) ∧ ¬ zkt t t' = true then [] else zgt os x t') ∧ znr (os.set k (oSetX (oe os k) d9 (zkf t (oX (oe os k))))) + zgn t (oX (oe os k)) = znr os ∧ zge (os.set k (oSetX (oe os k) d9 (zkf t (oX (oe os k))))) k := by
  have hso2 : zso (os.set k (oSetX (oe os k) d9 (zkf t (oX (oe os k))))) := zso_set h.1 hk rfl
  have e2 : oe (os.set k (oSetX (oe os k) d9 (zkf t (oX (oe os k))))) k = oSetX (oe os k) d9 (zkf t (oX (oe os k))) := by rw [oe_set hk, if_pos rfl]
  refine ⟨fun x t' => ?_, ?_, ⟨hso2, fun i hi => ?_⟩⟩
  · by_cases z : x = oM (oe os k)
    · subst z
      rw [zgt_at hso2 (i := k) (by rw [List.length_set]; exact hk) (by rw [e2]; rfl), e2]
      show (zkf t (oX (oe os k))).flatMap _ = _
      rw [zkf_g, zgt_at h.1 hk rfl]
      by_cases w : zkt t t' = true
      · rw [if_pos w, if_neg (fun q => q.2 w)]
      · rw [if_neg w, if_pos ⟨rfl, w⟩]
    · rw [if_neg (fun q => z q.1)]
      exact zgt_set hk x t' ((if_neg (fun q => z q.symm)).trans (if_neg (fun q => z q.symm)).symm)
  · have e1 := znr_set (o := oSetX (oe os k) d9 (zkf t (oX (oe os k)))) hk
    have e3 : znO (oSetX (oe os k) d9 (zkf t (oX (oe os k)))) + zgn t (oX (oe os k)) = znO (oe os k) := zkf_n t _
    omega
  · rw [List.length_set] at hi
    rw [oe_set hk]
    by_cases z : i = k
    · rw [if_pos z]
      refine ⟨?_, fun q => absurd z q, fun j hj => ?_⟩
      · rw [zss_pw]
        exact List.Pairwise.filter _ (zss_pw.mp (h.2 k hk).1)
      · have hm : oS (oSetX (oe os k) d9 (zkf t (oX (oe os k)))) j ∈ zkf t (oX (oe os k)) := oS_mem hj
        obtain ⟨j2, hj2, e⟩ := oS_ix ((List.mem_filter.mp hm).1)
        rw [← e]; exact (h.2 k hk).2.2 j2 hj2
    · rw [if_neg z]
      exact ⟨(h.2 i hi).1, fun _ => (h.2 i hi).2.1, (h.2 i hi).2.2⟩
/-! the cuts are as one way through the owners marks them -/
def zctd (os : List zOt) : Prop := ∀ i, i < os.length → oC (oe os i) = zca os (i + 1)
theorem zcs_cg {os os2 : List zOt} (hM : ∀ i, i < os.length → oM (oe os2 i) = oM (oe os i)) (hT : ∀ i, i < os.length → (oX (oe os2 i)).any (fun s => decide (sT s = 2)) = (oX (oe os i)).any (fun s => decide (sT s = 2))) : ∀ i, i ≤ os.length → zcs os2 i = zcs os i := by
  intro i
  induction i with
  | zero => intro _; rfl
  | succ i ih =>
    intro hi
    have ih := ih (by omega)
    unfold zcs
    rw [ih]
    by_cases z : i = 0
    · rw [if_pos z, if_pos z]
    · rw [if_neg z, if_neg z]
      have hw : zcw os2 i = zcw os i := by unfold zcw; rw [hT i (by omega)]
      cases e : zcs os i with
      | none => exact hw
      | some k =>
        have := zcs_lt e
        show (if oM (oe os2 k) <:+ oM (oe os2 i) then some k else zcw os2 i) = (if oM (oe os k) <:+ oM (oe os i) then some k else zcw os i)
        rw [hM k (by omega), hM i (by omega), hw]
theorem zca_cg {os os2 : List zOt} (hA : ∀ i, i < os.length → oA (oe os2 i) = oA (oe os i)) (hM : ∀ i, i < os.length → oM (oe os2 i) = oM (oe os i)) (hT : ∀ i, i < os.length → (oX (oe os2 i)).any (fun s => decide (sT s = 2)) = (oX (oe os i)).any (fun s => decide (sT s = 2))) {i : Nat} (hi : i ≤ os.length) : zca os2 i = zca os i := by
  unfold zca
  rw [zcs_cg hM hT i hi]
  cases e : zcs os i with
  | none => rfl
  | some k => exact congrArg some (hA k (by have := zcs_lt e; omega))
theorem zctd_cg {os os2 : List zOt} (h : zctd os) (hl : os2.length = os.length) (hC : ∀ i, i < os.length → oC (oe os2 i) = oC (oe os i)) (hA : ∀ i, i < os.length → oA (oe os2 i) = oA (oe os i)) (hM : ∀ i, i < os.length → oM (oe os2 i) = oM (oe os i)) (hT : ∀ i, i < os.length → (oX (oe os2 i)).any (fun s => decide (sT s = 2)) = (oX (oe os i)).any (fun s => decide (sT s = 2))) : zctd os2 := by
  intro i hi
  rw [hl] at hi
  rw [hC i hi, h i hi, zca_cg hA hM hT (by omega)]
theorem zctd_mc {os : List zOt} (h0 : oC (oe os 0) = none) : zctd (zmc os) := by
  intro i hi
  unfold zmc at hi
  rw [zmi_len] at hi
  rw [zca_cg (os := os) (os2 := zmc os) (fun j hj => (zmi_o hj).1) (fun j hj => (zmi_o hj).2.2.1) (fun j hj => by rw [show oX (oe (zmc os) j) = oX (oe os j) from (zmi_o hj).2.2.2.2.2]) (by omega)]
  unfold zmc
  rw [zmi_e os _ _ hi]
  by_cases z : 0 < i ∧ i < os.length
  · rw [if_pos z]; rfl
  · rw [if_neg z, show i = 0 by omega, h0]; rfl
theorem zmc_go {os : List zOt} (h : zgo os) : zgo (zmc os) := by
  refine ⟨zmi_so h.1, fun i hi => ?_⟩
  unfold zmc at hi ⊢
  rw [zmi_len] at hi
  have e := (zmi_o (i := os.length) hi).2.2.2.2.2
  have e2 : ∀ j, oS (oe (zmi os os.length) i) j = oS (oe os i) j := fun j => by unfold oS; rw [e]
  have h9 := h.2 i hi
  refine ⟨fun a b hab hb => ?_, by rw [e]; exact h9.2.1, fun j hj => by rw [e2]; rw [e] at hj; exact h9.2.2 j hj⟩
  rw [e] at hb
  rw [e2, e2]; exact h9.1 a b hab hb
theorem zmc_map {β : Type} {os : List zOt} {f : zOt → β} (hf : ∀ o c, f (oSetC o c) = f o) : (zmc os).map f = os.map f := by
  refine List.ext_getElem (by rw [List.length_map, List.length_map]; exact zmi_len _ _) (fun i h1 h2 => ?_)
  rw [List.length_map] at h1 h2
  rw [List.getElem_map, List.getElem_map, ← oe_at h1, ← oe_at h2]
  unfold zmc
  rw [zmi_e os _ _ h2]
  by_cases z : 0 < i ∧ i < os.length
  · rw [if_pos z, hf]
  · rw [if_neg z]
theorem zmc_gt {os : List zOt} (x : np_N) (t : Int32) : zgt (zmc os) x t = zgt os x t := by
  unfold zgt
  rw [List.flatMap_def, List.flatMap_def, zmc_map (fun _ _ => rfl)]
theorem zmc_nr {os : List zOt} : znr (zmc os) = znr os := by
  unfold znr
  rw [zmc_map (fun _ _ => rfl)]
theorem zmc_len {os : List zOt} : (zmc os).length = os.length := zmi_len _ _
theorem zsa_mc {os : List zOt} {x : np_N} {t : Int32} {q : Nat} (h : zsa os x t q) : zsa (zmc os) x t q := by
  obtain ⟨i, si, h1, h2, h3, h4, h5⟩ := zsa_ix h
  have e := zmi_o (i := os.length) h1
  refine ⟨oe (zmc os) i, oe_mem (by rw [zmc_len]; exact h1), by rw [← h2]; exact e.2.2.1, oS (oe os i) si, ?_, h4, h5⟩
  have e2 : oX (oe (zmc os) i) = oX (oe os i) := e.2.2.2.2.2
  rw [e2]; exact oS_mem h3
