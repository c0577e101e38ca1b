theorem zrun_p (A B : np_N) (x y : Nat) : ∀ i, (∀ t, t < zrun A B x y i → A.getD (x + i - 1 - t) [] = B.getD (y + i - 1 - t) []) ∧ (zrun A B x y i < i → A.getD (x + i - 1 - zrun A B x y i) [] ≠ B.getD (y + i - 1 - zrun A B x y i) []) := by
  intro i
  induction i with
  | zero => exact ⟨fun t ht => absurd ht (Nat.not_lt_zero _), fun h => absurd h (Nat.lt_irrefl _)⟩
  | succ i ih =>
    have hle := zrun_le A B x y i
    by_cases z : A.getD (x + i) [] = B.getD (y + i) []
    · have e : zrun A B x y (i + 1) = zrun A B x y i + 1 := if_pos z
      rw [e]
      refine ⟨fun t ht => ?_, fun h => ?_⟩
      · rcases Nat.eq_zero_or_pos t with w | w
        · rw [w]; exact z
        · have q := ih.1 (t - 1) (by omega)
          rw [show x + (i + 1) - 1 - t = x + i - 1 - (t - 1) by omega, show y + (i + 1) - 1 - t = y + i - 1 - (t - 1) by omega]
          exact q
      · have q := ih.2 (by omega)
        rw [show x + (i + 1) - 1 - (zrun A B x y i + 1) = x + i - 1 - zrun A B x y i by omega, show y + (i + 1) - 1 - (zrun A B x y i + 1) = y + i - 1 - zrun A B x y i by omega]
        exact q
    · have e : zrun A B x y (i + 1) = 0 := if_neg z
      rw [e]
      exact ⟨fun t ht => absurd ht (Nat.not_lt_zero _), fun _ => z⟩
theorem getD_at {A : np_N} {i : Nat} (h : i < A.length) : A.getD i [] = A[i] := by
  rw [List.getD_eq_getElem?_getD, List.getElem?_eq_getElem h]; rfl
theorem zshr_eq (A B : np_N) : A.drop (A.length - zshr A B) = B.drop (B.length - zshr A B) := by
  have hle := zshr_le A B
  refine List.ext_getElem (by rw [List.length_drop, List.length_drop]; omega) (fun j h1 h2 => ?_)
  rw [List.length_drop] at h1 h2
  have q := (zrun_p A B (A.length - min A.length B.length) (B.length - min A.length B.length) (min A.length B.length)).1 (zshr A B - 1 - j) (by show _ < zshr A B; omega)
  rw [show A.length - min A.length B.length + min A.length B.length - 1 - (zshr A B - 1 - j) = A.length - zshr A B + j by omega, show B.length - min A.length B.length + min A.length B.length - 1 - (zshr A B - 1 - j) = B.length - zshr A B + j by omega, getD_at (by omega), getD_at (by omega)] at q
  rw [List.getElem_drop, List.getElem_drop]
  exact q
theorem suf_at {s A : np_N} (h : s <:+ A) {k : Nat} (hk : k < s.length) : A.getD (A.length - 1 - k) [] = s.getD (s.length - 1 - k) [] := by
  obtain ⟨p, rfl⟩ := h
  rw [List.length_append, List.getD_eq_getElem?_getD, List.getD_eq_getElem?_getD, List.getElem?_append_right (by omega), show p.length + s.length - 1 - k - p.length = s.length - 1 - k by omega]
theorem zshr_ge {A B s : np_N} (h1 : s <:+ A) (h2 : s <:+ B) : s.length ≤ zshr A B := by
  rcases Nat.lt_or_ge (zshr A B) s.length with z | z
  · have l1 := h1.length_le
    have l2 := h2.length_le
    have q := (zrun_p A B (A.length - min A.length B.length) (B.length - min A.length B.length) (min A.length B.length)).2 (by show zshr A B < _; omega)
    refine absurd ?_ q
    show A.getD (_ - 1 - zshr A B) [] = B.getD (_ - 1 - zshr A B) []
    rw [show A.length - min A.length B.length + min A.length B.length = A.length by omega, show B.length - min A.length B.length + min A.length B.length = B.length by omega, suf_at h1 z, suf_at h2 z]
  · exact z
section ZC2
variable {os : List zOt} {top : np_N}
theorem zGZ.dp (h : zGZ os top) {x : np_N} {k d : Nat} (hx : zfn x) (hk : zpl9 os x k) (hd : d = max (if 0 < k then zshr (oM (oe os (k - 1))) x else 0) (if k < os.length then zshr (oM (oe os k)) x else 0)) : d ≤ x.length ∧ isCl (zV os) x (x.drop (x.length - d)) ∧ (d = x.length ↔ vth (zV os) x) := by
  have hkl := hk.1
  have hdl : d ≤ x.length := by
    rw [hd]
    refine Nat.max_le.mpr ⟨?_, ?_⟩ <;> split
    · exact (zshr_le _ _).2
    · exact Nat.zero_le _
    · exact (zshr_le _ _).2
    · exact Nat.zero_le _
  have hup : ∀ s, s <:+ x → vth (zV os) s → s.length ≤ d := by
    rintro s hs ⟨y, hy, hsy⟩
    obtain ⟨i, hi, rfl⟩ := vD_ix hy
    have hfs := zfn_suf hs hx
    have hsi : ¬ zl (oM (oe os i)) s := fun z => by
      by_cases e : s = oM (oe os i)
      · rw [e] at z; exact zl_ir _ z
      · exact zl_ay z (zl_suf hsy e)
    rcases Nat.lt_or_ge i k with w | w
    · have h1 : k - 1 < os.length := by omega
      have h2 : s <:+ oM (oe os (k - 1)) := by
        refine zl_btw (x := x) hfs (h.fn h1) hs (fun z => ?_) (zl_ay (hk.2.1 (k - 1) (by omega)))
        rcases Nat.lt_or_ge i (k - 1) with v | v
        · exact hsi (zl_tr ((h.lt hi h1).mpr v) z)
        · rw [show k - 1 = i by omega] at z; exact hsi z
      have h3 := zshr_ge h2 hs
      rw [hd, if_pos (by omega)]
      omega
    · have h1 : k < os.length := by omega
      have hsx : ¬ zl x s := fun z => by
        by_cases e : s = x
        · rw [e] at z; exact zl_ir _ z
        · exact zl_ay z (zl_suf hs e)
      have h2 : s <:+ oM (oe os k) := by
        refine zl_btw (x := oM (oe os i)) hfs (h.fn h1) hsy (fun z => ?_) (fun z => ?_)
        · exact hk.2.2 k (Nat.le_refl _) h1 (zl_lt_le hfs hx z hsx)
        · exact absurd ((h.lt hi h1).mp z) (by omega)
      have h3 := zshr_ge h2 hs
      rw [hd, if_pos h1]
      omega
  have hth : vth (zV os) (x.drop (x.length - d)) := by
    have hone : ∀ m, m < os.length → d = zshr (oM (oe os m)) x → vth (zV os) (x.drop (x.length - d)) := fun m hm e => by
      refine ⟨oM (oe os m), vD_of h.1 hm, ?_⟩
      rw [e, ← zshr_eq]; exact List.drop_suffix _ _
    have h0 : d = 0 → vth (zV os) (x.drop (x.length - d)) := fun e => by
      refine ⟨oM (oe os 0), vD_of h.1 h.2.2.1, ?_⟩
      rw [e, Nat.sub_zero, List.drop_length]; exact List.nil_suffix
    by_cases z1 : 0 < k <;> by_cases z2 : k < os.length
    · rw [if_pos z1, if_pos z2] at hd
      rcases Nat.le_total (zshr (oM (oe os (k - 1))) x) (zshr (oM (oe os k)) x) with w | w
      · exact hone k z2 (by omega)
      · exact hone (k - 1) (by omega) (by omega)
    · rw [if_pos z1, if_neg z2] at hd
      exact hone (k - 1) (by omega) (by omega)
    · rw [if_neg z1, if_pos z2] at hd
      exact hone k z2 (by omega)
    · rw [if_neg z1, if_neg z2] at hd
      exact h0 (by omega)
  have hl : (x.drop (x.length - d)).length = d := by rw [List.length_drop]; omega
  refine ⟨hdl, ⟨List.drop_suffix _ _, hth, fun s h1 h2 => by rw [hl]; exact hup s h1 h2⟩, ?_, ?_⟩
  · intro e
    rw [e, Nat.sub_self] at hth
    exact hth
  · intro z
    have := hup x (List.suffix_refl _) z
    omega
theorem nI_65 {t : Nat} (h : t < 65536) : (1 ≤ t → 1 ≤ nI t) ∧ nI t ≤ 65535 := ⟨fun z => (nI_leI (a := 1) (b := t) (by omega) (by omega)).mpr z, (nI_leI (a := t) (b := 65535) (by omega) (by omega)).mpr (by omega)⟩
theorem zGZ.ts (h : zGZ os top) {i : Nat} (hi : i < os.length) : isTs (zV os) (oM (oe os i)) ((oX (oe os i)).map (fun s => (sT s).toNatClampNeg)) := by
  have hty := (h.2.2.2.2.1 i hi).2.2.2
  have hss := (h.1.2 i hi).1
  refine ⟨fun j hj => ?_, fun t => ?_⟩
  · rw [List.length_map] at hj
    have e : ∀ q, q < (oX (oe os i)).length → ((oX (oe os i)).map (fun s => (sT s).toNatClampNeg)).getD q 0 = (sT (oS (oe os i) q)).toNatClampNeg := fun q hq => by
      rw [List.getD_eq_getElem?_getD, List.getElem?_map, List.getElem?_eq_getElem hq, oS_at hq]; rfl
    rw [e j (by omega), e (j + 1) hj]
    exact clamp_lt (Int32.le_trans (by decide) (hty _ (oS_mem (by omega))).1) (Int32.le_trans (by decide) (hty _ (oS_mem hj)).1) (hss j (j + 1) (Nat.lt_succ_self _) hj)
  · rw [zV_ne h.1 hi, List.mem_map]
    constructor
    · rintro ⟨s, hs, rfl⟩
      have q := hty s hs
      obtain ⟨j, hj, rfl⟩ := oS_ix hs
      refine ⟨?_, j, hj, (nI_cl2 (Int32.le_trans (by decide) q.1)).symm⟩
      obtain ⟨n, hn, e⟩ := nI_of (Int32.not_lt.mpr (Int32.le_trans (by decide) q.1))
      have q2 := q.2
      rw [e] at q2 ⊢
      rw [zi_n _ hn]
      have := (nI_leI (a := n) (b := 65535) hn (by decide)).mp q2
      omega
    · rintro ⟨ht, j, hj, e⟩
      exact ⟨_, oS_mem hj, by rw [e, zi_n _ (by omega)]⟩
theorem zfl_in {o : zOt} {lo hi v : Int32} {xs : List zSt} : v ∈ zfl o lo hi xs ↔ ∃ s ∈ xs, sT s = v ∧ (¬ oC o = some (oA o) ∨ v = 2 ∨ v = 43) ∧ lo ≤ v ∧ v ≤ hi := by
  unfold zfl
  rw [List.mem_map]
  constructor
  · rintro ⟨s, h1, rfl⟩
    obtain ⟨h2, h3⟩ := List.mem_filter.mp h1
    unfold zfb at h3
    simp only [Bool.and_eq_true, Bool.or_eq_true, decide_eq_true_eq] at h3
    exact ⟨s, h2, rfl, by rcases h3.1.1 with (z | z) | z; exact Or.inl z; exact Or.inr (Or.inl z); exact Or.inr (Or.inr z), h3.1.2, h3.2⟩
  · rintro ⟨s, h1, rfl, h2, h3, h4⟩
    exact ⟨s, List.mem_filter.mpr ⟨h1, zfbT h2 (Int32.not_lt.mpr h3) (Int32.not_lt.mpr h4)⟩, rfl⟩
theorem zGZ.ty (h : zGZ os top) {i : Nat} (hi : i < os.length) : isTy (zV os) top (oM (oe os i)) (zlT (oe os i)) := by
  have hts := h.ts hi
  have hty := (h.2.2.2.2.1 i hi).2.2.2
  refine ⟨zlT_so (h.1.2 i hi).1, fun t => ?_⟩
  have hcut := h.cut hi
  constructor
  · intro ht
    obtain ⟨v, hv, rfl⟩ := List.mem_map.mp ht
    have hb := zlT_b _ ht
    have ev := nI_cl2 (zlk_0 hv)
    have hin : ∀ lo hi9, v ∈ zfl (oe os i) lo hi9 (oX (oe os i)) → v.toNatClampNeg = 46 ∨ v.toNatClampNeg = 47 ∨ (v.toNatClampNeg < 65536 ∧ zV os (oM (oe os i)) (nI v.toNatClampNeg) ≠ [] ∧ (vco (zV os) top (oM (oe os i)) = some (oM (oe os i)) → v.toNatClampNeg = 2 ∨ v.toNatClampNeg = 43)) := fun lo hi9 hz => by
      obtain ⟨s, hs, e, hc, -⟩ := zfl_in.mp hz
      obtain ⟨j, hj, rfl⟩ := oS_ix hs
      refine Or.inr (Or.inr ⟨hb, ?_, fun w => ?_⟩)
      · rw [ev]; exact (zV_ne h.1 hi).mpr ⟨j, hj, e⟩
      · rcases hc with hc | hc | hc
        · exact absurd (hcut.mpr w) hc
        · left; rw [hc]; rfl
        · right; rw [hc]; rfl
    unfold zlk at hv
    rcases List.mem_append.mp hv with hv | hv
    · rcases List.mem_append.mp hv with hv | hv
      · exact hin _ _ hv
      · rcases List.mem_cons.mp hv with rfl | hv
        · exact Or.inl rfl
        · rw [List.mem_singleton.mp hv]; exact Or.inr (Or.inl rfl)
    · exact hin _ _ hv
  · intro ht
    have hmem : ∀ v : Int32, v ∈ zlk (oe os i) → v.toNatClampNeg ∈ zlT (oe os i) := fun v hv => List.mem_map.mpr ⟨v, hv, rfl⟩
    rcases ht with rfl | rfl | ⟨h1, h2, h3⟩
    · exact hmem 46 (by unfold zlk; simp)
    · exact hmem 47 (by unfold zlk; simp)
    · have e : (nI t).toNatClampNeg = t := zi_n _ (by omega)
      rw [← e]
      refine hmem (nI t) ?_
      obtain ⟨j, hj, ej⟩ := (zV_ne h.1 hi).mp h2
      have q := hty _ (oS_mem hj)
      rw [ej] at q
      have hc : ¬ oC (oe os i) = some (oA (oe os i)) ∨ nI t = 2 ∨ nI t = 43 := by
        by_cases w : oC (oe os i) = some (oA (oe os i))
        · rcases h3 (hcut.mp w) with z | z
          · exact Or.inr (Or.inl (by rw [z]; rfl))
          · exact Or.inr (Or.inr (by rw [z]; rfl))
        · exact Or.inl w
      have ht1 : 1 ≤ t := (nI_leI (a := 1) (b := t) (by omega) (by omega)).mp q.1
      unfold zlk
      rcases (show t ≤ 45 ∨ t = 46 ∨ t = 47 ∨ 48 ≤ t by omega) with z | z | z | z
      · exact List.mem_append_left _ (List.mem_append_left _ (zfl_in.mpr ⟨_, oS_mem hj, ej, hc, q.1, (nI_leI (a := t) (b := 45) (by omega) (by omega)).mpr z⟩))
      · rw [z, show nI 46 = 46 from rfl]; simp
      · rw [z, show nI 47 = 47 from rfl]; simp
      · exact List.mem_append_right _ (zfl_in.mpr ⟨_, oS_mem hj, ej, hc, (nI_leI (a := 48) (b := t) (by omega) (by omega)).mpr z, q.2⟩)
end ZC2
