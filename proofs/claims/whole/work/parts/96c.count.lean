/-! THE COUNTS: each as the length of a row without doubles -/
def isCnt {α : Type} (P : α → Prop) (n : Nat) : Prop := ∃ L : List α, L.Nodup ∧ (∀ x, x ∈ L ↔ P x) ∧ L.length = n
theorem isCnt_un {α : Type} {P : α → Prop} {n k : Nat} (h : isCnt P n) (h2 : isCnt P k) : n = k := by
  obtain ⟨L, h3, h4, rfl⟩ := h
  obtain ⟨M, h5, h6, rfl⟩ := h2
  exact ((List.perm_ext_iff_of_nodup h3 h5).mpr (fun x => by rw [h4, h6])).length_eq
section ZCT
variable {os : List zOt} {top : np_N}
theorem zso_pw {os : List zOt} (h : zso os) : (os.map oM).Pairwise zl := by
  rw [List.pairwise_map, List.pairwise_iff_getElem]
  intro i j hi hj hij
  rw [← oe_at hi, ← oe_at hj]
  exact h i j hij hj
theorem pw_nd {L : List np_N} (h : L.Pairwise zl) : L.Nodup := h.imp (fun {a b} hab e => by rw [e] at hab; exact zl_ir _ hab)
theorem cnt_3 (h : zGZ os top) : isCnt (vD (zV os)) os.length := by
  refine ⟨os.map oM, pw_nd (zso_pw h.1.1), fun x => ?_, List.length_map _⟩
  rw [List.mem_map]
  constructor
  · rintro ⟨o, ho, rfl⟩
    obtain ⟨i, hi, rfl⟩ := oe_ix ho
    exact vD_of h.1 hi
  · intro hx
    obtain ⟨i, hi, e⟩ := vD_ix hx
    exact ⟨_, oe_mem hi, e⟩
theorem cnt_5 (h : zGZ os top) : isCnt (vch (zV os) top) (zcc os os.length) := by
  refine ⟨(os.filter (fun o => !zgb o)).map oM, ?_, fun x => ?_, ?_⟩
  · exact (pw_nd (zso_pw h.1.1)).sublist (List.filter_sublist.map _)
  · rw [List.mem_map]
    constructor
    · rintro ⟨o, ho, rfl⟩
      obtain ⟨h1, h2⟩ := List.mem_filter.mp ho
      obtain ⟨i, hi, rfl⟩ := oe_ix h1
      exact h.ch hi (Or.inr (by simpa using h2))
    · intro hx
      obtain ⟨i, hi, e, hn⟩ := h.ch2 hx
      exact ⟨_, List.mem_filter.mpr ⟨oe_mem hi, by simpa using hn⟩, e⟩
  · unfold zcc
    rw [List.length_map, List.take_length]
theorem zcu_eq (t : Int32) : ∀ n, zcu os t n = ((List.range n).filter (fun i => decide (0 < i ∧ (oX (oe os i)).any (fun s => decide (sT s = t)) = true))).length := by
  intro n
  induction n with
  | zero => rfl
  | succ n ih =>
    show zcu os t n + _ = _
    rw [ih, List.range_succ, List.filter_append, List.length_append]
    congr 1
    by_cases z : 0 < n ∧ (oX (oe os n)).any (fun s => decide (sT s = t)) = true
    · rw [if_pos z, List.filter_cons, if_pos (decide_eq_true z)]; rfl
    · rw [if_neg z, List.filter_cons, if_neg (by rw [decide_eq_false z]; decide)]; rfl
theorem cnt_6 (h : zGZ os top) : isCnt (fun x => x ≠ top ∧ zV os x 2 ≠ []) (zcu os 2 os.length) := by
  have hmem : ∀ i, i ∈ (List.range os.length).filter (fun i => decide (0 < i ∧ (oX (oe os i)).any (fun s => decide (sT s = 2)) = true)) ↔ i < os.length ∧ 0 < i ∧ zhT (oe os i) 2 := fun i => by
    rw [List.mem_filter, List.mem_range, decide_eq_true_eq, ← zhT_b]
  refine ⟨((List.range os.length).filter (fun i => decide (0 < i ∧ (oX (oe os i)).any (fun s => decide (sT s = 2)) = true))).map (fun i => oM (oe os i)), ?_, fun x => ?_, ?_⟩
  · unfold List.Nodup
    rw [List.pairwise_map]
    have hp : ((List.range os.length).filter (fun i => decide (0 < i ∧ (oX (oe os i)).any (fun s => decide (sT s = 2)) = true))).Pairwise (· < ·) := List.pairwise_lt_range.filter _
    refine hp.imp_of_mem (fun {a b} ha hb hab e => ?_)
    have h1 := (hmem a).mp ha
    have h2 := (hmem b).mp hb
    have := h.ix h1.1 h2.1 e
    omega
  · rw [List.mem_map]
    constructor
    · rintro ⟨i, hi, rfl⟩
      obtain ⟨h1, h2, h3⟩ := (hmem i).mp hi
      refine ⟨fun e => ?_, (zV_ne h.1 h1).mpr h3⟩
      rw [← h.2.2.2.1] at e
      have := h.ix h1 h.2.2.1 e
      omega
    · rintro ⟨h1, h2⟩
      obtain ⟨i, hi, rfl⟩ := vD_ix (os := os) ⟨2, h2⟩
      refine ⟨i, (hmem i).mpr ⟨hi, ?_, (zV_ne h.1 hi).mp h2⟩, rfl⟩
      rcases Nat.eq_zero_or_pos i with z | z
      · rw [z, h.2.2.2.1] at h1; exact absurd rfl h1
      · exact z
  · rw [List.length_map, zcu_eq]
theorem fm_len {α β : Type} (f : α → List β) (xs : List α) : (xs.flatMap f).length = (xs.map (fun x => (f x).length)).sum := by
  induction xs with
  | nil => rfl
  | cons a xs ih => rw [List.flatMap_cons, List.length_append, ih, List.map_cons, List.sum_cons]
theorem cnt_2 (h : zGZ os top) : isCnt (fun p : np_N × Int32 => zV os p.1 p.2 ≠ []) (zsc os os.length) := by
  refine ⟨os.flatMap (fun o => (oX o).map (fun s => (oM o, sT s))), ?_, fun p => ?_, ?_⟩
  · unfold List.Nodup
    rw [List.pairwise_flatMap]
    refine ⟨fun o ho => ?_, ?_⟩
    · obtain ⟨i, hi, rfl⟩ := oe_ix ho
      rw [List.pairwise_map]
      exact (zss_pw.mp (h.1.2 i hi).1).imp (fun {a b} hab e => by
        have e2 : sT a = sT b := (Prod.mk.inj e).2
        rw [e2] at hab; exact absurd hab Int32.lt_irrefl)
    · have hp := zso_pw h.1.1
      rw [List.pairwise_map] at hp
      refine hp.imp (fun {a b} hab x hx y hy e => ?_)
      obtain ⟨s, -, rfl⟩ := List.mem_map.mp hx
      obtain ⟨s2, -, rfl⟩ := List.mem_map.mp hy
      have e2 : oM a = oM b := (Prod.mk.inj e).1
      rw [e2] at hab; exact zl_ir _ hab
  · rw [List.mem_flatMap]
    constructor
    · rintro ⟨o, ho, hp⟩
      obtain ⟨i, hi, rfl⟩ := oe_ix ho
      obtain ⟨s, hs, rfl⟩ := List.mem_map.mp hp
      obtain ⟨j, hj, rfl⟩ := oS_ix hs
      exact (zV_ne h.1 hi).mpr ⟨j, hj, rfl⟩
    · intro hp
      have hp : zV os p.1 p.2 ≠ [] := hp
      obtain ⟨i, hi, e⟩ := vD_ix (os := os) ⟨p.2, hp⟩
      rw [← e] at hp
      obtain ⟨j, hj, e2⟩ := (zV_ne h.1 hi).mp hp
      exact ⟨_, oe_mem hi, List.mem_map.mpr ⟨_, oS_mem hj, by rw [e, e2]⟩⟩
  · rw [fm_len]
    unfold zsc
    rw [List.take_length]
    congr 1
    refine List.map_congr_left (fun o _ => ?_)
    rw [List.length_map]
/-- the names that owner i brings -/
def zbr (os : List zOt) (i : Nat) : List np_N := if i = 0 then [oM (oe os 0)] else (List.range ((oM (oe os i)).length - zshr (oM (oe os i)) (oM (oe os (i - 1))))).map (fun j => (oM (oe os i)).drop j)
theorem zth_eq : ∀ n, 0 < n → zth os n = ((List.range n).flatMap (zbr os)).length := by
  intro n
  induction n with
  | zero => intro h; omega
  | succ n ih =>
    intro _
    rw [List.range_succ, List.flatMap_append, List.length_append]
    rcases Nat.eq_zero_or_pos n with z | z
    · subst z; rfl
    · rw [zth_s z, ih z]
      congr 1
      show _ = (zbr os n ++ []).length
      rw [List.append_nil]
      unfold zbr
      rw [if_neg (by omega), List.length_map, List.length_range]
theorem zbr_mem (h : zGZ os top) {i : Nat} (hi : i < os.length) {s : np_N} : s ∈ zbr os i ↔ (s <:+ oM (oe os i) ∧ top <:+ s ∧ ∀ j, j < i → ¬ s <:+ oM (oe os j)) := by
  unfold zbr
  rcases Nat.eq_zero_or_pos i with z | z
  · subst z
    rw [if_pos rfl, List.mem_singleton, h.2.2.2.1]
    constructor
    · rintro rfl; exact ⟨List.suffix_refl _, List.suffix_refl _, fun j hj => absurd hj (Nat.not_lt_zero _)⟩
    · rintro ⟨h1, h2, -⟩; exact (h2.eq_of_length (Nat.le_antisymm h2.length_le h1.length_le)).symm
  · rw [if_neg (by omega), List.mem_map]
    have hsl := zshr_le (oM (oe os i)) (oM (oe os (i - 1)))
    have hp : i - 1 < os.length := by omega
    have htop : top.length ≤ zshr (oM (oe os i)) (oM (oe os (i - 1))) := zshr_ge (h.2.2.2.2.1 i hi).1 (h.2.2.2.2.1 (i - 1) hp).1
    constructor
    · rintro ⟨j, hj, rfl⟩
      rw [List.mem_range] at hj
      have hl : ((oM (oe os i)).drop j).length = (oM (oe os i)).length - j := List.length_drop
      refine ⟨List.drop_suffix _ _, suf_len (h.2.2.2.2.1 i hi).1 (List.drop_suffix _ _) (by rw [hl]; omega), fun q hq hs => ?_⟩
      have hs2 : (oM (oe os i)).drop j <:+ oM (oe os (i - 1)) := by
        have hqo : q < os.length := by omega
        refine zl_btw (x := oM (oe os i)) (zfn_suf (List.drop_suffix _ _) (h.fn hi)) (h.fn hp) (List.drop_suffix _ _) (fun w => ?_) (fun w => absurd ((h.lt hi hp).mp w) (by omega))
        have hsq : ¬ zl (oM (oe os q)) ((oM (oe os i)).drop j) := fun v => by
          by_cases e : (oM (oe os i)).drop j = oM (oe os q)
          · rw [e] at v; exact zl_ir _ v
          · exact zl_ay v (zl_suf hs e)
        rcases Nat.lt_or_ge q (i - 1) with v | v
        · exact hsq (zl_tr ((h.lt hqo hp).mpr v) w)
        · rw [show i - 1 = q by omega] at w; exact hsq w
      have := zshr_ge (List.drop_suffix j (oM (oe os i))) hs2
      rw [hl] at this; omega
    · rintro ⟨h1, h2, h3⟩
      refine ⟨(oM (oe os i)).length - s.length, ?_, ?_⟩
      · rw [List.mem_range]
        have hlen := h1.length_le
        rcases Nat.lt_or_ge (zshr (oM (oe os i)) (oM (oe os (i - 1)))) s.length with w | w
        · omega
        · refine absurd ?_ (h3 (i - 1) (by omega))
          have e := zshr_eq (oM (oe os i)) (oM (oe os (i - 1)))
          exact (suf_len h1 (List.drop_suffix ((oM (oe os i)).length - zshr (oM (oe os i)) (oM (oe os (i - 1)))) _) (by rw [List.length_drop]; omega)).trans (by rw [e]; exact List.drop_suffix _ _)
      · exact (List.suffix_iff_eq_drop.mp h1).symm
theorem cnt_4 (h : zGZ os top) : isCnt (fun x => top <:+ x ∧ vth (zV os) x) (zth os os.length) := by
  refine ⟨(List.range os.length).flatMap (zbr os), ?_, fun x => ?_, (zth_eq os.length h.2.2.1).symm⟩
  · unfold List.Nodup
    rw [List.pairwise_flatMap]
    refine ⟨fun i hi => ?_, ?_⟩
    · rw [List.mem_range] at hi
      unfold zbr
      split
      · exact List.pairwise_singleton _ _
      · rw [List.pairwise_map]
        have hsl := zshr_le (oM (oe os i)) (oM (oe os (i - 1)))
        refine (List.pairwise_lt_range (n := (oM (oe os i)).length - zshr (oM (oe os i)) (oM (oe os (i - 1))))).imp_of_mem (fun {a b} ha hb hab e => ?_)
        rw [List.mem_range] at ha hb
        have := congrArg List.length e
        rw [List.length_drop, List.length_drop] at this
        omega
    · refine List.pairwise_lt_range.imp_of_mem (fun {a b} ha hb hab x hx y hy e => ?_)
      rw [List.mem_range] at ha hb
      subst e
      exact ((zbr_mem h hb).mp hy).2.2 a hab ((zbr_mem h ha).mp hx).1
  · rw [List.mem_flatMap]
    constructor
    · rintro ⟨i, hi, hx⟩
      rw [List.mem_range] at hi
      have q := (zbr_mem h hi).mp hx
      exact ⟨q.2.1, _, vD_of h.1 hi, q.1⟩
    · rintro ⟨h1, y, hy, h2⟩
      obtain ⟨i, hi, rfl⟩ := vD_ix hy
      have hmin : ∀ n, ∀ i, i ≤ n → i < os.length → x <:+ oM (oe os i) → ∃ j, j < os.length ∧ x <:+ oM (oe os j) ∧ ∀ q, q < j → ¬ x <:+ oM (oe os q) := by
        intro n
        induction n with
        | zero => intro i h1 h2 h3; exact ⟨i, h2, h3, fun q hq => by omega⟩
        | succ n ih =>
          intro i h1 h2 h3
          by_cases z : ∃ q, q < i ∧ x <:+ oM (oe os q)
          · obtain ⟨q, q1, q2⟩ := z
            exact ih q (by omega) (by omega) q2
          · exact ⟨i, h2, h3, fun q hq w => z ⟨q, hq, w⟩⟩
      obtain ⟨j, j1, j2, j3⟩ := hmin i i (Nat.le_refl _) hi h2
      exact ⟨j, List.mem_range.mpr j1, (zbr_mem h j1).mpr ⟨j2, h1, j3⟩⟩
end ZCT
