/-! changes of the tree -/
def oSetC (o : zOt) (c : Option Nat) : zOt := (o.1, o.2.1, o.2.2.1, c, o.2.2.2.2)
def oSetX (o : zOt) (d : Nat) (xs : List zSt) : zOt := (o.1, o.2.1, o.2.2.1, o.2.2.2.1, o.2.2.2.2.1, d, xs)
section ZT3
variable {E : zc_E} {G G2 : zg_G} {r r2 : zRo} {K : Nat × Nat → Prop} {la dd : Nat} {os : List zOt}
theorem zNR.un {q : Nat} {x y : np_N} (h : zNR E G r q x) (h2 : zNR E G r q y) : x = y := by
  obtain ⟨b, f, a1, a2, a3, a4, a5, -, -⟩ := h
  obtain ⟨b', f', c1, c2, c3, c4, c5, -, -⟩ := h2
  rw [a1] at c1
  have e1 : b = b' := by simpa using congrArg (fun o : Option va_E => match o with | some (.inr (_, .ref z :: _)) => z | _ => 0) c1
  subst e1
  rw [a2] at c2
  have e2 : f = f' := by simpa using congrArg (fun o : Option va_E => match o with | some (.inl (_, _, .inl g)) => g | _ => fun _ => 0) c2
  subst e2
  exact np_f_un a4.1 c4.1 a3 c3
theorem zZR.ne (h : zZR E G r la dd os) (hso : zso os) {i j : Nat} (hi : i < os.length) (hj : j < os.length) (hij : i ≠ j) : oA (oe os i) ≠ oA (oe os j) := by
  intro e
  have h1 := h.2 _ (oe_mem hi)
  have h2 := h.2 _ (oe_mem hj)
  have e1 := h1.1
  have e2 := h2.1
  rw [e, e2] at e1
  have e3 : oN (oe os j) = oN (oe os i) := by simpa using congrArg (fun o : Option va_E => match o with | some (.inr (_, .ref z :: _)) => z | _ => 0) e1
  have h3 := h2.2.2.1
  rw [e3] at h3
  have e4 := zNR.un h1.2.2.1 h3
  rcases Nat.lt_or_gt_of_ne hij with z | z
  · have := hso i j z hj; rw [e4, nk_d_self] at this; omega
  · have := hso j i z hi; rw [e4, nk_d_self] at this; omega
theorem zOR.go2 {o : zOt} (h : zOR E G r o) (hk : zk r K G G2) (hr : zro G r r2) (hq : ∀ e, G2 (E.2.2.2 0) = some e → False) (h0 : ¬ K (0, 0)) (hc : ∀ e, G (oA o) = some e → G2 (oA o) = some e) (h2 : ¬ K (4, oA o)) (h3 : ¬ K (5, oA o)) (h4 : ¬ K (12, oA o)) (h5 : ∀ s ∈ oX o, ¬ K (6, sA s) ∧ ¬ K (7, sA s)) : zOR E G2 r2 o := by
  obtain ⟨a1, a2, a3, a4, a5⟩ := h
  exact ⟨hc _ a1, by rw [hr _ _ a1]; exact a2, a3.go hk hr h0, a4.go hk hr hq h2 h3, fun s hs => (a5 s hs).go hk hr hq h0 h4 (h5 s hs).1 (h5 s hs).2⟩
theorem oe_set {i : Nat} {o : zOt} {j : Nat} (hi : i < os.length) : oe (os.set i o) j = if j = i then o else oe os j := by
  unfold oe
  rw [List.getD_eq_getElem?_getD, List.getElem?_set]
  by_cases z : j = i
  · subst z; rw [if_pos rfl, if_pos rfl, if_pos hi]; rfl
  · rw [if_neg (fun q => z q.symm), if_neg z, List.getD_eq_getElem?_getD]
theorem oe_ix {o : zOt} (h : o ∈ os) : ∃ j, j < os.length ∧ oe os j = o := by
  obtain ⟨j, hj, rfl⟩ := List.getElem_of_mem h
  exact ⟨j, hj, oe_at hj⟩
/-- one owner changed -/
theorem zZR.set {i : Nat} {o' : zOt} (h : zZR E G r la dd os) (hi : i < os.length) (hk : zk r K G G2) (hr : zro G r r2) (hq : ∀ e, G2 (E.2.2.2 0) = some e → False) (h2 : ¬ K (2, 0)) (h3 : ¬ K (3, 0)) (hoth : ∀ j, j < os.length → j ≠ i → zOR E G2 r2 (oe os j)) (ho : zOR E G2 r2 o') (hA : oA o' = oA (oe os i)) : zZR E G2 r2 la dd (os.set i o') := by
  have e : (os.set i o').map oA = os.map oA := by
    refine List.ext_getElem? (fun j => ?_)
    rw [List.getElem?_map, List.getElem?_map, List.getElem?_set]
    by_cases z : i = j
    · subst z; rw [if_pos rfl, if_pos hi, List.getElem?_eq_getElem hi, Option.map_some, Option.map_some, hA, oe_at hi]
    · rw [if_neg z]
  refine ⟨by rw [e]; exact h.1.go hk hr hq h2 h3, fun o9 hm => ?_⟩
  obtain ⟨j, hj, rfl⟩ := oe_ix hm
  rw [List.length_set] at hj
  rw [oe_set hi]
  by_cases z : j = i
  · rw [if_pos z]; exact ho
  · rw [if_neg z]; exact hoth j hj z
theorem zZR.cut {i : Nat} (h : zZR E G r la dd os) (hso : zso os) (hE : G (E.2.2.2 0) = none) (hi : i < os.length) (c : Option Nat) : zZR E (zg_up G (oA (oe os i)) (.inr (4, [.ref (oN (oe os i)), .ref (oL (oe os i)), va_rf c]))) r la dd (os.set i (oSetC (oe os i) c)) := by
  have ho := h.2 _ (oe_mem hi)
  have hk : zk r (fun k => k = (11, 0)) G (zg_up G (oA (oe os i)) (.inr (4, [.ref (oN (oe os i)), .ref (oL (oe os i)), va_rf c]))) := by
    refine zk.of (S := fun q => q = oA (oe os i)) (zx.up rfl) ?_
    rintro q e rfl _
    exact ho.2.1
  have hq : ∀ e, zg_up G (oA (oe os i)) (.inr (4, [.ref (oN (oe os i)), .ref (oL (oe os i)), va_rf c])) (E.2.2.2 0) = some e → False := by
    intro e he
    rw [zg_up_ne (fun z => by rw [z, ho.1] at hE; cases hE), hE] at he
    cases he
  have hs : ∀ o : zOt, ∀ s ∈ oX o, ¬ ((6, sA s) = ((11, 0) : Nat × Nat)) ∧ ¬ ((7, sA s) = ((11, 0) : Nat × Nat)) := fun o s _ => ⟨by simp, by simp⟩
  refine h.set hi hk zro.rf hq (by simp) (by simp) (fun j hj hji => ?_) ?_ rfl
  · exact (h.2 _ (oe_mem hj)).go2 hk zro.rf hq (by simp) (fun e he => by rw [zg_up_ne (h.ne hso hj hi hji)]; exact he) (by simp) (by simp) (by simp) (hs _)
  · obtain ⟨a1, a2, a3, a4, a5⟩ := ho
    exact ⟨zg_up_self _ _ _, a2, a3.go hk zro.rf (by simp), a4.go hk zro.rf hq (by simp) (by simp), fun s hs => (a5 s hs).go hk zro.rf hq (by simp) (by simp) (by simp) (by simp)⟩
end ZT3
/-! the cuts, as one way through the owners marks them -/
def zcw (os : List zOt) (i : Nat) : Option Nat := if (oX (oe os i)).any (fun s => decide (sT s = 2)) = true then some i else none
def zcs (os : List zOt) : Nat → Option Nat
  | 0 => none
  | i + 1 => if i = 0 then none else match zcs os i with
    | some k => if oM (oe os k) <:+ oM (oe os i) then some k else zcw os i
    | none => zcw os i
def zca (os : List zOt) (i : Nat) : Option Nat := (zcs os i).map (fun k => oA (oe os k))
theorem zcw_lt {os : List zOt} {i k : Nat} (h : zcw os i = some k) : k = i := by
  unfold zcw at h
  split at h
  · cases h; rfl
  · cases h
theorem zcs_lt {os : List zOt} : ∀ {i k : Nat}, zcs os i = some k → k < i := by
  intro i
  induction i with
  | zero => intro k h; cases h
  | succ i ih =>
    intro k h
    unfold zcs at h
    split at h
    · cases h
    · split at h
      · rename_i k' hk'
        split at h
        · cases h; have := ih hk'; omega
        · have := zcw_lt h; omega
      · have := zcw_lt h; omega
theorem zcs_1 {os : List zOt} : zcs os 1 = none := rfl
theorem zcs_keep {os : List zOt} {i k : Nat} (h0 : 0 < i) (h : zcs os i = some k) (hs : oM (oe os k) <:+ oM (oe os i)) : zcs os (i + 1) = some k := by
  show (if i = 0 then none else _) = _
  rw [if_neg (by omega), h]
  exact if_pos hs
theorem zcs_w {os : List zOt} {i : Nat} (h0 : 0 < i) (h : ∀ k, zcs os i = some k → ¬ oM (oe os k) <:+ oM (oe os i)) : zcs os (i + 1) = zcw os i := by
  show (if i = 0 then none else _) = _
  rw [if_neg (by omega)]
  cases e : zcs os i with
  | none => rfl
  | some k => exact if_neg (h k e)
theorem zcw_y {os : List zOt} {i : Nat} (h : zhT (oe os i) 2) : zcw os i = some i := if_pos (zhT_b.mp h)
theorem zcw_n {os : List zOt} {i : Nat} (h : ¬ zhT (oe os i) 2) : zcw os i = none := if_neg (fun q => h (zhT_b.mpr q))
def zmi (os : List zOt) (i : Nat) : List zOt := os.mapIdx (fun j o => if 0 < j ∧ j < i then oSetC o (zca os (j + 1)) else o)
theorem zmi_len (os : List zOt) (i : Nat) : (zmi os i).length = os.length := List.length_mapIdx
theorem zmi_e (os : List zOt) (i j : Nat) (h : j < os.length) : oe (zmi os i) j = if 0 < j ∧ j < i then oSetC (oe os j) (zca os (j + 1)) else oe os j := by
  rw [oe_at (by rw [zmi_len]; exact h)]
  unfold zmi
  rw [List.getElem_mapIdx, oe_at h]
theorem zmi_o {os : List zOt} {i j : Nat} (h : j < os.length) : oA (oe (zmi os i) j) = oA (oe os j) ∧ oN (oe (zmi os i) j) = oN (oe os j) ∧ oM (oe (zmi os i) j) = oM (oe os j) ∧ oL (oe (zmi os i) j) = oL (oe os j) ∧ oD (oe (zmi os i) j) = oD (oe os j) ∧ oX (oe (zmi os i) j) = oX (oe os j) := by
  rw [zmi_e os i j h]
  by_cases z : 0 < j ∧ j < i
  · rw [if_pos z]; exact ⟨rfl, rfl, rfl, rfl, rfl, rfl⟩
  · rw [if_neg z]; exact ⟨rfl, rfl, rfl, rfl, rfl, rfl⟩
theorem zmi_1 (os : List zOt) : zmi os 1 = os := by
  unfold zmi
  refine List.ext_getElem (by rw [List.length_mapIdx]) (fun j h1 h2 => ?_)
  rw [List.getElem_mapIdx, if_neg (by omega)]
theorem zmi_s {os : List zOt} {i : Nat} (h0 : 0 < i) (h : i < os.length) : zmi os (i + 1) = (zmi os i).set i (oSetC (oe (zmi os i) i) (zca os (i + 1))) := by
  refine List.ext_getElem (by rw [List.length_set, zmi_len, zmi_len]) (fun j h1 h2 => ?_)
  rw [zmi_len] at h1
  rw [List.getElem_set, ← oe_at (os := zmi os (i + 1)) (by rw [zmi_len]; exact h1), zmi_e os _ _ h1]
  by_cases z : i = j
  · subst z
    rw [if_pos rfl, if_pos ⟨h0, by omega⟩, zmi_e os i i h, if_neg (by omega)]
  · rw [if_neg z, ← oe_at (os := zmi os i) (by rw [zmi_len]; exact h1), zmi_e os i j h1]
    by_cases w : 0 < j ∧ j < i
    · rw [if_pos w, if_pos (by omega)]
    · rw [if_neg w, if_neg (by omega)]
theorem zmi_so {os : List zOt} {i : Nat} (h : zso os) : zso (zmi os i) := by
  intro a b hab hb
  rw [zmi_len] at hb
  rw [(zmi_o hb).2.2.1, (zmi_o (show a < os.length by omega)).2.2.1]
  exact h a b hab hb
/-- the owners with their cuts -/
def zmc (os : List zOt) : List zOt := zmi os os.length
