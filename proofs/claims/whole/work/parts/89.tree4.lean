/-! changes of sets and data in the tree -/
/-- an owner's sets stand by rising type -/
def zss (o : zOt) : Prop := ∀ i j, i < j → j < (oX o).length → sT (oS o i) < sT (oS o j)
def sSetX (s : zSt) (d : Nat) (xs : List zDt) : zSt := (s.1, s.2.1, s.2.2.1, s.2.2.2.1, d, xs)
def sSetU (s : zSt) (u : Int32) : zSt := (s.1, s.2.1, u, s.2.2.2)
section ZT4
variable {E : zc_E} {G G2 : zg_G} {r r2 : zRo} {K : Nat × Nat → Prop} {la dd : Nat} {os : List zOt}
theorem zOR.sne {o : zOt} (h : zOR E G r o) (hs : zss o) {i j : Nat} (hi : i < (oX o).length) (hj : j < (oX o).length) (hij : i ≠ j) : sA (oS o i) ≠ sA (oS o j) := by
  intro e
  have h1 := (h.2.2.2.2 _ (oS_mem hi)).1
  have h2 := (h.2.2.2.2 _ (oS_mem hj)).1
  rw [e, h2] at h1
  have e3 : sT (oS o j) = sT (oS o i) := by simpa using congrArg (fun o : Option va_E => match o with | some (.inr (_, .int z :: _)) => z | _ => 0) h1
  rcases Nat.lt_or_gt_of_ne hij with z | z
  · have := hs i j z hj; rw [e3] at this; exact Int32.lt_irrefl this
  · have := hs j i z hi; rw [e3] at this; exact Int32.lt_irrefl this
theorem zOR.els {o : zOt} (h : zOR E G r o) : ∀ z ∈ (oX o).map sA, zel G z := by
  intro z hz
  obtain ⟨s, hs, rfl⟩ := List.mem_map.mp hz
  exact ⟨5, _, (h.2.2.2.2 s hs).1, Or.inr (Or.inr (Or.inl rfl))⟩
theorem zZR.els (h : zZR E G r la dd os) : ∀ z ∈ os.map oA, zel G z := by
  intro z hz
  obtain ⟨o, ho, rfl⟩ := List.mem_map.mp hz
  exact ⟨4, _, (h.2 o ho).1, Or.inr (Or.inl rfl)⟩
theorem zSR.els {o : Nat} {s : zSt} (h : zSR E G r o s) : ∀ z ∈ (sX s).map (·.1), zel G z := by
  intro z hz
  obtain ⟨d, hd, rfl⟩ := List.mem_map.mp hz
  obtain ⟨b, t, q, -⟩ := h.2.2.2 d hd
  exact ⟨2, _, q, Or.inl rfl⟩
theorem zZR.chX {i : Nat} {o' : zOt} (h : zZR E G r la dd os) (hso : zso os) (hi : i < os.length) (hk : zk r K G G2) (hr : zro G r r2) (hE : G2 (E.2.2.2 0) = none) (h0 : ¬ K (0, 0)) (h11 : ¬ K (11, 0)) (h2 : ¬ K (2, 0)) (h3 : ¬ K (3, 0)) (hK4 : ∀ a, a ≠ oA (oe os i) → ¬ K (4, a) ∧ ¬ K (5, a) ∧ ¬ K (12, a)) (hK6 : ∀ s a, zSR E G r a s → a ≠ oA (oe os i) → ¬ K (6, sA s) ∧ ¬ K (7, sA s)) (ho : zOR E G2 r2 o') (hA : oA o' = oA (oe os i)) : zZR E G2 r2 la dd (os.set i o') := by
  have hq : ∀ e, G2 (E.2.2.2 0) = some e → False := fun e he => by rw [hE] at he; cases he
  refine h.set hi hk hr hq h2 h3 (fun j hj hji => ?_) ho hA
  have hne := h.ne hso hj hi hji
  obtain ⟨k4, k5, k12⟩ := hK4 _ hne
  exact (h.2 _ (oe_mem hj)).go hk hr hq h0 h11 k4 k5 k12 (fun s hs => hK6 s _ ((h.2 _ (oe_mem hj)).2.2.2.2 s hs) hne)
/-- an owner's row of sets changed -/
theorem zZR.chS {i d2 : Nat} {ys : List zSt} (h : zZR E G r la dd os) (hso : zso os) (hi : i < os.length) (hx : zx (fun q => q = oL (oe os i) ∨ q = oD (oe os i)) G G2) (hr : zro G r r2) (hE : G2 (E.2.2.2 0) = none) (hL : zLR E G2 r2 (oL (oe os i)) d2 (ys.map sA) (4, oA (oe os i)) (5, oA (oe os i))) (hy : ∀ s ∈ ys, s ∈ oX (oe os i) ∨ zSR E G2 r2 (oA (oe os i)) s) : zZR E G2 r2 la dd (os.set i (oSetX (oe os i) d2 ys)) := by
  have ho := h.2 _ (oe_mem hi)
  have hk := ho.2.2.2.1.zk hx
  have hq : ∀ e, G2 (E.2.2.2 0) = some e → False := fun e he => by rw [hE] at he; cases he
  refine h.chX hso hi hk hr hE (by simp) (by simp) (by simp) (by simp) (fun a ha => ⟨by simpa using ha, by simpa using ha, by simp⟩) (fun s a _ _ => ⟨by simp, by simp⟩) ?_ rfl
  obtain ⟨a1, a2, a3, a4, a5⟩ := ho
  have a1' := hk _ _ a1 (by rw [a2]; simp)
  refine ⟨a1', by show r2 (oA (oe os i)) = _; rw [hr _ _ a1]; exact a2, a3.go hk hr (by simp), hL, fun s hs => ?_⟩
  rcases hy s hs with z | z
  · exact (a5 s z).go hk hr hq (by simp) (by simp) (by simp) (by simp)
  · exact z
theorem oS_set {o : zOt} {d si j : Nat} {s' : zSt} (hs : si < (oX o).length) : oS (oSetX o d ((oX o).set si s')) j = if j = si then s' else oS o j := by
  show ((oX o).set si s').getD j _ = _
  unfold oS
  rw [List.getD_eq_getElem?_getD, List.getElem?_set]
  by_cases z : j = si
  · subst z; rw [if_pos rfl, if_pos rfl, if_pos hs]; rfl
  · rw [if_neg (fun q => z q.symm), if_neg z, List.getD_eq_getElem?_getD]
theorem oS_ix {o : zOt} {s : zSt} (h : s ∈ oX o) : ∃ j, j < (oX o).length ∧ oS o j = s := by
  obtain ⟨j, hj, rfl⟩ := List.getElem_of_mem h
  exact ⟨j, hj, oS_at hj⟩
theorem sA_set {o : zOt} {si : Nat} {s' : zSt} (hs : si < (oX o).length) (e : sA s' = sA (oS o si)) : ((oX o).set si s').map sA = (oX o).map sA := by
  refine List.ext_getElem? (fun j => ?_)
  rw [List.getElem?_map, List.getElem?_map, List.getElem?_set]
  by_cases z : si = j
  · subst z; rw [if_pos rfl, if_pos hs, List.getElem?_eq_getElem hs, Option.map_some, Option.map_some, e, oS_at hs]
  · rw [if_neg z]
/-- a set's row of data changed -/
theorem zZR.chD {i si d2 : Nat} {xs : List zDt} (h : zZR E G r la dd os) (hso : zso os) (hi : i < os.length) (hss : zss (oe os i)) (hs : si < (oX (oe os i)).length) (hx : zx (fun q => q = sL (oS (oe os i) si) ∨ q = sD (oS (oe os i) si)) G G2) (hr : zro G r r2) (hE : G2 (E.2.2.2 0) = none) (hL : zLR E G2 r2 (sL (oS (oe os i) si)) d2 (xs.map (·.1)) (6, sA (oS (oe os i) si)) (7, sA (oS (oe os i) si))) (hy : ∀ d ∈ xs, d ∈ sX (oS (oe os i) si) ∨ zDR E G2 r2 d) : zZR E G2 r2 la dd (os.set i (oSetX (oe os i) (oD (oe os i)) ((oX (oe os i)).set si (sSetX (oS (oe os i) si) d2 xs)))) := by
  have ho := h.2 _ (oe_mem hi)
  have hS := ho.2.2.2.2 _ (oS_mem hs)
  have hk := hS.2.2.1.zk hx
  have hq : ∀ e, G2 (E.2.2.2 0) = some e → False := fun e he => by rw [hE] at he; cases he
  refine h.chX hso hi hk hr hE (by simp) (by simp) (by simp) (by simp) (fun a ha => ⟨by simp, by simp, by simp⟩) (fun s a hsa ha => ?_) ?_ rfl
  · have hne : sA s ≠ sA (oS (oe os i) si) := by
      intro z
      have e1 := hsa.2.1
      rw [z, hS.2.1] at e1
      exact ha (by simpa using e1.symm)
    exact ⟨by simpa using hne, by simpa using hne⟩
  · obtain ⟨a1, a2, a3, a4, a5⟩ := id ho
    have a1' := hk _ _ a1 (by rw [a2]; simp)
    refine ⟨a1', by show r2 (oA (oe os i)) = _; rw [hr _ _ a1]; exact a2, a3.go hk hr (by simp), ?_, fun s hm => ?_⟩
    · show zLR E G2 r2 (oL (oe os i)) (oD (oe os i)) (((oX (oe os i)).set si _).map sA) _ _
      rw [sA_set (s' := sSetX (oS (oe os i) si) d2 xs) hs rfl]
      exact a4.go hk hr hq (by simp) (by simp)
    · obtain ⟨j, hj, rfl⟩ := oS_ix (o := oSetX (oe os i) (oD (oe os i)) ((oX (oe os i)).set si (sSetX (oS (oe os i) si) d2 xs))) hm
      have hj : j < (oX (oe os i)).length := by
        have hj : j < ((oX (oe os i)).set si (sSetX (oS (oe os i) si) d2 xs)).length := hj
        rw [List.length_set] at hj; exact hj
      rw [oS_set hs]
      by_cases z : j = si
      · rw [if_pos z]
        have s1' := hk _ _ hS.1 (by rw [hS.2.1]; simp)
        refine ⟨s1', ?_, hL, fun d hd => ?_⟩
        · show r2 (sA (oS (oe os i) si)) = _
          rw [hr _ _ hS.1]; exact hS.2.1
        · rcases hy d hd with w | w
          · exact (hS.2.2.2 d w).go hk hr (by simp)
          · exact w
      · rw [if_neg z]
        have hne := ho.sne hss hj hs z
        exact (a5 _ (oS_mem hj)).go hk hr hq (by simp) (by simp) (by simpa using hne) (by simpa using hne)
/-- a set's time changed -/
theorem zZR.chU {i si : Nat} {u : Int32} (h : zZR E G r la dd os) (hso : zso os) (hi : i < os.length) (hss : zss (oe os i)) (hs : si < (oX (oe os i)).length) (hE : G (E.2.2.2 0) = none) : zZR E (zg_up G (sA (oS (oe os i) si)) (.inr (5, [.int (sT (oS (oe os i) si)), .int u, .ref (sL (oS (oe os i) si))]))) r la dd (os.set i (oSetX (oe os i) (oD (oe os i)) ((oX (oe os i)).set si (sSetU (oS (oe os i) si) u)))) := by
  have ho := h.2 _ (oe_mem hi)
  have hS := ho.2.2.2.2 _ (oS_mem hs)
  have hk : zk r (fun k => k = (12, oA (oe os i))) G (zg_up G (sA (oS (oe os i) si)) (.inr (5, [.int (sT (oS (oe os i) si)), .int u, .ref (sL (oS (oe os i) si))]))) := by
    refine zk.of (S := fun q => q = sA (oS (oe os i) si)) (zx.up rfl) ?_
    rintro q e rfl _
    exact hS.2.1
  have hE2 : zg_up G (sA (oS (oe os i) si)) (.inr (5, [.int (sT (oS (oe os i) si)), .int u, .ref (sL (oS (oe os i) si))])) (E.2.2.2 0) = none := by
    rw [zg_up_ne (fun z => by rw [z, hS.1] at hE; cases hE), hE]
  have hq : ∀ e, zg_up G (sA (oS (oe os i) si)) (.inr (5, [.int (sT (oS (oe os i) si)), .int u, .ref (sL (oS (oe os i) si))])) (E.2.2.2 0) = some e → False := fun e he => by rw [hE2] at he; cases he
  refine h.chX hso hi hk zro.rf hE2 (by simp) (by simp) (by simp) (by simp) (fun a ha => ⟨by simp, by simp, by simpa using ha⟩) (fun s a hsa ha => ⟨by simp, by simp⟩) ?_ rfl
  obtain ⟨a1, a2, a3, a4, a5⟩ := id ho
  have a1' := hk _ _ a1 (by rw [a2]; simp)
  refine ⟨a1', a2, a3.go hk zro.rf (by simp), ?_, fun s hm => ?_⟩
  · show zLR E _ r (oL (oe os i)) (oD (oe os i)) (((oX (oe os i)).set si _).map sA) _ _
    rw [sA_set (s' := sSetU (oS (oe os i) si) u) hs rfl]
    exact a4.go hk zro.rf hq (by simp) (by simp)
  · obtain ⟨j, hj, rfl⟩ := oS_ix (o := oSetX (oe os i) (oD (oe os i)) ((oX (oe os i)).set si (sSetU (oS (oe os i) si) u))) hm
    have hj : j < (oX (oe os i)).length := by
      have hj : j < ((oX (oe os i)).set si (sSetU (oS (oe os i) si) u)).length := hj
      rw [List.length_set] at hj; exact hj
    rw [oS_set hs]
    by_cases z : j = si
    · rw [if_pos z]
      exact ⟨zg_up_self _ _ _, hS.2.1, hS.2.2.1.go hk zro.rf hq (by simp) (by simp), fun d hd => (hS.2.2.2 d hd).go hk zro.rf (by simp)⟩
    · rw [if_neg z]
      obtain ⟨c1, c2, c3, c4⟩ := a5 _ (oS_mem hj)
      exact ⟨by rw [zg_up_ne (ho.sne hss hj hs z)]; exact c1, c2, c3.go hk zro.rf hq (by simp) (by simp), fun d hd => (c4 d hd).go hk zro.rf (by simp)⟩
/-- the row of owners changed -/
theorem zZR.chO {d2 : Nat} {os2 : List zOt} (h : zZR E G r la dd os) (hx : zx (fun q => q = la ∨ q = dd) G G2) (hr : zro G r r2) (hE : G2 (E.2.2.2 0) = none) (hL : zLR E G2 r2 la d2 (os2.map oA) (2, 0) (3, 0)) (hy : ∀ o ∈ os2, o ∈ os ∨ zOR E G2 r2 o) : zZR E G2 r2 la d2 os2 := by
  have hk := h.1.zk hx
  have hq : ∀ e, G2 (E.2.2.2 0) = some e → False := fun e he => by rw [hE] at he; cases he
  refine ⟨hL, fun o ho => ?_⟩
  rcases hy o ho with z | z
  · exact (h.2 o z).go hk hr hq (by simp) (by simp) (by simp) (by simp) (by simp) (fun s _ => ⟨by simp, by simp⟩)
  · exact z
end ZT4
theorem zro.tr2 {G : zg_G} {r r1 r2 : zRo} (h1 : zro G r r1) (h2 : zro G r1 r2) : zro G r r2 := fun q e hq => by rw [h2 q e hq, h1 q e hq]
/-- the roles of a zone's cells that may change -/
def zKz (k : Nat × Nat) : Prop := (1 ≤ k.1 ∧ k.1 ≤ 7) ∨ k.1 = 11 ∨ k.1 = 12
theorem zk.w {r : zRo} {K K2 : Nat × Nat → Prop} {G G2 : zg_G} (h : zk r K G G2) (hw : ∀ k, K k → K2 k) : zk r K2 G G2 := fun q e hq hn => h q e hq (fun z => hn (hw _ z))
theorem zk.tr {r r1 : zRo} {K : Nat × Nat → Prop} {G G1 G2 : zg_G} (h1 : zk r K G G1) (hr : zro G r r1) (h2 : zk r1 K G1 G2) : zk r K G G2 := fun q e hq hn => h2 q e (h1 q e hq hn) (by rw [hr q e hq]; exact hn)
/-! what a zone holds: for each name and type, its times and data, in order -/
abbrev aD : Type := List Int32 × Option np_N
def zgS (s : zSt) (t : Int32) : List (Int32 × aD) := if sT s = t then (sX s).map (fun d => (sU s, d.2)) else []
def zgO (o : zOt) (x : np_N) (t : Int32) : List (Int32 × aD) := if oM o = x then (oX o).flatMap (fun s => zgS s t) else []
def zgt (os : List zOt) (x : np_N) (t : Int32) : List (Int32 × aD) := os.flatMap (fun o => zgO o x t)
theorem zgt_app (a b : List zOt) (x : np_N) (t : Int32) : zgt (a ++ b) x t = zgt a x t ++ zgt b x t := List.flatMap_append
theorem zgt_cons (o : zOt) (b : List zOt) (x : np_N) (t : Int32) : zgt (o :: b) x t = zgO o x t ++ zgt b x t := rfl
