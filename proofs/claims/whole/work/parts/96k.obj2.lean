/-! THE OBJECT'S REST: another tape, and what is told of the last answering -/
section ZOB2
variable {E : zc_E} {G G2 : zg_G} {ro : zRo} {k : Nat → Nat} {rc ty se : Int32} {os : List zOt} {top : np_N} {d1 d2 d3 b b2 : Nat} {t1 t2 t3 : List zTt} {tp tp2 : List Int32}
/-- another tape: the others keep -/
theorem zOb.tape (h : zOb E G ro k rc ty se os top d1 d2 d3 t1 t2 t3 b tp) (hT : zTp E G2 (k 17) b2 tp2) (hb : b2 = b ∨ G b2 = none) (hx : zx (fun q => q = k 17 ∨ q = b) G G2) (hE0 : G (E.2.2.2 0) = none) (hE : G2 (E.2.2.2 0) = none) (hl : tp2.length ≤ 65536) : ∃ r2, zOb E G2 r2 k rc ty se os top d1 d2 d3 t1 t2 t3 b2 tp2 ∧ zfr ro zKc G r2 G2 := by
  obtain ⟨a1, a2, a3, a4, a5, a6, a7⟩ := h
  have hf : zfr ro zK13 G (zrn ro b2 (13, 1)) G2 := fun q e hq hk => by
    have n1 : q ≠ k 17 := fun z => hk (by rw [z, a5]; rfl)
    have n2 : q ≠ b := fun z => hk (by rw [z, a6]; rfl)
    have n3 : q ≠ b2 := fun z => hb.elim (fun w => n2 (z.trans w)) (fun w => by rw [z, w] at hq; cases hq)
    exact ⟨hx q e (fun z => z.elim n1 n2) hq, zrn_ne n3⟩
  have n7 : k 17 ≠ b2 := fun z => hb.elim (fun w => by rw [← z] at w; rw [← w, a5] at a6; cases a6) (fun w => by rw [← z, a4.1] at w; cases w)
  have p2 := hf _ _ a2 (by rw [a3]; unfold zK13; simp)
  exact ⟨zrn ro b2 (13, 1), ⟨a1.kp hf hE0 hE (by unfold zK13; simp) zK13_z zK13_b, p2.1, p2.2.trans a3, hT, (zrn_ne n7).trans a5, zrn_self _ _ _, hl⟩, hf.w zK13_c⟩
end ZOB2
/-- the section of that number, its row, and what is told of it -/
def wsq (y : Int32) (W : zW) : Option (List aV) := if y = 1 then some W.1 else if y = 2 then some W.2.1 else if y = 3 then some W.2.2 else none
def wrw (y z : Int32) (W : zW) (e : aV) : Prop := ∃ L j, wsq y W = some L ∧ z = nI j ∧ L[j]? = some e
def wtl (u : Int32) (e : aV) : Option Int32 := if u = 0 then some e.2.1 else if u = 1 then some e.2.2.1 else if u = 2 then some (nI (np_len e.1)) else if u = 3 then some (nI e.2.2.2.length) else none
def wsm (W : zW) : Prop := W.1.length < 2 ^ 30 ∧ W.2.1.length < 2 ^ 30 ∧ W.2.2.length < 2 ^ 30
theorem wsq_t {y : Int32} {t1 t2 t3 ts : List zTt} (h : zsq y t1 t2 t3 = some ts) : wsq y (zWt t1 t2 t3) = some (ts.map tV) := by
  unfold zsq at h; unfold wsq
  by_cases z1 : y = 1
  · rw [if_pos z1] at h ⊢; cases h; rfl
  · rw [if_neg z1] at h ⊢
    by_cases z2 : y = 2
    · rw [if_pos z2] at h ⊢; cases h; rfl
    · rw [if_neg z2] at h ⊢
      by_cases z3 : y = 3
      · rw [if_pos z3] at h ⊢; cases h; rfl
      · rw [if_neg z3] at h; cases h
theorem wsq_n {y : Int32} {t1 t2 t3 : List zTt} (h : zsq y t1 t2 t3 = none) : wsq y (zWt t1 t2 t3) = none := by
  unfold zsq at h; unfold wsq
  by_cases z1 : y = 1
  · rw [if_pos z1] at h; cases h
  · rw [if_neg z1] at h ⊢
    by_cases z2 : y = 2
    · rw [if_pos z2] at h; cases h
    · rw [if_neg z2] at h ⊢
      by_cases z3 : y = 3
      · rw [if_pos z3] at h; cases h
      · rw [if_neg z3]
theorem wsq_len {y : Int32} {W : zW} {L : List aV} (hW : wsm W) (h : wsq y W = some L) : L.length < 2 ^ 30 := by
  unfold wsq at h
  split at h
  · cases h; exact hW.1
  · split at h
    · cases h; exact hW.2.1
    · split at h
      · cases h; exact hW.2.2
      · cases h
theorem wrw_t {y z : Int32} {t1 t2 t3 ts : List zTt} {j : Nat} (h : zrw y z t1 t2 t3 ts j) : wrw y z (zWt t1 t2 t3) (tV (te ts j)) := by
  refine ⟨_, j, wsq_t h.1, h.2.2, ?_⟩
  rw [List.getElem?_map, List.getElem?_eq_getElem h.2.1]
  show some (tV (ts[j]'h.2.1)) = _
  unfold te
  rw [List.getD_eq_getElem?_getD, List.getElem?_eq_getElem h.2.1]; rfl
theorem wrw_n {y z : Int32} {t1 t2 t3 : List zTt} (hW : wsm (zWt t1 t2 t3)) (h : zrno y z t1 t2 t3) : ¬ ∃ e, wrw y z (zWt t1 t2 t3) e := fun ⟨e, L, j, h1, h2, h3⟩ => by
  rcases h with h | ⟨ts, h, h4⟩
  · rw [wsq_n h] at h1; cases h1
  · have hl := wsq_len hW h1
    rw [wsq_t h] at h1
    cases h1
    rw [List.length_map] at hl
    have hj : j < ts.length := by
      have q := (List.getElem?_eq_some_iff.mp h3).1
      rw [List.length_map] at q; exact q
    rcases h4 with h4 | h4
    · rw [h2, show (0 : Int32) = nI 0 from nI_0.symm] at h4
      exact absurd ((nI_ltI (a := j) (b := 0) (by omega) (by omega)).mp h4) (Nat.not_lt_zero _)
    · rw [h2] at h4
      exact absurd ((nI_ltI (a := j) (b := ts.length) (by omega) (by omega)).mpr hj) (Int32.not_lt.mpr h4)
theorem wrw_un {y z : Int32} {W : zW} {e e2 : aV} (hW : wsm W) (h : wrw y z W e) (h2 : wrw y z W e2) : e = e2 := by
  obtain ⟨L, j, a1, a2, a3⟩ := h
  obtain ⟨L2, j2, c1, c2, c3⟩ := h2
  have hl := wsq_len hW a1
  rw [a1] at c1; cases c1
  have q1 := (List.getElem?_eq_some_iff.mp a3).1
  have q2 := (List.getElem?_eq_some_iff.mp c3).1
  have e9 : j = j2 := (nI_eq (a := j) (b := j2) (by omega) (by omega)).mp (a2.symm.trans c2)
  rw [e9, c3] at a3
  exact (Option.some.inj a3).symm
theorem wtl_t {t : zTt} {u : Int32} {v : Option Value} (h : (u = 0 ∧ v = some (.int (tT t))) ∨ (u = 1 ∧ v = some (.int (tU t))) ∨ (u = 2 ∧ v = some (.int (nI (np_len (tM t))))) ∨ (u = 3 ∧ v = some (.int (nI (tB t).2.1.length)))) : ∃ r, wtl u (tV t) = some r ∧ v = some (.int r) := by
  rcases h with ⟨h1, h2⟩ | ⟨h1, h2⟩ | ⟨h1, h2⟩ | ⟨h1, h2⟩ <;> subst h1 <;> exact ⟨_, rfl, h2⟩
theorem wtl_n {u : Int32} {e : aV} (h0 : ¬ u = 0) (h1 : ¬ u = 1) (h2 : ¬ u = 2) (h3 : ¬ u = 3) : wtl u e = none := by
  unfold wtl; rw [if_neg h0, if_neg h1, if_neg h2, if_neg h3]
