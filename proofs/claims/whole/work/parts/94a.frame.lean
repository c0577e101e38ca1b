/-! FRAMES: what a frame by roles keeps -/
section ZFR
variable {E : zc_E} {G G2 : zg_G} {r r2 : zRo} {K : Nat × Nat → Prop}
theorem zBy.fr {b : Nat} {bs : List Int32} (h : zBy E G b bs) (hb : r b = (0, 0)) (hf : zfr r K G r2 G2) (h0 : ¬ K (0, 0)) : zBy E G2 b bs ∧ r2 b = (0, 0) := by
  obtain ⟨f, h1, h2⟩ := h
  have q := hf b _ h1 (by rw [hb]; exact h0)
  exact ⟨⟨f, q.1, h2⟩, q.2.trans hb⟩
theorem zNR.fr {q : Nat} {ls : np_N} (h : zNR E G r q ls) (hf : zfr r K G r2 G2) (h0 : ¬ K (0, 0)) : zNR E G2 r2 q ls := by
  obtain ⟨b, f, h1, h2, h3, h4, h5, h6, h7⟩ := h
  have q1 := hf _ _ h1 (by rw [h6]; exact h0)
  have q2 := hf _ _ h2 (by rw [h7]; exact h0)
  exact ⟨b, f, q1.1, q2.1, h3, h4, h5, q1.2.trans h6, q2.2.trans h7⟩
theorem zDR.fr {d : zDt} (h : zDR E G r d) (hf : zfr r K G r2 G2) (h0 : ¬ K (0, 0)) : zDR E G2 r2 d := by
  obtain ⟨b, t, h1, h2, h3, h4, h5⟩ := h
  have q1 := hf _ _ h1 (by rw [h3]; exact h0)
  have q2 := h2.fr h4 hf h0
  refine ⟨b, t, q1.1, q2.1, q1.2.trans h3, q2.2, ?_⟩
  rcases h5 with h5 | ⟨y, ls, e1, e2, h6⟩
  · exact Or.inl h5
  · exact Or.inr ⟨y, ls, e1, e2, h6.fr hf h0⟩
theorem zLR.fr {a dd : Nat} {xs : List Nat} {k1 k2 : Nat × Nat} (h : zLR E G r a dd xs k1 k2) (hf : zfr r K G r2 G2) (hE : G2 (E.2.2.2 0) = none) (h1 : ¬ K k1) (h2 : ¬ K k2) : zLR E G2 r2 a dd xs k1 k2 := by
  obtain ⟨⟨⟨k, ha⟩, hd⟩, hra, hrd⟩ := h
  have q1 := hf _ _ ha (by rw [hra]; exact h1)
  refine ⟨⟨⟨k, q1.1⟩, ?_⟩, q1.2.trans hra, ?_⟩
  · rcases hd with hd | ⟨cap, f, h3, h4⟩
    · exact Or.inl hd
    · exact Or.inr ⟨cap, f, (hf _ _ h3 (by rw [hrd _ h3]; exact h2)).1, h4⟩
  · intro e he
    rcases hd with ⟨hd, -⟩ | ⟨cap, f, h3, h4⟩
    · rw [hd, hE] at he; cases he
    · rw [(hf _ _ h3 (by rw [hrd _ h3]; exact h2)).2]; exact hrd _ h3
theorem zLR.frc {a dd : Nat} {xs : List Nat} {k1 k2 : Nat × Nat} (h : zLR E G r a dd xs k1 k2) (hf : zfr r K G r2 G2) (hE0 : G (E.2.2.2 0) = none) (hE : G2 (E.2.2.2 0) = none) (h2 : ¬ K k2) : zcG G2 dd = zcG G dd := by
  obtain ⟨⟨⟨k, ha⟩, hd⟩, hra, hrd⟩ := h
  rcases hd with ⟨hd, -⟩ | ⟨cap, f, h3, h4⟩
  · rw [hd, zcG_no hE, zcG_no hE0]
  · exact zcG_eq (((hf _ _ h3 (by rw [hrd _ h3]; exact h2)).1).trans h3.symm)
theorem zSR.fr {o : Nat} {s : zSt} (h : zSR E G r o s) (hf : zfr r K G r2 G2) (hE : G2 (E.2.2.2 0) = none) (h0 : ¬ K (0, 0)) (hz : ∀ k, zKz k → ¬ K k) : zSR E G2 r2 o s := by
  obtain ⟨a1, a2, a3, a4⟩ := h
  have q := hf _ _ a1 (by rw [a2]; exact hz _ (Or.inr (Or.inr rfl)))
  exact ⟨q.1, q.2.trans a2, a3.fr hf hE (hz _ (zKz_n (by decide) (by decide))) (hz _ (zKz_n (by decide) (by decide))), fun d hd => (a4 d hd).fr hf h0⟩
theorem zOR.fr {o : zOt} (h : zOR E G r o) (hf : zfr r K G r2 G2) (hE : G2 (E.2.2.2 0) = none) (h0 : ¬ K (0, 0)) (hz : ∀ k, zKz k → ¬ K k) : zOR E G2 r2 o := by
  obtain ⟨a1, a2, a3, a4, a5⟩ := h
  have q := hf _ _ a1 (by rw [a2]; exact hz _ (Or.inr (Or.inl rfl)))
  exact ⟨q.1, q.2.trans a2, a3.fr hf h0, a4.fr hf hE (hz _ (zKz_n (by decide) (by decide))) (hz _ (zKz_n (by decide) (by decide))), fun s hs => (a5 s hs).fr hf hE h0 hz⟩
theorem zZR.fr {la dd : Nat} {os : List zOt} (h : zZR E G r la dd os) (hf : zfr r K G r2 G2) (hE : G2 (E.2.2.2 0) = none) (h0 : ¬ K (0, 0)) (hz : ∀ k, zKz k → ¬ K k) : zZR E G2 r2 la dd os := ⟨h.1.fr hf hE (hz _ (zKz_n (by decide) (by decide))) (hz _ (zKz_n (by decide) (by decide))), fun o ho => (h.2 o ho).fr hf hE h0 hz⟩
theorem zTR.fr {t : zTt} (h : zTR E G r t) (hf : zfr r K G r2 G2) (h0 : ¬ K (0, 0)) : zTR E G2 r2 t := by
  obtain ⟨a1, a2, a3, a4⟩ := h
  have q := hf _ _ a1 (by rw [a4]; exact h0)
  exact ⟨q.1, a2.fr hf h0, a3.fr hf h0, q.2.trans a4⟩
end ZFR
/-- a section whose row was of size c when the asking began -/
def zES (E : zc_E) (G : zg_G) (r : zRo) (sa la dd : Nat) (ts : List zTt) (i c : Nat) : Prop := zER E G r sa la dd ts i ∧ r sa = (0, 0) ∧ zcG G dd = zcp c ts.length
def zKs (i : Nat) (k : Nat × Nat) : Prop := k = (8, i) ∨ k = (9, i)
theorem zKs_0 {i : Nat} : ¬ zKs i (0, 0) := by rintro (h | h) <;> simp at h
theorem zKs_z {i : Nat} (k : Nat × Nat) (h : zKz k) : ¬ zKs i k := by
  rintro (e | e) <;> subst e <;> rcases h with h | h | h
  · have := h.2; simp at this
  · simp at h
  · simp at h
  · have := h.2; simp at this
  · simp at h
  · simp at h
theorem zKs_ne {i j : Nat} (h : i ≠ j) : ¬ zKs i (8, j) ∧ ¬ zKs i (9, j) := by
  constructor <;> rintro (e | e) <;> simp at e <;> exact h e.symm
/-- a told record, without its addresses -/
abbrev aW : Type := np_N × Int32 × Int32 × aD
def tR (t : zTt) : aW := (tM t, tT t, tU t, (tB t).2)
section ZFS
variable {E : zc_E} {G G2 G3 G4 : zg_G} {r r2 ro : zRo} {K : Nat × Nat → Prop} {sa la dd dd2 ix c0 q a1 : Nat} {ts : List zTt} {ls1 : np_N} {T U : Int32} {d9 : zDt}
theorem zES.fr (h : zES E G r sa la dd ts ix c0) (hf : zfr r K G r2 G2) (hE0 : G (E.2.2.2 0) = none) (hE : G2 (E.2.2.2 0) = none) (h0 : ¬ K (0, 0)) (h8 : ¬ K (8, ix)) (h9 : ¬ K (9, ix)) : zES E G2 r2 sa la dd ts ix c0 := by
  obtain ⟨⟨a1, a2, a3⟩, a4, a5⟩ := h
  have q := hf _ _ a1 (by rw [a4]; exact h0)
  exact ⟨⟨q.1, a2.fr hf hE h8 h9, fun t ht => (a3 t ht).fr hf h0⟩, q.2.trans a4, by rw [a2.frc hf hE0 hE h9]; exact a5⟩
theorem zfr.z {r : zRo} {K : Nat × Nat → Prop} (h : zx z0 G G2) (hr : zro G r r2) : zfr r K G r2 G2 := fun q e hq _ => ⟨h.o hq, hr q e hq⟩
theorem zfr.w {K2 : Nat × Nat → Prop} (h : zfr r K G r2 G2) (hw : ∀ k, K k → K2 k) : zfr r K2 G r2 G2 := fun q e hq hn => h q e hq (fun z => hn (hw _ z))
theorem zER.els (h : zER E G r sa la dd ts ix) : ∀ z ∈ ts.map tA, zel G z := by
  intro z hz
  obtain ⟨t, ht, rfl⟩ := List.mem_map.mp hz
  exact ⟨8, _, (h.2.2 t ht).1, by simp⟩
/-- one more told record -/
theorem zES.add (h : zES E G ro sa la dd ts ix c0) (hx : zx z0 G G3) (nq : G q = none) (hq : G3 q = some (.inr (8, [.ref a1, .int T, .int U, .ref d9.1]))) (hE : G (E.2.2.2 0) = none) (hE3 : G3 (E.2.2.2 0) = none) (hE4 : G4 (E.2.2.2 0) = none) (hN : zNR E G ro a1 ls1) (hD : zDR E G ro d9) (hd : dd2 = dd ∨ G3 dd2 = none) (hx4 : zx (fun z => z = la ∨ z = dd) G3 G4) (hL : zL E G4 la dd2 (ts.map tA ++ [q])) (hc : zcG G4 dd2 = if (ts.map tA).length < zcG G3 dd then zcG G3 dd else zgr (zcG G3 dd)) : ∃ ro2, zES E G4 ro2 sa la dd2 (ts ++ [(q, a1, ls1, T, U, d9)]) ix c0 ∧ zfr ro (zKs ix) G ro2 G4 := by
  have f1 : zfr ro (fun _ => False) G (zrn ro q (0, 0)) G3 := zfr.z hx (zro.nw nq)
  have h1 := h.fr f1 hE hE3 id id id
  have hr1 : zrn ro q (0, 0) q = (0, 0) := zrn_self _ _ _
  have r2 := h1.1.2.1.ro hd
  have k2 := h1.1.2.1.zk hx4
  have f2 : zfr (zrn ro q (0, 0)) (zKs ix) G3 (zrn (zrn ro q (0, 0)) dd2 (9, ix)) G4 := zfr.of k2 r2 (fun k z => z)
  have hsa := f2 _ _ h1.1.1 (by rw [h1.2.1]; exact zKs_0)
  have hq4 := f2 _ _ hq (by rw [hr1]; exact zKs_0)
  refine ⟨_, ⟨⟨hsa.1, ?_, fun t ht => ?_⟩, hsa.2.trans h1.2.1, ?_⟩, (f1.w (fun _ z => z.elim)).tr f2⟩
  · rw [List.map_append]
    exact h1.1.2.1.mk hE3 hL
  · rcases List.mem_append.mp ht with z | z
    · exact (h1.1.2.2 t z).fr f2 zKs_0
    · rw [List.mem_singleton.mp z]
      exact ⟨hq4.1, ((hN.fr f1 id).fr f2 zKs_0), ((hD.fr f1 id).fr f2 zKs_0), hq4.2.trans hr1⟩
  · rw [hc, h1.2.2, List.length_map, List.length_append]
    exact (zcp_s c0 ts.length).symm
end ZFS
