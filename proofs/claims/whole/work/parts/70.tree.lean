/-! THE ZONE AS A TREE: owners, their sets, their data; each cell has a role, and what a call may change is told by roles -/
abbrev zRo : Type := Nat → Nat × Nat
abbrev zDt : Type := Nat × List Int32 × Option np_N
abbrev zSt : Type := Nat × Int32 × Int32 × Nat × Nat × List zDt
abbrev zOt : Type := Nat × Nat × np_N × Option Nat × Nat × Nat × List zSt
def sA (s : zSt) : Nat := s.1
def sT (s : zSt) : Int32 := s.2.1
def sU (s : zSt) : Int32 := s.2.2.1
def sL (s : zSt) : Nat := s.2.2.2.1
def sD (s : zSt) : Nat := s.2.2.2.2.1
def sX (s : zSt) : List zDt := s.2.2.2.2.2
def oA (o : zOt) : Nat := o.1
def oN (o : zOt) : Nat := o.2.1
def oM (o : zOt) : np_N := o.2.2.1
def oC (o : zOt) : Option Nat := o.2.2.2.1
def oL (o : zOt) : Nat := o.2.2.2.2.1
def oD (o : zOt) : Nat := o.2.2.2.2.2.1
def oX (o : zOt) : List zSt := o.2.2.2.2.2.2
/-- what lies outside the roles K is kept -/
def zk (r : zRo) (K : Nat × Nat → Prop) (G G2 : zg_G) : Prop := ∀ q e, G q = some e → ¬ K (r q) → G2 q = some e
/-- the roles of what was there are as they were -/
def zro (G : zg_G) (r r2 : zRo) : Prop := ∀ q e, G q = some e → r2 q = r q
theorem zro.rf {G : zg_G} {r : zRo} : zro G r r := fun _ _ _ => rfl
theorem zk.of {r : zRo} {K : Nat × Nat → Prop} {S : Nat → Prop} {G G2 : zg_G} (h : zx S G G2) (hS : ∀ q e, S q → G q = some e → K (r q)) : zk r K G G2 := fun q e hq hK => h q e (fun z => hK (hS q e z hq)) hq
theorem zk.z {r : zRo} {K : Nat × Nat → Prop} {G G2 : zg_G} (h : zx z0 G G2) : zk r K G G2 := fun _ _ hq _ => h.o hq
/-- a new cell's role -/
def zrn (r : zRo) (a : Nat) (k : Nat × Nat) : zRo := fun q => if q = a then k else r q
theorem zrn_self (r : zRo) (a : Nat) (k : Nat × Nat) : zrn r a k a = k := if_pos rfl
theorem zrn_ne {r : zRo} {a q : Nat} {k : Nat × Nat} (h : q ≠ a) : zrn r a k q = r q := if_neg h
theorem zro.nw {G : zg_G} {r : zRo} {a : Nat} {k : Nat × Nat} (h : G a = none) : zro G r (zrn r a k) := fun _ _ hq => zrn_ne (zg_fr h hq)
theorem zro.nw2 {G : zg_G} {r : zRo} {a : Nat} {k : Nat × Nat} (h : G a = none ∨ r a = k) : zro G r (zrn r a k) := by
  intro q e hq
  by_cases z : q = a
  · rcases h with h | h
    · rw [z, h] at hq; cases hq
    · rw [z, zrn_self, h]
  · exact zrn_ne z
theorem zro.tr {G G1 : zg_G} {r r1 r2 : zRo} {K : Nat × Nat → Prop} (h1 : zro G r r1) (hk : ∀ q e, G q = some e → ∃ e1, G1 q = some e1) (h2 : zro G1 r1 r2) : zro G r r2 := by
  intro q e hq
  obtain ⟨e1, h⟩ := hk q e hq
  rw [h2 q e1 h, h1 q e hq]
def zBy (E : zc_E) (G : zg_G) (b : Nat) (bs : List Int32) : Prop := ∃ f, G b = some (.inl (E.2.1 0, bs.length, .inl f)) ∧ (∀ j, j < bs.length → f j = bs.getD j 0) ∧ sb_Fit f
/-- a Name, never changed -/
def zNR (E : zc_E) (G : zg_G) (r : zRo) (q : Nat) (ls : np_N) : Prop := ∃ b f, G q = some (.inr (3, [.ref b, .int (nI ls.length)])) ∧ G b = some (.inl (E.2.1 0, np_len ls, .inl f)) ∧ np_f ls f ∧ np_g ls ∧ sb_Fit f ∧ r q = (0, 0) ∧ r b = (0, 0)
/-- a Datum, never changed -/
def zDR (E : zc_E) (G : zg_G) (r : zRo) (d : zDt) : Prop := ∃ (b : Nat) (t : Option Nat), G d.1 = some (.inr (2, [.ref b, va_rf t])) ∧ zBy E G b d.2.1 ∧ r d.1 = (0, 0) ∧ r b = (0, 0) ∧ ((t = none ∧ d.2.2 = none) ∨ ∃ y ls, t = some y ∧ d.2.2 = some ls ∧ zNR E G r y ls)
/-- a list with its row, of these roles -/
def zLR (E : zc_E) (G : zg_G) (r : zRo) (a dd : Nat) (xs : List Nat) (k1 k2 : Nat × Nat) : Prop := zL E G a dd xs ∧ r a = k1 ∧ ∀ e, G dd = some e → r dd = k2
/-- a set of owner o -/
def zSR (E : zc_E) (G : zg_G) (r : zRo) (o : Nat) (s : zSt) : Prop := G (sA s) = some (.inr (5, [.int (sT s), .int (sU s), .ref (sL s)])) ∧ r (sA s) = (12, o) ∧ zLR E G r (sL s) (sD s) ((sX s).map (·.1)) (6, sA s) (7, sA s) ∧ ∀ d ∈ sX s, zDR E G r d
/-- an owner -/
def zOR (E : zc_E) (G : zg_G) (r : zRo) (o : zOt) : Prop := G (oA o) = some (.inr (4, [.ref (oN o), .ref (oL o), va_rf (oC o)])) ∧ r (oA o) = (11, 0) ∧ zNR E G r (oN o) (oM o) ∧ zLR E G r (oL o) (oD o) ((oX o).map sA) (4, oA o) (5, oA o) ∧ ∀ s ∈ oX o, zSR E G r (oA o) s
/-- the owners -/
def zZR (E : zc_E) (G : zg_G) (r : zRo) (la dd : Nat) (os : List zOt) : Prop := zLR E G r la dd (os.map oA) (2, 0) (3, 0) ∧ ∀ o ∈ os, zOR E G r o
section ZTG
variable {E : zc_E} {G G2 : zg_G} {r r2 : zRo} {K : Nat × Nat → Prop}
theorem zBy.go {b : Nat} {bs : List Int32} (h : zBy E G b bs) (hb : r b = (0, 0)) (hk : zk r K G G2) (h0 : ¬ K (0, 0)) : zBy E G2 b bs := by
  obtain ⟨f, h1, h2⟩ := h
  exact ⟨f, hk _ _ h1 (by rw [hb]; exact h0), h2⟩
theorem zNR.go {q : Nat} {ls : np_N} (h : zNR E G r q ls) (hk : zk r K G G2) (hr : zro G r r2) (h0 : ¬ K (0, 0)) : zNR E G2 r2 q ls := by
  obtain ⟨b, f, h1, h2, h3, h4, h5, h6, h7⟩ := h
  exact ⟨b, f, hk _ _ h1 (by rw [h6]; exact h0), hk _ _ h2 (by rw [h7]; exact h0), h3, h4, h5, by rw [hr _ _ h1]; exact h6, by rw [hr _ _ h2]; exact h7⟩
theorem zDR.go {d : zDt} (h : zDR E G r d) (hk : zk r K G G2) (hr : zro G r r2) (h0 : ¬ K (0, 0)) : zDR E G2 r2 d := by
  obtain ⟨b, t, h1, h2, h3, h4, h5⟩ := h
  have hb := h2
  obtain ⟨f, hf, -⟩ := hb
  refine ⟨b, t, hk _ _ h1 (by rw [h3]; exact h0), h2.go h4 hk h0, by rw [hr _ _ h1]; exact h3, by rw [hr _ _ hf]; exact h4, ?_⟩
  rcases h5 with h5 | ⟨y, ls, e1, e2, h6⟩
  · exact Or.inl h5
  · exact Or.inr ⟨y, ls, e1, e2, h6.go hk hr h0⟩
theorem zLR.go {a dd : Nat} {xs : List Nat} {k1 k2 : Nat × Nat} (h : zLR E G r a dd xs k1 k2) (hk : zk r K G G2) (hr : zro G r r2) (hq : ∀ e, G2 (E.2.2.2 0) = some e → False) (h1 : ¬ K k1) (h2 : ¬ K k2) : zLR E G2 r2 a dd xs k1 k2 := by
  obtain ⟨⟨⟨k, ha⟩, hd⟩, hra, hrd⟩ := h
  refine ⟨⟨⟨k, hk _ _ ha (by rw [hra]; exact h1)⟩, ?_⟩, by rw [hr _ _ ha]; exact hra, ?_⟩
  · rcases hd with hd | ⟨cap, f, h3, h4⟩
    · exact Or.inl hd
    · exact Or.inr ⟨cap, f, hk _ _ h3 (by rw [hrd _ h3]; exact h2), h4⟩
  · intro e he
    rcases hd with ⟨hd, -⟩ | ⟨cap, f, h3, h4⟩
    · rw [hd] at he; exact (hq e he).elim
    · rw [hr _ _ h3]; exact hrd _ h3
theorem zSR.go {o : Nat} {s : zSt} (h : zSR E G r o s) (hk : zk r K G G2) (hr : zro G r r2) (hq : ∀ e, G2 (E.2.2.2 0) = some e → False) (h0 : ¬ K (0, 0)) (h1 : ¬ K (12, o)) (h2 : ¬ K (6, sA s)) (h3 : ¬ K (7, sA s)) : zSR E G2 r2 o s := by
  obtain ⟨a1, a2, a3, a4⟩ := h
  exact ⟨hk _ _ a1 (by rw [a2]; exact h1), by rw [hr _ _ a1]; exact a2, a3.go hk hr hq h2 h3, fun d hd => (a4 d hd).go hk hr h0⟩
theorem zOR.go {o : zOt} (h : zOR E G r o) (hk : zk r K G G2) (hr : zro G r r2) (hq : ∀ e, G2 (E.2.2.2 0) = some e → False) (h0 : ¬ K (0, 0)) (h1 : ¬ K (11, 0)) (h2 : ¬ K (4, oA o)) (h3 : ¬ K (5, oA o)) (h4 : ¬ K (12, oA o)) (h5 : ∀ s ∈ oX o, ¬ K (6, sA s) ∧ ¬ K (7, sA s)) : zOR E G2 r2 o := by
  obtain ⟨a1, a2, a3, a4, a5⟩ := h
  exact ⟨hk _ _ a1 (by rw [a2]; exact h1), by rw [hr _ _ a1]; exact a2, a3.go hk hr h0, a4.go hk hr hq h2 h3, fun s hs => (a5 s hs).go hk hr hq h0 h4 (h5 s hs).1 (h5 s hs).2⟩
end ZTG
/-- behind a change of one list: its row may be new -/
theorem zLR.mk {E : zc_E} {G G2 : zg_G} {r : zRo} {a dd dd2 : Nat} {xs ys : List Nat} {k1 k2 : Nat × Nat} (h : zLR E G r a dd xs k1 k2) (hE : G (E.2.2.2 0) = none) (hL : zL E G2 a dd2 ys) : zLR E G2 (zrn r dd2 k2) a dd2 ys k1 k2 := by
  obtain ⟨⟨⟨k', ha⟩, -⟩, hra, -⟩ := h
  refine ⟨hL, ?_, fun e he => zrn_self _ _ _⟩
  have hne : a ≠ dd2 := by
    intro z
    obtain ⟨⟨k, h1⟩, ⟨h2, -⟩ | ⟨cap, f, h2, -⟩⟩ := hL
    · rw [z, h2, hE] at ha; cases ha
    · rw [← z, h1] at h2; cases h2
  rw [zrn_ne hne]
  exact hra
theorem zLR.ro {E : zc_E} {G : zg_G} {r : zRo} {a dd dd2 : Nat} {xs : List Nat} {k1 k2 : Nat × Nat} (h : zLR E G r a dd xs k1 k2) (hd : dd2 = dd ∨ G dd2 = none) : zro G r (zrn r dd2 k2) := by
  intro q e hq
  by_cases z : q = dd2
  · rw [z, zrn_self]
    rcases hd with e1 | e1
    · rw [e1]; rw [z, e1] at hq; exact (h.2.2 e hq).symm
    · rw [z, e1] at hq; cases hq
  · exact zrn_ne z
theorem zLR.zk {E : zc_E} {G G2 : zg_G} {r : zRo} {a dd : Nat} {xs : List Nat} {k1 k2 : Nat × Nat} (h : zLR E G r a dd xs k1 k2) (hx : zx (fun q => q = a ∨ q = dd) G G2) : zk r (fun k => k = k1 ∨ k = k2) G G2 := by
  refine zk.of hx ?_
  rintro q e (rfl | rfl) hq
  · exact Or.inl h.2.1
  · exact Or.inr (h.2.2 e hq)
theorem zL.un2 {E : zc_E} {G : zg_G} {a dd : Nat} {ys : List Nat} (h : zL E G a dd ys) (hy : 0 < ys.length) : ∃ (k : Int32) (cap : Nat) (f : Nat → Option Nat), G a = some (.inr (0, [.ref dd, .int (nI ys.length), .int k])) ∧ G dd = some (.inl (E.2.1 3, cap, .inr (.inr (.inr (.inr f))))) ∧ 0 < cap ∧ ys.length ≤ cap ∧ cap ≤ 4001 ∧ ∀ j, f j = ys[j]? := by
  obtain ⟨⟨k, h1⟩, ⟨-, h2⟩ | ⟨cap, f, h2, h3, h4, h5, h6⟩⟩ := h
  · rw [h2] at hy; exact absurd hy (Nat.lt_irrefl _)
  · exact ⟨k, cap, f, h1, h2, h3, h4, h5, h6⟩
theorem zl_at {xs : List Nat} {i : Nat} (h : i < xs.length) : xs[i]? = some (xs.getD i 0) := by
  rw [List.getD_eq_getElem?_getD, List.getElem?_eq_getElem h]
  rfl
theorem zl_ins {xs : List Nat} {i q : Nat} (h : i ≤ xs.length) : (xs.take i ++ q :: xs.drop i)[i]? = some q := by
  rw [List.getElem?_append_right (by rw [List.length_take]; omega), List.length_take, Nat.min_eq_left h, Nat.sub_self]
  rfl
