/-! THE STEPS: what a call does, in words of tape, records, origin and last answering -/
abbrev zA4 : Type := List Int32 × zVt × np_N × zW
abbrev zStp : Type := Int32 → Int32 → zA4 → Prop
def sFeed (x1 x2 x3 x4 x5 : Int32) (A : zA4) : zStp := fun k r B => (65516 < A.1.length ∧ k = 1 ∧ B = A) ∨ (A.1.length ≤ 65516 ∧ k = 0 ∧ r = nI (A.1.length + 20) ∧ B = (A.1 ++ zby x1 ++ zby x2 ++ zby x3 ++ zby x4 ++ zby x5, A.2))
def sEnd (x : Int32) (A : zA4) : zStp := fun k r B => ((x < 0 ∨ nI A.1.length < x) ∧ k = 1 ∧ B = A) ∨ (∃ n, n ≤ A.1.length ∧ x = nI n ∧ ¬ x < 0 ∧ ¬ nI A.1.length < x ∧ k = 0 ∧ r = x ∧ B = (A.1.take n, A.2))
def sOrg (x1 x2 x3 x4 x5 : Int32) (A : zA4) : zStp := fun k _ B => ((x1 < 0 ∨ ¬ ∃ x y z, zOrg A.1 x y z) ∧ k = 1 ∧ B = A) ∨ (¬ x1 < 0 ∧ k = 0 ∧ ∃ lx ly lz, zOrg A.1 lx ly lz ∧ B = ([], vor (np_low lx) x1 (zsD (zlw A.1 (np_len lx)) 1 x2 x3 x4 x5), np_low lx, A.2.2.2))
def pBad (V : zVt) (x : np_N) (t : Int32) : Prop := vD V x ∧ (t = 5 ∨ V x 5 ≠ [])
def sPut (t tm : Int32) (A : zA4) : zStp := fun k r B => ((tm < 0 ∨ ¬ ∃ x D, zRec A.1 t A.2.2.1 x D) ∧ k = 1 ∧ B = A) ∨ ((¬ tm < 0 ∧ ∃ x D, zRec A.1 t A.2.2.1 x D ∧ (∀ q, q ∈ A.2.1 x t → q.2 ≠ D) ∧ pBad A.2.1 x t) ∧ k = 3 ∧ B = A) ∨ (¬ tm < 0 ∧ k = 0 ∧ ∃ x D, zRec A.1 t A.2.2.1 x D ∧ (((∃ j, isFst (A.2.1 x t) D j) ∧ B = ([], vpt A.2.1 x t tm [], A.2.2)) ∨ ((∀ q, q ∈ A.2.1 x t → q.2 ≠ D) ∧ ¬ pBad A.2.1 x t ∧ B = ([], vpt A.2.1 x t tm [(0, D)], A.2.2))) ∧ r = nI ((B.2.1 x t).length))
def sTake (t : Int32) (A : zA4) : zStp := fun k r B => ((¬ ∃ x D, zRec A.1 t A.2.2.1 x D) ∧ k = 1 ∧ B = A) ∨ ((∃ x D, zRec A.1 t A.2.2.1 x D ∧ ∀ q, q ∈ A.2.1 x t → q.2 ≠ D) ∧ k = 2 ∧ B = A) ∨ (k = 0 ∧ ∃ x D j, zRec A.1 t A.2.2.1 x D ∧ isFst (A.2.1 x t) D j ∧ r = nI ((A.2.1 x t).length - 1) ∧ B = ([], vtk A.2.1 x t j, A.2.2))
def sAll (t : Int32) (A : zA4) : zStp := fun k r B => ((¬ ∃ ls, zTn A.1 ls ∧ A.2.2.1 <:+ np_low ls ∧ zall t) ∧ k = 1 ∧ B = A) ∨ (k = 0 ∧ ∃ ls n, zTn A.1 ls ∧ A.2.2.1 <:+ np_low ls ∧ zall t ∧ isCnt (gone A.2.1 (np_low ls) t) n ∧ r = nI n ∧ B = ([], vta A.2.1 (np_low ls) t, A.2.2))
def sSer (v : Int32) (A : zA4) : zStp := fun k r B => k = 0 ∧ r = vse A.2.1 A.2.2.1 ∧ B = (A.1, vsr A.2.1 A.2.2.1 v, A.2.2)
def sAsk (t u : Int32) (A : zA4) : zStp := fun k r B => ((t < 1 ∨ 65535 < t ∨ ¬ ∃ ls, zTn A.1 ls) ∧ k = 1 ∧ B = A) ∨ (¬ t < 1 ∧ ¬ 65535 < t ∧ k = 0 ∧ ∃ ls, zTn A.1 ls ∧ r = (vask A.2.1 A.2.2.1 (zscu u) t (np_low ls)).1 ∧ B = ([], A.2.1, A.2.2.1, (vask A.2.1 A.2.2.1 (zscu u) t (np_low ls)).2))
def sRcs (y : Int32) (A : zA4) : zStp := fun k r B => (wsq y A.2.2.2 = none ∧ k = 1 ∧ B = A) ∨ (k = 0 ∧ B = A ∧ ∃ L, wsq y A.2.2.2 = some L ∧ r = nI L.length)
def sTld (y z u : Int32) (A : zA4) : zStp := fun k r B => ((¬ ∃ e, wrw y z A.2.2.2 e) ∧ k = 1 ∧ B = A) ∨ (∃ e, wrw y z A.2.2.2 e ∧ B = A ∧ ((wtl u e = some r ∧ k = 0) ∨ (wtl u e = none ∧ k = 2)))
def bAll (e : aV) : List Int32 := np_enc e.1 ++ e.2.2.2
def sByt (y z u : Int32) (A : zA4) : zStp := fun k r B => ((¬ ∃ e, wrw y z A.2.2.2 e) ∧ k = 1 ∧ B = A) ∨ (∃ e, wrw y z A.2.2.2 e ∧ B = A ∧ ((k = 0 ∧ ∃ i, u = nI i ∧ i < (bAll e).length ∧ r = ((bAll e).getD i 0 &&& 255)) ∨ (k = 2 ∧ (u < 0 ∨ nI (bAll e).length ≤ u))))
def sStt (A : zA4) : zStp := fun k r B => ((¬ ∃ ls, zTn A.1 ls) ∧ k = 1 ∧ B = A) ∨ (k = 0 ∧ ∃ ls, zTn A.1 ls ∧ r = vstt A.2.1 A.2.2.1 (np_low ls) ∧ B = ([], A.2))
def sCnt (w : Int32) (A : zA4) : zStp := fun k r B => k = 0 ∧ B = A ∧ ((w = 0 ∧ r = nI A.1.length) ∨ (w = 1 ∧ ∃ rs, A.2.1 = rVf rs ∧ r = nI rs.length) ∨ (w = 2 ∧ ∃ n, isCnt (fun p : np_N × Int32 => A.2.1 p.1 p.2 ≠ []) n ∧ r = nI n) ∨ (w = 3 ∧ ∃ n, isCnt (vD A.2.1) n ∧ r = nI n) ∨ (w = 4 ∧ ∃ n, isCnt (fun x => A.2.2.1 <:+ x ∧ vth A.2.1 x) n ∧ r = nI n) ∨ (w = 5 ∧ ∃ n, isCnt (vch A.2.1 A.2.2.1) n ∧ r = nI n) ∨ (w = 6 ∧ ∃ n, isCnt (fun x => x ≠ A.2.2.1 ∧ A.2.1 x 2 ≠ []) n ∧ r = nI n) ∨ (w = 7 ∧ r = vse A.2.1 A.2.2.1) ∨ (¬ w = 0 ∧ ¬ w = 1 ∧ ¬ w = 2 ∧ ¬ w = 3 ∧ ¬ w = 4 ∧ ¬ w = 5 ∧ ¬ w = 6 ∧ ¬ w = 7 ∧ r = -1))
/-- a step has one end -/
def sUn (s : zStp) : Prop := ∀ k r B k2 r2 B2, s k r B → s k2 r2 B2 → k = k2 ∧ B = B2 ∧ (k = 0 → r = r2)
theorem n10 : ((1 : Int32) = 0) → False := by decide
theorem n20 : ((2 : Int32) = 0) → False := by decide
theorem n30 : ((3 : Int32) = 0) → False := by decide
theorem zRec_un {tp : List Int32} {t : Int32} {top x x2 : np_N} {D D2 : List Int32} (h : zRec tp t top x D) (h2 : zRec tp t top x2 D2) : x2 = x ∧ D2 = D := by
  obtain ⟨ls, a1, a2, a3, a4⟩ := h
  obtain ⟨ls2, b1, b2, b3, b4⟩ := h2
  have e : ls2 = ls := zNm_un b1.1 a1.1
  subst e
  exact ⟨b3.trans a3.symm, b4.trans a4.symm⟩
theorem isFst_un {L : List (Int32 × List Int32)} {D : List Int32} {j k : Nat} (h : isFst L D j) (h2 : isFst L D k) : j = k := by
  obtain ⟨⟨u, a1⟩, a2⟩ := h
  obtain ⟨⟨w, b1⟩, b2⟩ := h2
  rcases Nat.lt_trichotomy j k with z | z | z
  · exact absurd rfl (b2 j z _ a1)
  · exact z
  · exact absurd rfl (a2 k z _ b1)
theorem isFst_mem {L : List (Int32 × List Int32)} {D : List Int32} {j : Nat} (h : isFst L D j) : ∃ q ∈ L, q.2 = D := by
  obtain ⟨⟨u, a1⟩, -⟩ := h
  exact ⟨_, List.mem_of_getElem? a1, rfl⟩
theorem nI_inj {a b : Nat} (ha : a < 2 ^ 31) (hb : b < 2 ^ 31) (h : nI a = nI b) : a = b := by
  have := congrArg Int32.toNatClampNeg h
  rwa [zi_n _ ha, zi_n _ hb] at this
section SUN
variable {A : zA4}
theorem sFeed_un (x1 x2 x3 x4 x5 : Int32) : sUn (sFeed x1 x2 x3 x4 x5 A) := by
  rintro k r B k2 r2 B2 (⟨a1, rfl, rfl⟩ | ⟨a1, rfl, rfl, rfl⟩) (⟨b1, rfl, rfl⟩ | ⟨b1, rfl, rfl, rfl⟩)
  · exact ⟨rfl, rfl, fun h => (n10 h).elim⟩
  · exact absurd a1 (by omega)
  · exact absurd b1 (by omega)
  · exact ⟨rfl, rfl, fun _ => rfl⟩
theorem sEnd_un (hl : A.1.length ≤ 65536) (x : Int32) : sUn (sEnd x A) := by
  rintro k r B k2 r2 B2 (⟨a1, rfl, rfl⟩ | ⟨n, a1, a2, a3, a4, rfl, rfl, rfl⟩) (⟨b1, rfl, rfl⟩ | ⟨m, b1, b2, b3, b4, rfl, rfl, rfl⟩)
  · exact ⟨rfl, rfl, fun h => (n10 h).elim⟩
  · exact (a1.elim b3 b4).elim
  · exact (b1.elim a3 a4).elim
  · have : n = m := nI_inj (by omega) (by omega) (a2.symm.trans b2)
    subst this
    exact ⟨rfl, rfl, fun _ => rfl⟩
theorem sOrg_un (x1 x2 x3 x4 x5 : Int32) : ∀ k r B k2 r2 B2, sOrg x1 x2 x3 x4 x5 A k r B → sOrg x1 x2 x3 x4 x5 A k2 r2 B2 → k = k2 ∧ B = B2 := by
  rintro k r B k2 r2 B2 (⟨a1, rfl, rfl⟩ | ⟨a1, rfl, lx, ly, lz, a2, rfl⟩) (⟨b1, rfl, rfl⟩ | ⟨b1, rfl, mx, my, mz, b2, rfl⟩)
  · exact ⟨rfl, rfl⟩
  · exact (a1.elim b1 (fun z => z ⟨_, _, _, b2⟩)).elim
  · exact (b1.elim a1 (fun z => z ⟨_, _, _, a2⟩)).elim
  · obtain ⟨rfl, rfl, rfl⟩ := zOrg_un a2 b2
    exact ⟨rfl, rfl⟩
theorem sPut_un (t tm : Int32) : sUn (sPut t tm A) := by
  rintro k r B k2 r2 B2 (⟨a1, rfl, rfl⟩ | ⟨⟨a1, x, D, a2, a3, a4⟩, rfl, rfl⟩ | ⟨a1, rfl, x, D, a2, a3, rfl⟩) (⟨b1, rfl, rfl⟩ | ⟨⟨b1, y, F, b2, b3, b4⟩, rfl, rfl⟩ | ⟨b1, rfl, y, F, b2, b3, rfl⟩)
  · exact ⟨rfl, rfl, fun h => (n10 h).elim⟩
  · exact (a1.elim b1 (fun z => z ⟨_, _, b2⟩)).elim
  · exact (a1.elim b1 (fun z => z ⟨_, _, b2⟩)).elim
  · exact (b1.elim a1 (fun z => z ⟨_, _, a2⟩)).elim
  · exact ⟨rfl, rfl, fun h => (n30 h).elim⟩
  · obtain ⟨rfl, rfl⟩ := zRec_un a2 b2
    rcases b3 with ⟨⟨j, b5⟩, -⟩ | ⟨-, b5, -⟩
    · obtain ⟨q, q1, q2⟩ := isFst_mem b5
      exact absurd q2 (a3 q q1)
    · exact absurd a4 b5
  · exact (b1.elim a1 (fun z => z ⟨_, _, a2⟩)).elim
  · obtain ⟨rfl, rfl⟩ := zRec_un a2 b2
    rcases a3 with ⟨⟨j, b5⟩, -⟩ | ⟨-, b5, -⟩
    · obtain ⟨q, q1, q2⟩ := isFst_mem b5
      exact absurd q2 (b3 q q1)
    · exact absurd b4 b5
  · obtain ⟨rfl, rfl⟩ := zRec_un a2 b2
    have e : B = B2 := by
      rcases a3 with ⟨⟨j, a5⟩, a6⟩ | ⟨a5, -, a6⟩ <;> rcases b3 with ⟨⟨i, b5⟩, b6⟩ | ⟨b5, -, b6⟩
      · rw [a6, b6]
      · obtain ⟨q, q1, q2⟩ := isFst_mem a5
        exact absurd q2 (b5 q q1)
      · obtain ⟨q, q1, q2⟩ := isFst_mem b5
        exact absurd q2 (a5 q q1)
      · rw [a6, b6]
    subst e
    exact ⟨rfl, rfl, fun _ => rfl⟩
theorem sTake_un (t : Int32) : sUn (sTake t A) := by
  rintro k r B k2 r2 B2 (⟨a1, rfl, rfl⟩ | ⟨⟨x, D, a2, a3⟩, rfl, rfl⟩ | ⟨rfl, x, D, j, a2, a3, rfl, rfl⟩) (⟨b1, rfl, rfl⟩ | ⟨⟨y, F, b2, b3⟩, rfl, rfl⟩ | ⟨rfl, y, F, i, b2, b3, rfl, rfl⟩)
  · exact ⟨rfl, rfl, fun h => (n10 h).elim⟩
  · exact (a1 ⟨_, _, b2⟩).elim
  · exact (a1 ⟨_, _, b2⟩).elim
  · exact (b1 ⟨_, _, a2⟩).elim
  · exact ⟨rfl, rfl, fun h => (n20 h).elim⟩
  · obtain ⟨rfl, rfl⟩ := zRec_un a2 b2
    obtain ⟨q, q1, q2⟩ := isFst_mem b3
    exact absurd q2 (a3 q q1)
  · exact (b1 ⟨_, _, a2⟩).elim
  · obtain ⟨rfl, rfl⟩ := zRec_un a2 b2
    obtain ⟨q, q1, q2⟩ := isFst_mem a3
    exact absurd q2 (b3 q q1)
  · obtain ⟨rfl, rfl⟩ := zRec_un a2 b2
    obtain rfl := isFst_un a3 b3
    exact ⟨rfl, rfl, fun _ => rfl⟩
theorem sAll_un (t : Int32) : sUn (sAll t A) := by
  rintro k r B k2 r2 B2 (⟨a1, rfl, rfl⟩ | ⟨rfl, ls, n, a2, a3, a4, a5, rfl, rfl⟩) (⟨b1, rfl, rfl⟩ | ⟨rfl, ms, m, b2, b3, b4, b5, rfl, rfl⟩)
  · exact ⟨rfl, rfl, fun h => (n10 h).elim⟩
  · exact (a1 ⟨_, b2, b3, b4⟩).elim
  · exact (b1 ⟨_, a2, a3, a4⟩).elim
  · obtain rfl := zTn_un a2 b2
    obtain rfl := isCnt_un a5 b5
    exact ⟨rfl, rfl, fun _ => rfl⟩
theorem sSer_un (v : Int32) : sUn (sSer v A) := by
  rintro k r B k2 r2 B2 ⟨rfl, rfl, rfl⟩ ⟨rfl, rfl, rfl⟩
  exact ⟨rfl, rfl, fun _ => rfl⟩
theorem sAsk_un (t u : Int32) : sUn (sAsk t u A) := by
  rintro k r B k2 r2 B2 (⟨a1, rfl, rfl⟩ | ⟨a1, a2, rfl, ls, a3, rfl, rfl⟩) (⟨b1, rfl, rfl⟩ | ⟨b1, b2, rfl, ms, b3, rfl, rfl⟩)
  · exact ⟨rfl, rfl, fun h => (n10 h).elim⟩
  · exact (a1.elim b1 (fun z => z.elim b2 (fun w => w ⟨_, b3⟩))).elim
  · exact (b1.elim a1 (fun z => z.elim a2 (fun w => w ⟨_, a3⟩))).elim
  · obtain rfl := zTn_un a3 b3
    exact ⟨rfl, rfl, fun _ => rfl⟩
theorem sRcs_un (y : Int32) : sUn (sRcs y A) := by
  rintro k r B k2 r2 B2 (⟨a1, rfl, rfl⟩ | ⟨rfl, rfl, L, a2, rfl⟩) (⟨b1, rfl, rfl⟩ | ⟨rfl, rfl, M, b2, rfl⟩)
  · exact ⟨rfl, rfl, fun h => (n10 h).elim⟩
  · rw [a1] at b2; cases b2
  · rw [b1] at a2; cases a2
  · rw [a2] at b2
    cases b2
    exact ⟨rfl, rfl, fun _ => rfl⟩
theorem sTld_un (hW : wsm A.2.2.2) (y z u : Int32) : sUn (sTld y z u A) := by
  rintro k r B k2 r2 B2 (⟨a1, rfl, rfl⟩ | ⟨e, a2, rfl, a3⟩) (⟨b1, rfl, rfl⟩ | ⟨e2, b2, rfl, b3⟩)
  · exact ⟨rfl, rfl, fun h => (n10 h).elim⟩
  · exact (a1 ⟨_, b2⟩).elim
  · exact (b1 ⟨_, a2⟩).elim
  · obtain rfl := wrw_un hW a2 b2
    rcases a3 with ⟨a3, rfl⟩ | ⟨a3, rfl⟩ <;> rcases b3 with ⟨b3, rfl⟩ | ⟨b3, rfl⟩
    · rw [a3] at b3; cases b3
      exact ⟨rfl, rfl, fun _ => rfl⟩
    · rw [a3] at b3; cases b3
    · rw [a3] at b3; cases b3
    · exact ⟨rfl, rfl, fun h => (n20 h).elim⟩
theorem sByt_un (hW : wsm A.2.2.2) (y z u : Int32) (hd : ∀ e, wrw y z A.2.2.2 e → (bAll e).length < 2 ^ 30) : sUn (sByt y z u A) := by
  rintro k r B k2 r2 B2 (⟨a1, rfl, rfl⟩ | ⟨e, a2, rfl, a3⟩) (⟨b1, rfl, rfl⟩ | ⟨e2, b2, rfl, b3⟩)
  · exact ⟨rfl, rfl, fun h => (n10 h).elim⟩
  · exact (a1 ⟨_, b2⟩).elim
  · exact (b1 ⟨_, a2⟩).elim
  · obtain rfl := wrw_un hW a2 b2
    have hl := hd _ a2
    have key : ∀ i, u = nI i → i < (bAll e).length → (u < 0 ∨ nI (bAll e).length ≤ u) → False := fun i e1 e2 e3 => by
      rw [e1] at e3
      rcases e3 with e3 | e3
      · exact nI_pos (by omega) e3
      · have := (nI_leI (a := (bAll e).length) (b := i) (by omega) (by omega)).mp e3
        omega
    rcases a3 with ⟨rfl, i, a4, a5, rfl⟩ | ⟨rfl, a4⟩ <;> rcases b3 with ⟨rfl, j, b4, b5, rfl⟩ | ⟨rfl, b4⟩
    · obtain rfl := nI_inj (by omega) (by omega) (a4.symm.trans b4)
      exact ⟨rfl, rfl, fun _ => rfl⟩
    · exact (key i a4 a5 b4).elim
    · exact (key j b4 b5 a4).elim
    · exact ⟨rfl, rfl, fun h => (n20 h).elim⟩
theorem sStt_un : sUn (sStt A) := by
  rintro k r B k2 r2 B2 (⟨a1, rfl, rfl⟩ | ⟨rfl, ls, a2, rfl, rfl⟩) (⟨b1, rfl, rfl⟩ | ⟨rfl, ms, b2, rfl, rfl⟩)
  · exact ⟨rfl, rfl, fun h => (n10 h).elim⟩
  · exact (a1 ⟨_, b2⟩).elim
  · exact (b1 ⟨_, a2⟩).elim
  · obtain rfl := zTn_un a2 b2
    exact ⟨rfl, rfl, fun _ => rfl⟩
theorem sCnt_un (w : Int32) : sUn (sCnt w A) := by
  rintro k r B k2 r2 B2 ⟨rfl, rfl, a⟩ ⟨rfl, rfl, b⟩
  refine ⟨rfl, rfl, fun _ => ?_⟩
  have cn : ∀ {α : Type} {P : α → Prop}, (∃ n, isCnt P n ∧ r = nI n) → (∃ n, isCnt P n ∧ r2 = nI n) → r = r2 := fun ⟨n, h1, h2⟩ ⟨m, h3, h4⟩ => by rw [h2, h4, isCnt_un h1 h3]
  rcases a with ⟨rfl, a⟩ | ⟨rfl, a⟩ | ⟨rfl, a⟩ | ⟨rfl, a⟩ | ⟨rfl, a⟩ | ⟨rfl, a⟩ | ⟨rfl, a⟩ | ⟨rfl, a⟩ | ⟨z0, z1, z2, z3, z4, z5, z6, z7, a⟩
  · rcases b with ⟨-, b⟩ | ⟨z, -⟩ | ⟨z, -⟩ | ⟨z, -⟩ | ⟨z, -⟩ | ⟨z, -⟩ | ⟨z, -⟩ | ⟨z, -⟩ | ⟨z0, z1, z2, z3, z4, z5, z6, z7, b⟩
    · rw [a, b]
    all_goals first | exact absurd z (by decide) | exact absurd rfl z0
  · rcases b with ⟨z, -⟩ | ⟨-, b⟩ | ⟨z, -⟩ | ⟨z, -⟩ | ⟨z, -⟩ | ⟨z, -⟩ | ⟨z, -⟩ | ⟨z, -⟩ | ⟨z0, z1, z2, z3, z4, z5, z6, z7, b⟩
    · exact absurd z (by decide)
    · obtain ⟨rs, h1, h2⟩ := a
      obtain ⟨rs2, h3, h4⟩ := b
      rw [h2, h4, rVf_len (h1.symm.trans h3)]
    all_goals first | exact absurd z (by decide) | exact absurd rfl z1
  · rcases b with ⟨z, -⟩ | ⟨z, -⟩ | ⟨-, b⟩ | ⟨z, -⟩ | ⟨z, -⟩ | ⟨z, -⟩ | ⟨z, -⟩ | ⟨z, -⟩ | ⟨z0, z1, z2, z3, z4, z5, z6, z7, b⟩
    all_goals first | exact absurd z (by decide) | exact absurd rfl z2 | exact cn a b
  · rcases b with ⟨z, -⟩ | ⟨z, -⟩ | ⟨z, -⟩ | ⟨-, b⟩ | ⟨z, -⟩ | ⟨z, -⟩ | ⟨z, -⟩ | ⟨z, -⟩ | ⟨z0, z1, z2, z3, z4, z5, z6, z7, b⟩
    all_goals first | exact absurd z (by decide) | exact absurd rfl z3 | exact cn a b
  · rcases b with ⟨z, -⟩ | ⟨z, -⟩ | ⟨z, -⟩ | ⟨z, -⟩ | ⟨-, b⟩ | ⟨z, -⟩ | ⟨z, -⟩ | ⟨z, -⟩ | ⟨z0, z1, z2, z3, z4, z5, z6, z7, b⟩
    all_goals first | exact absurd z (by decide) | exact absurd rfl z4 | exact cn a b
  · rcases b with ⟨z, -⟩ | ⟨z, -⟩ | ⟨z, -⟩ | ⟨z, -⟩ | ⟨z, -⟩ | ⟨-, b⟩ | ⟨z, -⟩ | ⟨z, -⟩ | ⟨z0, z1, z2, z3, z4, z5, z6, z7, b⟩
    all_goals first | exact absurd z (by decide) | exact absurd rfl z5 | exact cn a b
  · rcases b with ⟨z, -⟩ | ⟨z, -⟩ | ⟨z, -⟩ | ⟨z, -⟩ | ⟨z, -⟩ | ⟨z, -⟩ | ⟨-, b⟩ | ⟨z, -⟩ | ⟨z0, z1, z2, z3, z4, z5, z6, z7, b⟩
    all_goals first | exact absurd z (by decide) | exact absurd rfl z6 | exact cn a b
  · rcases b with ⟨z, -⟩ | ⟨z, -⟩ | ⟨z, -⟩ | ⟨z, -⟩ | ⟨z, -⟩ | ⟨z, -⟩ | ⟨z, -⟩ | ⟨-, b⟩ | ⟨z0, z1, z2, z3, z4, z5, z6, z7, b⟩
    all_goals first | exact absurd z (by decide) | exact absurd rfl z7 | rw [a, b]
  · rcases b with ⟨z, -⟩ | ⟨z, -⟩ | ⟨z, -⟩ | ⟨z, -⟩ | ⟨z, -⟩ | ⟨z, -⟩ | ⟨z, -⟩ | ⟨z, -⟩ | ⟨-, -, -, -, -, -, -, -, b⟩
    all_goals first | exact absurd z z0 | exact absurd z z1 | exact absurd z z2 | exact absurd z z3 | exact absurd z z4 | exact absurd z z5 | exact absurd z z6 | exact absurd z z7 | rw [a, b]
end SUN
