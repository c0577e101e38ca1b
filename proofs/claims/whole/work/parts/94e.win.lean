/-! THE WINDOWS of a link: the types' bits -/
def wor (x : Int32) (t : Nat) : Int32 := vp_nar .byte (x ||| ((128 : Int32) >>> (nI (t % 8) &&& 31)).toInt8.toInt32).toInt8.toInt32
def wby (t : Nat) : Int32 := vp_nar .byte (nI (t / 256)).toInt8.toInt32
def wsz (n : Nat) : Int32 := vp_nar .byte (nI n).toInt8.toInt32
def wpad (o : List Int32) (n : Nat) : List Int32 := o ++ List.replicate (n - o.length) 0
/-- where the window of t begins, and what stands before its bits -/
def wpr (s : List Int32 × Nat × Nat) (t : Nat) : List Int32 × Nat := if s.2.1 = t / 256 + 1 then (s.1, s.2.2) else (s.1 ++ [wby t, 0], s.1.length + 1)
def wst (s : List Int32 × Nat × Nat) (t : Nat) : List Int32 × Nat × Nat :=
  ((((wpad (wpr s t).1 ((wpr s t).2 + 2 + t % 256 / 8)).set (wpr s t).2 (wsz (t % 256 / 8 + 1))).set ((wpr s t).2 + 1 + t % 256 / 8) (wor (((wpad (wpr s t).1 ((wpr s t).2 + 2 + t % 256 / 8)).set (wpr s t).2 (wsz (t % 256 / 8 + 1))).getD ((wpr s t).2 + 1 + t % 256 / 8) 0) t)), t / 256 + 1, (wpr s t).2)
def wws (T : List Nat) : List Int32 × Nat × Nat := T.foldl wst ([], 0, 0)
theorem wws_snoc (T : List Nat) (t : Nat) : wws (T ++ [t]) = wst (wws T) t := by unfold wws; rw [List.foldl_append]; rfl
theorem wws_take {T : List Nat} {i : Nat} (h : i < T.length) : wws (T.take (i + 1)) = wst (wws (T.take i)) (T.getD i 0) := by
  rw [List.take_add_one, List.getD_eq_getElem?_getD, List.getElem?_eq_getElem h]
  exact wws_snoc _ _
theorem wpad_len (o : List Int32) (n : Nat) : (wpad o n).length = max o.length n := by
  unfold wpad
  rw [List.length_append, List.length_replicate]; omega
theorem wst_len (s : List Int32 × Nat × Nat) (t : Nat) : (wst s t).1.length = max (wpr s t).1.length ((wpr s t).2 + 2 + t % 256 / 8) := by
  show (List.set (List.set _ _ _) _ _).length = _
  rw [List.length_set, List.length_set, wpad_len]
theorem wpr_ge (s : List Int32 × Nat × Nat) (t : Nat) : s.1.length ≤ (wpr s t).1.length := by
  unfold wpr
  split
  · exact Nat.le_refl _
  · show _ ≤ (s.1 ++ _).length
    rw [List.length_append]; omega
theorem wst_ge (s : List Int32 × Nat × Nat) (t : Nat) : s.1.length ≤ (wst s t).1.length := by
  rw [wst_len]
  have := wpr_ge s t
  omega
theorem wws_mono {T : List Nat} {i : Nat} (h : i ≤ T.length) : (wws (T.take i)).1.length ≤ (wws T).1.length := by
  induction hd : T.length - i generalizing i with
  | zero => rw [List.take_of_length_le (by omega)]; exact Nat.le_refl _
  | succ n ih =>
    have h1 := ih (i := i + 1) (by omega) (by omega)
    rw [wws_take (show i < T.length by omega)] at h1
    exact Nat.le_trans (wst_ge _ _) h1
/-- rising types -/
def wso (T : List Nat) : Prop := ∀ i, i + 1 < T.length → T.getD i 0 < T.getD (i + 1) 0
def winv (s : List Int32 × Nat × Nat) (t : Nat) : Prop := s.1.length = s.2.2 + 2 + t % 256 / 8 ∧ s.2.1 = t / 256 + 1 ∧ 1 ≤ s.2.2
theorem winv_0 (s : List Int32 × Nat × Nat) (t : Nat) (h : ¬ s.2.1 = t / 256 + 1) : winv (wst s t) t := by
  refine ⟨?_, rfl, ?_⟩
  · rw [wst_len]
    show max (wpr s t).1.length _ = (wpr s t).2 + 2 + t % 256 / 8
    unfold wpr
    rw [if_neg h]
    show max (s.1 ++ _).length _ = _
    rw [List.length_append]
    show max (s.1.length + 2) (s.1.length + 1 + 2 + t % 256 / 8) = s.1.length + 1 + 2 + t % 256 / 8
    omega
  · show 1 ≤ (wpr s t).2
    unfold wpr
    rw [if_neg h]
    show 1 ≤ s.1.length + 1
    omega
theorem winv_s {s : List Int32 × Nat × Nat} {t t2 : Nat} (h : winv s t) (hlt : t < t2) : winv (wst s t2) t2 := by
  by_cases z : s.2.1 = t2 / 256 + 1
  · refine ⟨?_, rfl, ?_⟩
    · rw [wst_len]
      show max (wpr s t2).1.length _ = (wpr s t2).2 + 2 + t2 % 256 / 8
      unfold wpr
      rw [if_pos z]
      show max s.1.length (s.2.2 + 2 + t2 % 256 / 8) = s.2.2 + 2 + t2 % 256 / 8
      have h1 := h.1
      have h2 := h.2.1
      omega
    · show 1 ≤ (wpr s t2).2
      unfold wpr
      rw [if_pos z]
      exact h.2.2
  · exact winv_0 s t2 z
theorem wws_inv {T : List Nat} (hs : wso T) : ∀ i, i < T.length → winv (wws (T.take (i + 1))) (T.getD i 0) := by
  intro i
  induction i with
  | zero =>
    intro h
    rw [wws_take h]
    exact winv_0 _ _ (by show ¬ (0 : Nat) = _; omega)
  | succ i ih =>
    intro h
    rw [wws_take h]
    exact winv_s (ih (by omega)) (hs i h)
/-- a row of bytes from there on -/
def wA (f0 fd : Nat → Int32) (fr : Nat) (g : Nat → Int32) : Prop := ∀ j, fd j = if j < fr then f0 j else g (j - fr)
theorem wA_up {f0 fd g : Nat → Int32} {fr k : Nat} {v : Int32} (h : wA f0 fd fr g) : wA f0 (upd fd (fr + k) v) fr (upd g k v) := by
  intro j
  unfold upd
  by_cases z : j = fr + k
  · rw [if_pos z, if_neg (by omega), if_pos (by omega)]
  · rw [if_neg z, h j]
    by_cases w : j < fr
    · rw [if_pos w, if_pos w]
    · rw [if_neg w, if_neg w, if_neg (by omega)]
theorem wA_cg {f0 fd g g2 : Nat → Int32} {fr : Nat} (h : wA f0 fd fr g) (e : ∀ j, g j = g2 j) : wA f0 fd fr g2 := fun j => by rw [h j]; split; rfl; exact e _
theorem wA_at {f0 fd g : Nat → Int32} {fr k : Nat} (h : wA f0 fd fr g) : fd (fr + k) = g k := by rw [h, if_neg (by omega), Nat.add_sub_cancel_left]
theorem getD_set {o : List Int32} {k j : Nat} {v : Int32} (h : k < o.length) : (o.set k v).getD j 0 = upd (fun j => o.getD j 0) k v j := by
  unfold upd
  rw [List.getD_eq_getElem?_getD, List.getElem?_set]
  by_cases z : j = k
  · rw [if_pos z, if_pos z.symm, if_pos h]; rfl
  · rw [if_neg z, if_neg (fun q => z q.symm)]; exact (List.getD_eq_getElem?_getD ..).symm
theorem getD_pad {o : List Int32} {n j : Nat} : (wpad o n).getD j 0 = o.getD j 0 := by
  unfold wpad
  rw [List.getD_eq_getElem?_getD, List.getD_eq_getElem?_getD]
  by_cases z : j < o.length
  · rw [List.getElem?_append_left z]
  · rw [List.getElem?_append_right (by omega), List.getElem?_eq_none (l := o) (by omega), List.getElem?_replicate]
    split <;> rfl
theorem wst_F (s : List Int32 × Nat × Nat) (t : Nat) (j : Nat) : (wst s t).1.getD j 0 = upd (upd (fun j => (wpr s t).1.getD j 0) (wpr s t).2 (wsz (t % 256 / 8 + 1))) ((wpr s t).2 + 1 + t % 256 / 8) (wor (upd (fun j => (wpr s t).1.getD j 0) (wpr s t).2 (wsz (t % 256 / 8 + 1)) ((wpr s t).2 + 1 + t % 256 / 8)) t) j := by
  have hl := wpad_len (wpr s t).1 ((wpr s t).2 + 2 + t % 256 / 8)
  have e : ∀ j, ((wpad (wpr s t).1 ((wpr s t).2 + 2 + t % 256 / 8)).set (wpr s t).2 (wsz (t % 256 / 8 + 1))).getD j 0 = upd (fun j => (wpr s t).1.getD j 0) (wpr s t).2 (wsz (t % 256 / 8 + 1)) j := fun j => by
    rw [getD_set (by rw [hl]; omega)]
    unfold upd
    split
    · rfl
    · exact getD_pad
  show (List.set (List.set _ _ _) _ _).getD j 0 = _
  rw [getD_set (by rw [List.length_set, hl]; omega), e]
  unfold upd
  split
  · rfl
  · exact e j
theorem wA_old {f0 fd : Nat → Int32} {fr t : Nat} {s : List Int32 × Nat × Nat} (h : wA f0 fd fr (fun j => s.1.getD j 0)) (hw : s.2.1 = t / 256 + 1) : wA f0 (upd (upd fd (fr + s.2.2) (wsz (t % 256 / 8 + 1))) (fr + (s.2.2 + 1 + t % 256 / 8)) (wor (upd fd (fr + s.2.2) (wsz (t % 256 / 8 + 1)) (fr + (s.2.2 + 1 + t % 256 / 8))) t)) fr (fun j => (wst s t).1.getD j 0) := by
  have e : wpr s t = (s.1, s.2.2) := if_pos hw
  have h1 := wA_up (k := s.2.2) (v := wsz (t % 256 / 8 + 1)) h
  rw [wA_at h1]
  refine wA_cg (wA_up h1) (fun j => ?_)
  rw [wst_F, e]
theorem wA_new {f0 fd : Nat → Int32} {fr t : Nat} {s : List Int32 × Nat × Nat} (h : wA f0 fd fr (fun j => s.1.getD j 0)) (hw : ¬ s.2.1 = t / 256 + 1) : wA f0 (upd (upd (upd fd (fr + s.1.length) (wby t)) (fr + (s.1.length + 1)) (wsz (t % 256 / 8 + 1))) (fr + (s.1.length + 1 + 1 + t % 256 / 8)) (wor (upd (upd fd (fr + s.1.length) (wby t)) (fr + (s.1.length + 1)) (wsz (t % 256 / 8 + 1)) (fr + (s.1.length + 1 + 1 + t % 256 / 8))) t)) fr (fun j => (wst s t).1.getD j 0) := by
  have e : wpr s t = (s.1 ++ [wby t, 0], s.1.length + 1) := if_neg hw
  have h0 : wA f0 (upd fd (fr + s.1.length) (wby t)) fr (fun j => (s.1 ++ [wby t, 0]).getD j 0) := by
    refine wA_cg (wA_up h) (fun j => ?_)
    unfold upd
    dsimp only
    rw [List.getD_eq_getElem?_getD, List.getD_eq_getElem?_getD]
    by_cases z : j = s.1.length
    · rw [if_pos z, z, List.getElem?_append_right (Nat.le_refl _), Nat.sub_self]; rfl
    · rw [if_neg z]
      by_cases w : j < s.1.length
      · rw [List.getElem?_append_left w]
      · rw [List.getElem?_eq_none (l := s.1) (by omega), List.getElem?_append_right (by omega)]
        rcases (show j - s.1.length = 1 ∨ 2 ≤ j - s.1.length by omega) with q | q
        · rw [q]; rfl
        · rw [List.getElem?_eq_none (by show 2 ≤ _; exact q)]
  have h1 := wA_up (k := s.1.length + 1) (v := wsz (t % 256 / 8 + 1)) h0
  rw [wA_at h1]
  refine wA_cg (wA_up h1) (fun j => ?_)
  rw [wst_F, e]
def wI (w : Nat) : Int32 := if w = 0 then -1 else nI (w - 1)
theorem wI_eq {w a : Nat} (hw : w ≤ 300) (ha : a ≤ 256) : nI a = wI w ↔ w = a + 1 := by
  unfold wI
  by_cases z : w = 0
  · rw [if_pos z]
    constructor
    · intro h
      exact absurd (show nI a < 0 by rw [h]; decide) (nI_pos (by omega))
    · intro h; omega
  · rw [if_neg z, nI_eq (by omega) (by omega)]
    omega
theorem zi_rem {a d : Nat} (ha : a < 2 ^ 31) (hd : d < 2 ^ 31) (h0 : 0 < d) : nI a - nI a / nI d * nI d = nI (a % d) := by
  rw [pk_div (a := a) (d := d) (by omega) (by omega) (by omega), pk_mul]
  have h1 := Nat.div_mul_le_self a d
  rw [zi_sub h1]
  congr 1
  have := Nat.div_add_mod a d
  rw [Nat.mul_comm] at this
  omega
