/-! PURE: the order of names. A key is a name's labels from the last to the first, bytes without sign -/
abbrev nk_K : Type := List (List Nat)
def nk_l : List Nat → List Nat → Int
  | [], [] => 0
  | [], b :: y => -((b :: y).length : Int)
  | a :: x, [] => ((a :: x).length : Int)
  | a :: x, b :: y => if a = b then nk_l x y else (a : Int) - b
def nk_d : nk_K → nk_K → Int
  | [], [] => 0
  | [], b :: y => -((b :: y).length : Int)
  | a :: x, [] => ((a :: x).length : Int)
  | a :: x, b :: y => if nk_l a b = 0 then nk_d x y else nk_l a b
theorem nk_l_self (x : List Nat) : nk_l x x = 0 := by
  induction x with
  | nil => rfl
  | cons a x ih => simp [nk_l, ih]
theorem nk_l_eq {x y : List Nat} (h : nk_l x y = 0) : x = y := by
  induction x generalizing y with
  | nil =>
    cases y with
    | nil => rfl
    | cons b y => simp [nk_l] at h; omega
  | cons a x ih =>
    cases y with
    | nil => simp [nk_l] at h; omega
    | cons b y =>
      unfold nk_l at h
      split at h
      · next e => rw [e, ih h]
      · omega
theorem nk_l_neg (x y : List Nat) : nk_l y x = -nk_l x y := by
  induction x generalizing y with
  | nil =>
    cases y with
    | nil => rfl
    | cons b y => simp [nk_l]
  | cons a x ih =>
    cases y with
    | nil => simp [nk_l]
    | cons b y =>
      unfold nk_l
      by_cases e : a = b
      · rw [if_pos e, if_pos e.symm, ih]
      · rw [if_neg e, if_neg (Ne.symm e)]; omega
theorem nk_l_tr {x y z : List Nat} (h1 : nk_l x y < 0) (h2 : nk_l y z < 0) : nk_l x z < 0 := by
  induction x generalizing y z with
  | nil =>
    cases z with
    | nil =>
      cases y with
      | nil => exact h1
      | cons b y => simp [nk_l] at h2; omega
    | cons c z => simp [nk_l]
  | cons a x ih =>
    cases y with
    | nil => simp [nk_l] at h1; omega
    | cons b y =>
      cases z with
      | nil => simp [nk_l] at h2; omega
      | cons c z =>
        unfold nk_l at h1 h2 ⊢
        by_cases e1 : a = b
        · subst e1
          rw [if_pos rfl] at h1
          by_cases e2 : a = c
          · subst e2
            rw [if_pos rfl] at h2 ⊢
            exact ih h1 h2
          · rw [if_neg e2] at h2 ⊢
            exact h2
        · rw [if_neg e1] at h1
          by_cases e2 : b = c
          · subst e2
            rw [if_neg e1]
            exact h1
          · rw [if_neg e2] at h2
            rw [if_neg (by omega)]
            omega
theorem nk_d_self (x : nk_K) : nk_d x x = 0 := by
  induction x with
  | nil => rfl
  | cons a x ih => simp [nk_d, ih, nk_l_self]
theorem nk_d_eq {x y : nk_K} (h : nk_d x y = 0) : x = y := by
  induction x generalizing y with
  | nil =>
    cases y with
    | nil => rfl
    | cons b y => simp [nk_d] at h; omega
  | cons a x ih =>
    cases y with
    | nil => simp [nk_d] at h; omega
    | cons b y =>
      unfold nk_d at h
      split at h
      · next e => rw [nk_l_eq e, ih h]
      · next e => exact absurd h e
theorem nk_d_neg (x y : nk_K) : nk_d y x = -nk_d x y := by
  induction x generalizing y with
  | nil =>
    cases y with
    | nil => rfl
    | cons b y => simp [nk_d]
  | cons a x ih =>
    cases y with
    | nil => simp [nk_d]
    | cons b y =>
      unfold nk_d
      have hn := nk_l_neg a b
      by_cases e : nk_l a b = 0
      · rw [if_pos e, if_pos (by omega), ih]
      · rw [if_neg e, if_neg (by omega), hn]
theorem nk_d_tr {x y z : nk_K} (h1 : nk_d x y < 0) (h2 : nk_d y z < 0) : nk_d x z < 0 := by
  induction x generalizing y z with
  | nil =>
    cases z with
    | nil =>
      cases y with
      | nil => exact h1
      | cons b y => simp [nk_d] at h2; omega
    | cons c z => simp [nk_d]
  | cons a x ih =>
    cases y with
    | nil => simp [nk_d] at h1; omega
    | cons b y =>
      cases z with
      | nil => simp [nk_d] at h2; omega
      | cons c z =>
        unfold nk_d at h1 h2 ⊢
        by_cases e1 : nk_l a b = 0
        · rw [if_pos e1] at h1
          have e1' := nk_l_eq e1
          subst e1'
          by_cases e2 : nk_l a c = 0
          · rw [if_pos e2] at h2 ⊢
            exact ih h1 h2
          · rw [if_neg e2] at h2 ⊢
            exact h2
        · rw [if_neg e1] at h1
          by_cases e2 : nk_l b c = 0
          · have e2' := nk_l_eq e2
            subst e2'
            rw [if_neg e1]
            exact h1
          · rw [if_neg e2] at h2
            have h3 := nk_l_tr h1 h2
            rw [if_neg (by omega)]
            exact h3
/-- what lies between a prefix and its extension has that prefix -/
theorem nk_between {q x y : nk_K} (h : q <+: x) (h1 : nk_d q y ≤ 0) (h2 : nk_d y x ≤ 0) : q <+: y := by
  induction q generalizing x y with
  | nil => exact List.nil_prefix
  | cons a q ih =>
    cases x with
    | nil => exact absurd h (by simp)
    | cons b x =>
      rw [List.cons_prefix_cons] at h
      obtain ⟨rfl, h⟩ := h
      cases y with
      | nil => simp [nk_d] at h1; omega
      | cons c y =>
        unfold nk_d at h1 h2
        have hn := nk_l_neg a c
        by_cases e : nk_l a c = 0
        · rw [if_pos e] at h1
          rw [if_pos (by omega)] at h2
          rw [nk_l_eq e, List.cons_prefix_cons]
          exact ⟨rfl, ih h h1 h2⟩
        · rw [if_neg e] at h1
          rw [if_neg (by omega)] at h2
          omega
