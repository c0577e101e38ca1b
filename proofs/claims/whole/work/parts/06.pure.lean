/-! PURE: names as lists of labels -/
abbrev np_N : Type := List (List Int32)
def np_enc : np_N → List Int32
  | [] => [0]
  | l :: r => nI l.length :: (l ++ np_enc r)
def np_lab (l : List Int32) : Prop := 1 ≤ l.length ∧ l.length ≤ 63
def np_ok (n : np_N) : Prop := ∀ l ∈ n, np_lab l
def np_pos : np_N → Nat → Nat
  | _, 0 => 0
  | [], _ + 1 => 0
  | l :: r, k + 1 => l.length + 1 + np_pos r k
def np_len (n : np_N) : Nat := np_pos n n.length + 1
theorem np_enc_len (n : np_N) : (np_enc n).length = np_len n := by
  unfold np_len
  induction n with
  | nil => rfl
  | cons l r ih =>
    show (nI l.length :: (l ++ np_enc r)).length = l.length + 1 + np_pos r r.length + 1
    rw [List.length_cons, List.length_append, ih]
    omega
theorem np_drop (n : np_N) : ∀ k, k ≤ n.length → (np_enc n).drop (np_pos n k) = np_enc (n.drop k) := by
  induction n with
  | nil =>
    intro k hk
    have : k = 0 := by simpa using hk
    subst this
    rfl
  | cons l r ih =>
    intro k hk
    cases k with
    | zero => rfl
    | succ k =>
      show (nI l.length :: (l ++ np_enc r)).drop (l.length + 1 + np_pos r k) = np_enc (r.drop k)
      rw [show l.length + 1 + np_pos r k = (l.length + np_pos r k) + 1 by omega, List.drop_succ_cons, List.drop_append, List.drop_eq_nil_of_le (by omega), List.nil_append, show l.length + np_pos r k - l.length = np_pos r k by omega]
      exact ih k (by simpa using hk)
theorem np_pos_le (n : np_N) : ∀ k, k ≤ n.length → np_pos n k < np_len n := by
  unfold np_len
  induction n with
  | nil =>
    intro k hk
    have : k = 0 := by simpa using hk
    subst this
    decide
  | cons l r ih =>
    intro k hk
    cases k with
    | zero =>
      show 0 < _
      omega
    | succ k =>
      have := ih k (by simpa using hk)
      show l.length + 1 + np_pos r k < l.length + 1 + np_pos r r.length + 1
      omega
theorem np_pos_succ (n : np_N) : ∀ k, k < n.length → np_pos n (k + 1) = np_pos n k + (n.getD k []).length + 1 := by
  induction n with
  | nil => intro k hk; simp at hk
  | cons l r ih =>
    intro k hk
    cases k with
    | zero =>
      show l.length + 1 + np_pos r 0 = 0 + l.length + 1
      have : np_pos r 0 = 0 := by cases r <;> rfl
      omega
    | succ k =>
      have := ih k (by simpa using hk)
      show l.length + 1 + np_pos r (k + 1) = (l.length + 1 + np_pos r k) + (r.getD k []).length + 1
      omega
theorem np_head (n : np_N) : (np_enc n).getD 0 0 = match n with | [] => 0 | l :: _ => nI l.length := by
  cases n <;> rfl
theorem np_at (n : np_N) (k : Nat) (hk : k ≤ n.length) : (np_enc n).getD (np_pos n k) 0 = if k < n.length then nI (n.getD k []).length else 0 := by
  have h := np_drop n k hk
  have h2 : (np_enc n).getD (np_pos n k) 0 = ((np_enc n).drop (np_pos n k)).getD 0 0 := by
    simp [List.getD_eq_getElem?_getD, List.getElem?_drop]
  rw [h2, h, np_head]
  by_cases hl : k < n.length
  · rw [List.drop_eq_getElem_cons hl]
    simp [hl]
  · rw [List.drop_eq_nil_of_le (by omega)]
    simp [hl]
/-- the name that a row of bytes begins with -/
def np_pn (fuel : Nat) (t : List Int32) : Option np_N :=
  match fuel, t with
  | 0, _ => none
  | _ + 1, [] => none
  | f + 1, b :: r => if b = 0 then some [] else if 0 < b ∧ b ≤ 63 then (np_pn f (r.drop b.toNatClampNeg)).map (r.take b.toNatClampNeg :: ·) else none
/-- where the name that begins there ends, or -1 -/
def np_end (t : List Int32) (a : Nat) : Int :=
  match np_pn (t.length + 1) (t.drop a) with
  | some n => if np_len n ≤ 255 then (a : Int) + np_len n else -1
  | none => -1
/-! small rows on ints by their numbers -/
theorem zi_inc (a : Nat) : nI a + Int32.ofInt 1 = nI (a + 1) := nI_1 a
theorem zi_dec {a b : Nat} (h : a = b + 1) : nI a + Int32.ofInt (-1) = nI b := by subst h; exact pk_m1 b
theorem zi_le0 {n : Nat} (h : n < 2 ^ 31) : nI n ≤ 0 ↔ n = 0 := by
  rw [← nI_0, nI_leI h (by decide)]
  omega
theorem zi_eq0 {n : Nat} (h : n < 2 ^ 31) : nI n = 0 ↔ n = 0 := by
  rw [← nI_0, nI_eq h (by decide)]
theorem zi_lt0 {n : Nat} (h : n < 2 ^ 31) : ¬ nI n < 0 := nI_pos h
theorem zi_sub {a b : Nat} (h : b ≤ a) : nI a - nI b = nI (a - b) := pk_sub h
theorem zi_n (n : Nat) (h : n < 2 ^ 31) : (nI n).toNatClampNeg = n := nI_clamp h
section ZCR
variable {p : Program} {l : Launch} {e : Env} {R : Room} {s : State} {m : MethodId} {args : Array Value} {below : List Frame} {meth : Method} {c : Code} {H : Heap} {locs : List Loc} {cells slots : Nat} {Q : State → Prop} {pc : Nat} {ls : Array Slot} {rest : List Value}
theorem zr_some {r : Option Nat} {a : Nat} (h : r = some a) (k : W p l e R s m args below meth c H locs cells slots Q (F0 m pc ls (.ref a :: rest))) : W p l e R s m args below meth c H locs cells slots Q (F0 m pc ls (va_rf r :: rest)) := by subst h; exact k
theorem zr_none {r : Option Nat} (h : r = none) (k : W p l e R s m args below meth c H locs cells slots Q (F0 m pc ls (.null :: rest))) : W p l e R s m args below meth c H locs cells slots Q (F0 m pc ls (va_rf r :: rest)) := by subst h; exact k
end ZCR
/-- a row of bytes holds a name -/
def np_f (ls : np_N) (f : Nat → Int32) : Prop := ∀ j, j < np_len ls → f j = (np_enc ls).getD j 0
def np_g (ls : np_N) : Prop := np_ok ls ∧ np_len ls ≤ 255
theorem np_g.small {ls : np_N} (h : np_g ls) : np_len ls < 2 ^ 31 := Nat.lt_of_le_of_lt h.2 (by decide)
theorem np_g.pos {ls : np_N} (h : np_g ls) {k : Nat} (hk : k ≤ ls.length) : np_pos ls k < 2 ^ 31 := Nat.lt_trans (np_pos_le ls k hk) h.small
theorem np_count (ls : np_N) (h : np_ok ls) : 2 * ls.length + 1 ≤ np_len ls := by
  unfold np_len
  induction ls with
  | nil => decide
  | cons l r ih =>
    have h1 := ih (fun x hx => h x (List.mem_cons_of_mem _ hx))
    have h2 := (h l List.mem_cons_self).1
    show 2 * (r.length + 1) + 1 ≤ l.length + 1 + np_pos r r.length + 1
    omega
theorem np_g.count {ls : np_N} (h : np_g ls) : ls.length ≤ 127 := by
  have := np_count ls h.1
  have := h.2
  omega
theorem np_g.lab {ls : np_N} (h : np_g ls) {k : Nat} (hk : k < ls.length) : 1 ≤ (ls.getD k []).length ∧ (ls.getD k []).length ≤ 63 := by
  have : ls.getD k [] ∈ ls := by
    simp [List.getD_eq_getElem?_getD, hk]
  exact h.1 _ this
/-- the byte at a label's place is its length; behind the last it is 0 -/
theorem np_rd {ls : np_N} {f : Nat → Int32} (hf : np_f ls f) (hg : np_g ls) {k : Nat} (hk : k < ls.length) : f (nI (np_pos ls k)).toNatClampNeg = nI (ls.getD k []).length := by
  rw [zi_n _ (hg.pos (Nat.le_of_lt hk)), hf _ (np_pos_le ls k (Nat.le_of_lt hk)), np_at ls k (Nat.le_of_lt hk), if_pos hk]
theorem np_rd0 {ls : np_N} {f : Nat → Int32} (hf : np_f ls f) (hg : np_g ls) : f (nI (np_pos ls ls.length)).toNatClampNeg = 0 := by
  rw [zi_n _ (hg.pos (Nat.le_refl _)), hf _ (np_pos_le ls _ (Nat.le_refl _)), np_at ls _ (Nat.le_refl _), if_neg (Nat.lt_irrefl _)]
theorem np_in {ls : np_N} (hg : np_g ls) {k : Nat} (hk : k ≤ ls.length) : vp_in (nI (np_pos ls k)) (np_len ls) := vp_in_nI (np_pos_le ls k hk) hg.small
theorem np_step {ls : np_N} {k : Nat} (hk : k < ls.length) : nI (np_pos ls k) + (nI (ls.getD k []).length + 1) = nI (np_pos ls (k + 1)) := by
  rw [nI_1, nI_add, np_pos_succ ls k hk]
  congr 1
