/-! PURE: names as lists of labels -/
abbrev np_N : Type := List (List Int32)
def np_enc : np_N → List Int32
  | [] => [0]
  | l :: r => nI l.length :: (l ++ np_enc r)
def np_lab (l : List Int32) : Prop := 1 ≤ l.length ∧ l.length ≤ 63
def np_ok (n : np_N) : Prop := ∀ l ∈ n, np_lab l
def np_pos : np_N → Nat → Nat
  | _, 0 => 0
  | [], _ + 1 => 0
  | l :: r, k + 1 => l.length + 1 + np_pos r k
def np_len (n : np_N) : Nat := np_pos n n.length + 1
theorem np_enc_len (n : np_N) : (np_enc n).length = np_len n := by
  unfold np_len
  induction n with
  | nil => rfl
  | cons l r ih =>
    show (nI l.length :: (l ++ np_enc r)).length = l.length + 1 + np_pos r r.length + 1
    rw [List.length_cons, List.length_append, ih]
    omega
theorem np_drop (n : np_N) : ∀ k, k ≤ n.length → (np_enc n).drop (np_pos n k) = np_enc (n.drop k) := by
  induction n with
  | nil =>
    intro k hk
    have : k = 0 := by simpa using hk
    subst this
    rfl
  | cons l r ih =>
    intro k hk
    cases k with
    | zero => rfl
    | succ k =>
      show (nI l.length :: (l ++ np_enc r)).drop (l.length + 1 + np_pos r k) = np_enc (r.drop k)
      rw [show l.length + 1 + np_pos r k = (l.length + np_pos r k) + 1 by omega, List.drop_succ_cons, List.drop_append, List.drop_eq_nil_of_le (by omega), List.nil_append, show l.length + np_pos r k - l.length = np_pos r k by omega]
      exact ih k (by simpa using hk)
theorem np_pos_le (n : np_N) : ∀ k, k ≤ n.length → np_pos n k < np_len n := by
  unfold np_len
  induction n with
  | nil =>
    intro k hk
    have : k = 0 := by simpa using hk
    subst this
    decide
  | cons l r ih =>
    intro k hk
    cases k with
    | zero =>
      show 0 < _
      omega
    | succ k =>
      have := ih k (by simpa using hk)
      show l.length + 1 + np_pos r k < l.length + 1 + np_pos r r.length + 1
      omega
theorem np_pos_succ (n : np_N) : ∀ k, k < n.length → np_pos n (k + 1) = np_pos n k + (n.getD k []).length + 1 := by
  induction n with
  | nil => intro k hk; simp at hk
  | cons l r ih =>
    intro k hk
    cases k with
    | zero =>
      show l.length + 1 + np_pos r 0 = 0 + l.length + 1
      have : np_pos r 0 = 0 := by cases r <;> rfl
      omega
    | succ k =>
      have := ih k (by simpa using hk)
      show l.length + 1 + np_pos r (k + 1) = (l.length + 1 + np_pos r k) + (r.getD k []).length + 1
      omega
theorem np_head (n : np_N) : (np_enc n).getD 0 0 = match n with | [] => 0 | l :: _ => nI l.length := by
  cases n <;> rfl
theorem np_at (n : np_N) (k : Nat) (hk : k ≤ n.length) : (np_enc n).getD (np_pos n k) 0 = if k < n.length then nI (n.getD k []).length else 0 := by
  have h := np_drop n k hk
  have h2 : (np_enc n).getD (np_pos n k) 0 = ((np_enc n).drop (np_pos n k)).getD 0 0 := by
    simp [List.getD_eq_getElem?_getD, List.getElem?_drop]
  rw [h2, h, np_head]
  by_cases hl : k < n.length
  · rw [List.drop_eq_getElem_cons hl]
    simp [hl]
  · rw [List.drop_eq_nil_of_le (by omega)]
    simp [hl]
/-- the name that a row of bytes begins with -/
def np_pn (fuel : Nat) (t : List Int32) : Option np_N :=
  match fuel, t with
  | 0, _ => none
  | _ + 1, [] => none
  | f + 1, b :: r => if b = 0 then some [] else if 0 < b ∧ b ≤ 63 then (np_pn f (r.drop b.toNatClampNeg)).map (r.take b.toNatClampNeg :: ·) else none
/-- where the name that begins there ends, or -1 -/
def np_end (t : List Int32) (a : Nat) : Int :=
  match np_pn (t.length + 1) (t.drop a) with
  | some n => if np_len n ≤ 255 then (a : Int) + np_len n else -1
  | none => -1
/-! small rows on ints by their numbers -/
theorem zi_inc (a : Nat) : nI a + Int32.ofInt 1 = nI (a + 1) := nI_1 a
theorem zi_dec {a b : Nat} (h : a = b + 1) : nI a + Int32.ofInt (-1) = nI b := by subst h; exact pk_m1 b
theorem zi_le0 {n : Nat} (h : n < 2 ^ 31) : nI n ≤ 0 ↔ n = 0 := by
  rw [← nI_0, nI_leI h (by decide)]
  omega
theorem zi_eq0 {n : Nat} (h : n < 2 ^ 31) : nI n = 0 ↔ n = 0 := by
  rw [← nI_0, nI_eq h (by decide)]
theorem zi_lt0 {n : Nat} (h : n < 2 ^ 31) : ¬ nI n < 0 := nI_pos h
theorem zi_sub {a b : Nat} (h : b ≤ a) : nI a - nI b = nI (a - b) := pk_sub h
theorem zi_n (n : Nat) (h : n < 2 ^ 31) : (nI n).toNatClampNeg = n := nI_clamp h
section ZCR
variable {p : Program} {l : Launch} {e : Env} {R : Room} {s : State} {m : MethodId} {args : Array Value} {below : List Frame} {meth : Method} {c : Code} {H : Heap} {locs : List Loc} {cells slots : Nat} {Q : State → Prop} {pc : Nat} {ls : Array Slot} {rest : List Value}
theorem zr_some {r : Option Nat} {a : Nat} (h : r = some a) (k : W p l e R s m args below meth c H locs cells slots Q (F0 m pc ls (.ref a :: rest))) : W p l e R s m args below meth c H locs cells slots Q (F0 m pc ls (va_rf r :: rest)) := by subst h; exact k
theorem zr_none {r : Option Nat} (h : r = none) (k : W p l e R s m args below meth c H locs cells slots Q (F0 m pc ls (.null :: rest))) : W p l e R s m args below meth c H locs cells slots Q (F0 m pc ls (va_rf r :: rest)) := by subst h; exact k
end ZCR
/-- a row of bytes holds a name -/
def np_f (ls : np_N) (f : Nat → Int32) : Prop := ∀ j, j < np_len ls → f j = (np_enc ls).getD j 0
def np_g (ls : np_N) : Prop := np_ok ls ∧ np_len ls ≤ 255
theorem np_g.small {ls : np_N} (h : np_g ls) : np_len ls < 2 ^ 31 := Nat.lt_of_le_of_lt h.2 (by decide)
theorem np_g.pos {ls : np_N} (h : np_g ls) {k : Nat} (hk : k ≤ ls.length) : np_pos ls k < 2 ^ 31 := Nat.lt_trans (np_pos_le ls k hk) h.small
theorem np_count (ls : np_N) (h : np_ok ls) : 2 * ls.length + 1 ≤ np_len ls := by
  unfold np_len
  induction ls with
  | nil => decide
  | cons l r ih =>
    have h1 := ih (fun x hx => h x (List.mem_cons_of_mem _ hx))
    have h2 := (h l List.mem_cons_self).1
    show 2 * (r.length + 1) + 1 ≤ l.length + 1 + np_pos r r.length + 1
    omega
theorem np_g.count {ls : np_N} (h : np_g ls) : ls.length ≤ 127 := by
  have := np_count ls h.1
  have := h.2
  omega
theorem np_g.lab {ls : np_N} (h : np_g ls) {k : Nat} (hk : k < ls.length) : 1 ≤ (ls.getD k []).length ∧ (ls.getD k []).length ≤ 63 := by
  have : ls.getD k [] ∈ ls := by
    simp [List.getD_eq_getElem?_getD, hk]
  exact h.1 _ this
/-- the byte at a label's place is its length; behind the last it is 0 -/
theorem np_rd {ls : np_N} {f : Nat → Int32} (hf : np_f ls f) (hg : np_g ls) {k : Nat} (hk : k < ls.length) : f (nI (np_pos ls k)).toNatClampNeg = nI (ls.getD k []).length := by
  rw [zi_n _ (hg.pos (Nat.le_of_lt hk)), hf _ (np_pos_le ls k (Nat.le_of_lt hk)), np_at ls k (Nat.le_of_lt hk), if_pos hk]
theorem np_rd0 {ls : np_N} {f : Nat → Int32} (hf : np_f ls f) (hg : np_g ls) : f (nI (np_pos ls ls.length)).toNatClampNeg = 0 := by
  rw [zi_n _ (hg.pos (Nat.le_refl _)), hf _ (np_pos_le ls _ (Nat.le_refl _)), np_at ls _ (Nat.le_refl _), if_neg (Nat.lt_irrefl _)]
theorem np_in {ls : np_N} (hg : np_g ls) {k : Nat} (hk : k ≤ ls.length) : vp_in (nI (np_pos ls k)) (np_len ls) := vp_in_nI (np_pos_le ls k hk) hg.small
theorem np_step {ls : np_N} {k : Nat} (hk : k < ls.length) : nI (np_pos ls k) + (nI (ls.getD k []).length + 1) = nI (np_pos ls (k + 1)) := by
  rw [nI_1, nI_add, np_pos_succ ls k hk]
  congr 1
/-- a truth value -/
def zb (r : Int32) (P : Prop) : Prop := (r = 1 ∧ P) ∨ (r = 0 ∧ ¬ P)
theorem zb.z {r : Int32} {P : Prop} (h : zb r P) (h0 : r = 0) : ¬ P := by
  rcases h with ⟨e, -⟩ | ⟨-, q⟩
  · rw [h0] at e; exact absurd e (by decide)
  · exact q
theorem zb.nz {r : Int32} {P : Prop} (h : zb r P) (h0 : ¬ r = 0) : P := by
  rcases h with ⟨-, q⟩ | ⟨e, -⟩
  · exact q
  · exact absurd e h0
theorem zb.t {P : Prop} (h : P) : zb 1 P := Or.inl ⟨rfl, h⟩
theorem zb.f {P : Prop} (h : ¬ P) : zb 0 P := Or.inr ⟨rfl, h⟩
theorem zb.iff {r : Int32} {P P' : Prop} (h : zb r P) (e : P ↔ P') : zb r P' := by
  rcases h with ⟨a, q⟩ | ⟨a, q⟩
  · exact Or.inl ⟨a, e.mp q⟩
  · exact Or.inr ⟨a, fun z => q (e.mpr z)⟩
theorem zb.nar {r : Int32} {P : Prop} (h : zb r P) : narrow .boolean (.int r) = .int r := by
  rcases h with ⟨rfl, -⟩ | ⟨rfl, -⟩ <;> rfl
theorem np_enc_inj {x : np_N} : ∀ {y : np_N}, np_ok x → np_ok y → np_enc x = np_enc y → x = y := by
  have hz : ∀ l : List Int32, np_lab l → ¬ nI l.length = 0 := fun l hl e => by
    have := (zi_eq0 (n := l.length) (by have := hl.2; omega)).mp e
    have := hl.1
    omega
  induction x with
  | nil =>
    intro y hx hy h
    cases y with
    | nil => rfl
    | cons l r =>
      have h1 : (0 : Int32) = nI l.length := (List.cons.inj h).1
      exact absurd h1.symm (hz l (hy l List.mem_cons_self))
  | cons l r ih =>
    intro y hx hy h
    cases y with
    | nil =>
      have h1 : nI l.length = (0 : Int32) := (List.cons.inj h).1
      exact absurd h1 (hz l (hx l List.mem_cons_self))
    | cons l' r' =>
      obtain ⟨h1, h2⟩ := List.cons.inj (show nI l.length :: (l ++ np_enc r) = nI l'.length :: (l' ++ np_enc r') from h)
      have hl := (hx l List.mem_cons_self).2
      have hl' := (hy l' List.mem_cons_self).2
      have h3 := (nI_eq (a := l.length) (b := l'.length) (by omega) (by omega)).mp h1
      obtain ⟨h4, h5⟩ := List.append_inj h2 h3
      rw [h4, ih (fun z hz => hx z (List.mem_cons_of_mem _ hz)) (fun z hz => hy z (List.mem_cons_of_mem _ hz)) h5]
theorem np_same {x y : np_N} {f g : Nat → Int32} (hf : np_f x f) (hg : np_f y g) (hx : np_g x) (hy : np_g y) : (np_len x = np_len y ∧ ∀ j, j < np_len x → f j = g j) ↔ x = y := by
  constructor
  · rintro ⟨h1, h2⟩
    refine np_enc_inj hx.1 hy.1 (List.ext_getElem? fun j => ?_)
    by_cases hj : j < np_len x
    · have e1 := hf j hj
      have e2 := hg j (by omega)
      have e3 := h2 j hj
      have l1 : j < (np_enc x).length := by rw [np_enc_len]; exact hj
      have l2 : j < (np_enc y).length := by rw [np_enc_len]; omega
      rw [List.getElem?_eq_getElem l1, List.getElem?_eq_getElem l2]
      rw [List.getD_eq_getElem?_getD, List.getElem?_eq_getElem l1] at e1
      rw [List.getD_eq_getElem?_getD, List.getElem?_eq_getElem l2] at e2
      simp only [Option.getD_some] at e1 e2
      rw [← e1, ← e2, e3]
    · rw [List.getElem?_eq_none (by rw [np_enc_len]; omega), List.getElem?_eq_none (by rw [np_enc_len]; omega)]
  · rintro rfl
    exact ⟨rfl, fun j hj => by rw [hf j hj, hg j hj]⟩
theorem np_fz {ls : np_N} {f : Nat → Int32} (hf : np_f ls f) (hg : np_g ls) {k : Nat} (hk : k ≤ ls.length) (h : f (np_pos ls k) = 0) : k = ls.length := by
  rcases Nat.lt_or_ge k ls.length with q | q
  · rw [hf _ (np_pos_le ls k hk), np_at ls k hk, if_pos q] at h
    have h1 := hg.lab q
    have := (zi_eq0 (n := (ls.getD k []).length) (by omega)).mp h
    omega
  · omega
theorem np_fnz {ls : np_N} {f : Nat → Int32} (hf : np_f ls f) {k : Nat} (hk : k ≤ ls.length) (h : ¬ f (np_pos ls k) = 0) : k < ls.length := by
  rcases Nat.lt_or_ge k ls.length with q | q
  · exact q
  · exact absurd (by rw [hf _ (np_pos_le ls k hk), np_at ls k hk, if_neg (by omega)]) h
theorem np_pos0 (ls : np_N) : np_pos ls 0 = 0 := by cases ls <;> rfl
theorem np_pos_drop (ls : np_N) : ∀ k m, k + m ≤ ls.length → np_pos ls (k + m) = np_pos ls k + np_pos (ls.drop k) m := by
  induction ls with
  | nil =>
    intro k m h
    have h1 : k = 0 := by simp at h; omega
    have h2 : m = 0 := by simp at h; omega
    subst h1; subst h2; rfl
  | cons l r ih =>
    intro k m h
    cases k with
    | zero => rw [np_pos0, Nat.zero_add, Nat.zero_add]; rfl
    | succ k =>
      have h1 := ih k m (by simp at h; omega)
      rw [show k + 1 + m = (k + m) + 1 by omega]
      show l.length + 1 + np_pos r (k + m) = l.length + 1 + np_pos r k + np_pos (r.drop k) m
      omega
theorem np_len_drop (ls : np_N) (k : Nat) (hk : k ≤ ls.length) : np_len ls = np_pos ls k + np_len (ls.drop k) := by
  have h := np_pos_drop ls k (ls.length - k) (by omega)
  unfold np_len
  rw [List.length_drop]
  rw [show k + (ls.length - k) = ls.length by omega] at h
  omega
theorem np_f.drop {ls : np_N} {f : Nat → Int32} (hf : np_f ls f) {k : Nat} (hk : k ≤ ls.length) : np_f (ls.drop k) (fun j => f (np_pos ls k + j)) := by
  intro j hj
  have h := np_len_drop ls k hk
  show f (np_pos ls k + j) = _
  rw [hf _ (by omega), ← np_drop ls k hk]
  simp [List.getD_eq_getElem?_getD, List.getElem?_drop]
theorem np_g.drop {ls : np_N} (hg : np_g ls) {k : Nat} (hk : k ≤ ls.length) : np_g (ls.drop k) := ⟨fun l hl => hg.1 l (List.mem_of_mem_drop hl), by have := np_len_drop ls k hk; have := hg.2; omega⟩
theorem np_suf {x y : np_N} (h : y.length ≤ x.length) : x.drop (x.length - y.length) = y ↔ y <:+ x := by
  constructor
  · intro e
    rw [← e]
    exact List.drop_suffix _ _
  · rintro ⟨t, rfl⟩
    simp
theorem np_len_lt (ls : np_N) {i j : Nat} (h : i < j) (hj : j ≤ ls.length) : np_len (ls.drop j) < np_len (ls.drop i) := by
  have h1 := np_len_drop ls i (by omega)
  have h2 := np_len_drop ls j hj
  have h3 := np_pos_drop ls i (j - i) (by omega)
  rw [show i + (j - i) = j by omega] at h3
  have h4 : 0 < np_pos (ls.drop i) (j - i) := by
    have hl : 0 < (ls.drop i).length := by rw [List.length_drop]; omega
    cases hd : ls.drop i with
    | nil => rw [hd] at hl; simp at hl
    | cons l r =>
      rw [show j - i = (j - i - 1) + 1 by omega]
      show 0 < l.length + 1 + _
      omega
  omega
/-- the suffix of that length, if there is one -/
theorem np_find {x y : np_N} {i : Nat} (hi : i ≤ x.length) (h1 : np_len (x.drop i) ≤ np_len y) (h2 : ∀ j, j < i → np_len y < np_len (x.drop j)) : x.drop i = y ↔ y <:+ x := by
  constructor
  · intro e; rw [← e]; exact List.drop_suffix _ _
  · intro hs
    have hl : y.length ≤ x.length := hs.length_le
    have e := (np_suf hl).mpr hs
    rcases Nat.lt_trichotomy i (x.length - y.length) with q | q | q
    · have := np_len_lt x q (by omega)
      rw [e] at this
      omega
    · rw [q]; exact e
    · have := h2 _ q
      rw [e] at this
      omega
theorem np_fle {ls : np_N} {f : Nat → Int32} (hf : np_f ls f) (hg : np_g ls) {k : Nat} (hk : k ≤ ls.length) (h : f (np_pos ls k) ≤ 0) : k = ls.length := by
  rcases Nat.lt_or_ge k ls.length with q | q
  · rw [hf _ (np_pos_le ls k hk), np_at ls k hk, if_pos q] at h
    have h1 := hg.lab q
    have := (zi_le0 (n := (ls.getD k []).length) (by omega)).mp h
    omega
  · omega
theorem np_fgt {ls : np_N} {f : Nat → Int32} (hf : np_f ls f) {k : Nat} (hk : k ≤ ls.length) (h : ¬ f (np_pos ls k) ≤ 0) : k < ls.length := by
  rcases Nat.lt_or_ge k ls.length with q | q
  · exact q
  · exact absurd (by rw [hf _ (np_pos_le ls k hk), np_at ls k hk, if_neg (by omega)]; decide) h
section ZCR2
variable {p : Program} {l : Launch} {e : Env} {R : Room} {s : State} {m : MethodId} {args : Array Value} {below : List Frame} {meth : Method} {c : Code} {H : Heap} {locs : List Loc} {cells slots : Nat} {Q : State → Prop} {pc : Nat} {ls : Array Slot} {rest : List Value}
theorem zr_as {x y : Option Nat} (h : x = y) (k : W p l e R s m args below meth c H locs cells slots Q (F0 m pc ls (va_rf y :: rest))) : W p l e R s m args below meth c H locs cells slots Q (F0 m pc ls (va_rf x :: rest)) := h ▸ k
end ZCR2
theorem zi_min {a b : Nat} (ha : a < 2 ^ 31) (hb : b < 2 ^ 31) : (if nI b < nI a then nI b else nI a) = nI (min a b) := by
  by_cases h : b < a
  · rw [if_pos ((nI_ltI hb ha).mpr h), Nat.min_eq_right (by omega)]
  · rw [if_neg (fun q => h ((nI_ltI hb ha).mp q)), Nat.min_eq_left (by omega)]
theorem zi_max {a b : Nat} (ha : a < 2 ^ 31) (hb : b < 2 ^ 31) : (if nI a < nI b then nI b else nI a) = nI (max a b) := by
  by_cases h : a < b
  · rw [if_pos ((nI_ltI ha hb).mpr h), Nat.max_eq_right (by omega)]
  · rw [if_neg (fun q => h ((nI_ltI ha hb).mp q)), Nat.max_eq_left (by omega)]
theorem zf_clr {f f2 : Nat → Option Nat} {i : Nat} (h : ∀ j, f2 j = if j < i then none else f j) : ∀ j, va_up f2 i none j = if j < i + 1 then none else f j := by
  intro j
  unfold va_up
  by_cases hj : j = i
  · rw [if_pos hj, if_pos (by omega)]
  · rw [if_neg hj, h j]
    by_cases h2 : j < i
    · rw [if_pos h2, if_pos (by omega)]
    · rw [if_neg h2, if_neg (by omega)]
theorem zf_cpy {f : Nat → Option Nat} {cap : Nat} (j : Nat) : va_cpy f (fun _ => none) 0 0 cap j = if j < cap then f j else none := by
  unfold va_cpy
  by_cases h : j < cap
  · rw [if_pos ⟨Nat.zero_le _, by omega⟩, if_pos h]
    simp
  · rw [if_neg (by omega), if_neg h]
theorem zf_at {f : Nat → Option Nat} {xs : List Nat} (h : ∀ j, f j = xs[j]?) (j : Nat) : (if j < xs.length then f j else none) = xs[j]? := by
  by_cases hj : j < xs.length
  · rw [if_pos hj, h j]
  · rw [if_neg hj, List.getElem?_eq_none (by omega)]
theorem zf_app {f : Nat → Option Nat} {xs : List Nat} {y : Nat} (h : ∀ j, f j = xs[j]?) : ∀ j, va_up f xs.length (some y) j = (xs ++ [y])[j]? := by
  intro j
  unfold va_up
  by_cases hj : j = xs.length
  · rw [if_pos hj, hj]; simp
  · rw [if_neg hj, h j]
    by_cases h2 : j < xs.length
    · rw [List.getElem?_append_left h2]
    · rw [List.getElem?_eq_none (by omega), List.getElem?_eq_none (by simp; omega)]
