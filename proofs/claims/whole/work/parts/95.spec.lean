/-! WHAT IS ASKED FOR: the zone as records by name and type; the answers as rows -/
/-- x comes before y -/
abbrev zl (x y : np_N) : Prop := nk_d (zky x) (zky y) < 0
theorem zl_ir (x : np_N) : ¬ zl x x := by unfold zl; rw [nk_d_self]; omega
theorem zl_ay {x y : np_N} (h : zl x y) : ¬ zl y x := by
  unfold zl at h ⊢
  rw [nk_d_neg]; omega
theorem zl_tr {x y z : np_N} (h1 : zl x y) (h2 : zl y z) : zl x z := nk_d_tr h1 h2
theorem zl_tot {x y : np_N} (hx : zfn x) (hy : zfn y) (h : x ≠ y) : zl x y ∨ zl y x := by
  by_cases z : zl x y
  · exact Or.inl z
  · exact Or.inr (nk_ne hx hy h z)
theorem zl_le {x y : np_N} (hx : zfn x) (hy : zfn y) (h : ¬ zl y x) : x = y ∨ zl x y := by
  by_cases e : x = y
  · exact Or.inl e
  · exact Or.inr ((zl_tot hx hy e).resolve_right h)
theorem zl_lt_le {x y z : np_N} (hy : zfn y) (hz : zfn z) (h1 : zl x y) (h2 : ¬ zl z y) : zl x z := by
  rcases zl_le hy hz h2 with e | e
  · exact e ▸ h1
  · exact zl_tr h1 e
theorem zl_le_lt {x y z : np_N} (hx : zfn x) (hy : zfn y) (h1 : ¬ zl y x) (h2 : zl y z) : zl x z := by
  rcases zl_le hx hy h1 with e | e
  · exact e ▸ h2
  · exact zl_tr e h2
theorem zsf {x y : np_N} (h : x <:+ y) : zky x <+: zky y := by
  unfold zky
  exact (List.reverse_prefix.mpr h).map _
theorem zfn_suf {x y : np_N} (h : x <:+ y) (hy : zfn y) : zfn x := fun l hl => hy l (h.subset hl)
theorem zsf2 {x y : np_N} (hx : zfn x) (hy : zfn y) (h : zky x <+: zky y) : x <:+ y := by
  have hl : x.length ≤ y.length := by have := h.length_le; rw [zky_len, zky_len] at this; exact this
  have e : x = y.drop (y.length - x.length) := by
    refine zky_inj hx (zfn_suf (List.drop_suffix _ _) hy) ?_
    have e1 : zky (y.drop (y.length - x.length)) <+: zky y := zsf (List.drop_suffix _ _)
    refine (List.prefix_of_prefix_length_le h e1 ?_).eq_of_length ?_
    · rw [zky_len, zky_len, List.length_drop]; omega
    · rw [zky_len, zky_len, List.length_drop]; omega
  rw [e]; exact List.drop_suffix _ _
theorem nk_pre {q x : nk_K} (h : q <+: x) (hn : q ≠ x) : nk_d q x < 0 := by
  induction q generalizing x with
  | nil =>
    cases x with
    | nil => exact absurd rfl hn
    | cons b x =>
      show -((b :: x).length : Int) < 0
      simp only [List.length_cons]; omega
  | cons a q ih =>
    cases x with
    | nil => exact absurd h (by simp)
    | cons b x =>
      rw [List.cons_prefix_cons] at h
      obtain ⟨rfl, h⟩ := h
      show (if nk_l a a = 0 then nk_d q x else nk_l a a) < 0
      rw [if_pos (nk_l_self a)]
      exact ih h (fun e => hn (by rw [e]))
theorem zl_suf {x y : np_N} (h : x <:+ y) (hn : x ≠ y) : zl x y := nk_pre (zsf h) (fun e => hn (h.eq_of_length (by have := congrArg List.length e; rw [zky_len, zky_len] at this; exact this)))
/-- what lies between a name and one below it is below it -/
theorem zl_btw {q x y : np_N} (hq : zfn q) (hy : zfn y) (h : q <:+ x) (h1 : ¬ zl y q) (h2 : ¬ zl x y) : q <:+ y := by
  refine zsf2 hq hy (nk_between (zsf h) ?_ ?_)
  · unfold zl at h1; rw [nk_d_neg]; omega
  · unfold zl at h2; rw [nk_d_neg]; omega
theorem suf_len {x y z : np_N} (h1 : x <:+ z) (h2 : y <:+ z) (h : x.length ≤ y.length) : x <:+ y := List.suffix_of_suffix_length_le h1 h2 h
theorem suf_eq {x y z : np_N} (h1 : x <:+ z) (h2 : y <:+ z) (h : x.length = y.length) : x = y := (suf_len h1 h2 (by omega)).eq_of_length h
/-- choices without a way to decide -/
noncomputable def zif {α : Type} (P : Prop) (a b : α) : α := @ite α P (Classical.propDecidable P) a b
theorem zif_y {α : Type} {P : Prop} {a b : α} (h : P) : zif P a b = a := if_pos h
theorem zif_n {α : Type} {P : Prop} {a b : α} (h : ¬ P) : zif P a b = b := if_neg h
noncomputable def zch {α : Type} (P : α → Prop) (d : α) : α := @dite α (∃ x, P x) (Classical.propDecidable _) (fun h => h.choose) (fun _ => d)
theorem zch_s {α : Type} {P : α → Prop} {d x : α} (h : P x) : P (zch P d) := by
  unfold zch
  rw [dif_pos ⟨x, h⟩]; exact Exists.choose_spec (p := P) ⟨x, h⟩
noncomputable def zco {α : Type} (P : α → Prop) : Option α := @dite (Option α) (∃ x, P x) (Classical.propDecidable _) (fun h => some h.choose) (fun _ => none)
abbrev zVt : Type := np_N → Int32 → List (Int32 × List Int32)
def zV (os : List zOt) : zVt := fun x t => (zgt os x t).map (fun p => (p.1, p.2.1))
/-- a name with records -/
def vD (V : zVt) (x : np_N) : Prop := ∃ t, V x t ≠ []
def isCt (V : zVt) (top x c : np_N) : Prop := c <:+ x ∧ top.length < c.length ∧ V c 2 ≠ []
/-- of the cuts that x is at or below the one nearest to the origin -/
def isCo (V : zVt) (top x c : np_N) : Prop := isCt V top x c ∧ ∀ c2, isCt V top x c2 → c.length ≤ c2.length
theorem isCo_un {V : zVt} {top x c d : np_N} (h : isCo V top x c) (h2 : isCo V top x d) : c = d := suf_eq h.1.1 h2.1.1 (Nat.le_antisymm (h.2 d h2.1) (h2.2 c h.1))
theorem isCo_ex {V : zVt} {top x : np_N} : ∀ n c, c.length ≤ n → isCt V top x c → ∃ d, isCo V top x d := by
  intro n
  induction n with
  | zero =>
    intro c hc h
    exact ⟨c, h, fun c2 _ => by omega⟩
  | succ n ih =>
    intro c hc h
    by_cases z : ∃ c2, isCt V top x c2 ∧ c2.length < c.length
    · obtain ⟨c2, h1, h2⟩ := z
      exact ih c2 (by omega) h1
    · exact ⟨c, h, fun c2 h2 => Nat.le_of_not_lt (fun w => z ⟨c2, h2, w⟩)⟩
noncomputable def vco (V : zVt) (top x : np_N) : Option np_N := zco (isCo V top x)
theorem vco_y {V : zVt} {top x c : np_N} (h : isCo V top x c) : vco V top x = some c := by
  unfold vco zco
  rw [dif_pos ⟨c, h⟩]
  exact congrArg some (isCo_un (Exists.choose_spec ⟨c, h⟩ : isCo V top x _) h)
theorem vco_s {V : zVt} {top x c : np_N} (h : vco V top x = some c) : isCo V top x c := by
  unfold vco zco at h
  split at h
  · rename_i z
    rw [← Option.some.inj h]; exact z.choose_spec
  · cases h
theorem vco_n {V : zVt} {top x : np_N} (h : vco V top x = none) : ∀ c, ¬ isCt V top x c := by
  intro c hc
  obtain ⟨d, hd⟩ := isCo_ex c.length c (Nat.le_refl _) hc
  rw [vco_y hd] at h; cases h
theorem vco_no {V : zVt} {top x : np_N} (h : ∀ c, ¬ isCt V top x c) : vco V top x = none := by
  cases e : vco V top x with
  | none => rfl
  | some c => exact absurd (vco_s e).1 (h c)
/-- given away -/
def vaw (V : zVt) (top x : np_N) : Prop := ∃ c, vco V top x = some c ∧ c ≠ x
/-- in the chain -/
def vch (V : zVt) (top x : np_N) : Prop := vD V x ∧ ¬ vaw V top x
/-- the last of the chain before x -/
def isOv (V : zVt) (top x b : np_N) : Prop := vch V top b ∧ zl b x ∧ ∀ y, vch V top y → zl y x → ¬ zl b y
/-- the next of the chain behind x, or its first -/
def isNx (V : zVt) (top x b : np_N) : Prop := vch V top b ∧ ((zl x b ∧ ∀ y, vch V top y → zl x y → ¬ zl y b) ∨ ((∀ y, vch V top y → ¬ zl x y) ∧ ∀ y, vch V top y → ¬ zl y b))
/-- all names with records are names -/
def vgd (V : zVt) : Prop := ∀ x, vD V x → zfn x ∧ np_g x
theorem isOv_un {V : zVt} {top x b d : np_N} (hg : vgd V) (h : isOv V top x b) (h2 : isOv V top x d) : b = d := by
  by_cases e : b = d
  · exact e
  · rcases zl_tot (hg b h.1.1).1 (hg d h2.1.1).1 e with z | z
    · exact absurd z (h.2.2 d h2.1 h2.2.1)
    · exact absurd z (h2.2.2 b h.1 h.2.1)
theorem isNx_un {V : zVt} {top x b d : np_N} (hg : vgd V) (h : isNx V top x b) (h2 : isNx V top x d) : b = d := by
  by_cases e : b = d
  · exact e
  · have ht := zl_tot (hg b h.1.1).1 (hg d h2.1.1).1 e
    rcases h.2 with ⟨p1, p2⟩ | ⟨p1, p2⟩ <;> rcases h2.2 with ⟨q1, q2⟩ | ⟨q1, q2⟩
    · rcases ht with z | z
      · exact absurd z (q2 b h.1 p1)
      · exact absurd z (p2 d h2.1 q1)
    · exact absurd p1 (q1 b h.1)
    · exact absurd q1 (p1 d h2.1)
    · rcases ht with z | z
      · exact absurd z (q2 b h.1)
      · exact absurd z (p2 d h2.1)
noncomputable def vov (V : zVt) (top x : np_N) : np_N := zch (isOv V top x) []
theorem vov_y {V : zVt} {top x b : np_N} (hg : vgd V) (h : isOv V top x b) : vov V top x = b := by
  exact isOv_un hg (zch_s h) h
noncomputable def vnx (V : zVt) (top x : np_N) : np_N := zch (isNx V top x) []
theorem vnx_y {V : zVt} {top x b : np_N} (hg : vgd V) (h : isNx V top x b) : vnx V top x = b := by
  exact isNx_un hg (zch_s h) h
/-- a name that is there -/
def vth (V : zVt) (x : np_N) : Prop := ∃ y, vD V y ∧ x <:+ y
/-- the longest part of x that is there -/
def isCl (V : zVt) (x s : np_N) : Prop := s <:+ x ∧ vth V s ∧ ∀ s2, s2 <:+ x → vth V s2 → s2.length ≤ s.length
theorem isCl_un {V : zVt} {x s s2 : np_N} (h : isCl V x s) (h2 : isCl V x s2) : s = s2 := suf_eq h.1 h2.1 (Nat.le_antisymm (h2.2.2 s h.1 h.2.1) (h.2.2 s2 h2.1 h2.2.1))
noncomputable def vcl (V : zVt) (x : np_N) : np_N := zch (isCl V x) []
theorem vcl_y {V : zVt} {x s : np_N} (h : isCl V x s) : vcl V x = s := by
  exact isCl_un (zch_s h) h
/-- the types of a link, rising -/
def isTy (V : zVt) (top x : np_N) (T : List Nat) : Prop := wso T ∧ ∀ t, t ∈ T ↔ (t = 46 ∨ t = 47 ∨ (t < 65536 ∧ V x (nI t) ≠ [] ∧ (vco V top x = some x → t = 2 ∨ t = 43)))
theorem wso_lt {T : List Nat} (h : wso T) : ∀ d i, i + d + 1 < T.length → T.getD i 0 < T.getD (i + d + 1) 0 := by
  intro d
  induction d with
  | zero => intro i hi; exact h i hi
  | succ d ih =>
    intro i hi
    exact Nat.lt_trans (ih i (by omega)) (h (i + d + 1) hi)
theorem wso_pw {T : List Nat} (h : wso T) : T.Pairwise (· < ·) := by
  rw [List.pairwise_iff_getElem]
  intro i j hi hj hij
  have q := wso_lt h (j - i - 1) i (by omega)
  rw [show i + (j - i - 1) + 1 = j by omega, List.getD_eq_getElem?_getD, List.getD_eq_getElem?_getD, List.getElem?_eq_getElem hi, List.getElem?_eq_getElem hj] at q
  exact q
theorem pw_un {T U : List Nat} (h : T.Pairwise (· < ·)) (h2 : U.Pairwise (· < ·)) (e : ∀ t, t ∈ T ↔ t ∈ U) : T = U := by
  induction T generalizing U with
  | nil =>
    cases U with
    | nil => rfl
    | cons u U => exact absurd ((e u).mpr List.mem_cons_self) List.not_mem_nil
  | cons a T ih =>
    cases U with
    | nil => exact absurd ((e a).mp List.mem_cons_self) List.not_mem_nil
    | cons u U =>
      rw [List.pairwise_cons] at h h2
      have hau : a = u := by
        rcases List.mem_cons.mp ((e a).mp List.mem_cons_self) with z | z
        · exact z
        · rcases List.mem_cons.mp ((e u).mpr List.mem_cons_self) with w | w
          · exact w.symm
          · have := h2.1 a z; have := h.1 u w; omega
      subst hau
      rw [ih h.2 h2.2 (fun t => ?_)]
      constructor
      · intro z
        rcases List.mem_cons.mp ((e t).mp (List.mem_cons_of_mem _ z)) with w | w
        · have := h.1 t z; omega
        · exact w
      · intro z
        rcases List.mem_cons.mp ((e t).mpr (List.mem_cons_of_mem _ z)) with w | w
        · have := h2.1 t z; omega
        · exact w
theorem isTy_un {V : zVt} {top x : np_N} {T U : List Nat} (h : isTy V top x T) (h2 : isTy V top x U) : T = U := pw_un (wso_pw h.1) (wso_pw h2.1) (fun t => by rw [h.2, h2.2])
noncomputable def vty (V : zVt) (top x : np_N) : List Nat := zch (isTy V top x) []
theorem vty_y {V : zVt} {top x : np_N} {T : List Nat} (h : isTy V top x T) : vty V top x = T := by
  exact isTy_un (zch_s h) h
/-- the data of x's link -/
noncomputable def vlk (V : zVt) (top x : np_N) : List Int32 := np_enc (vnx V top x) ++ (wws (vty V top x)).1
/-- a name with these bytes -/
noncomputable def vnm (b : List Int32) : np_N := zch (fun x => np_enc x = b ∧ np_g x) []
theorem np_enc_un {x y : np_N} (gx : np_g x) (gy : np_g y) (e : np_enc x = np_enc y) : x = y := by
  refine np_f_un (F := fun j => (np_enc x).getD j 0) gx.1 gy.1 (fun j _ => rfl) (fun j _ => by show (np_enc x).getD j 0 = _; rw [e])
theorem vnm_y {b : List Int32} {x : np_N} (h : np_enc x = b) (g : np_g x) : vnm b = x := by
  have q := zch_s (P := fun x => np_enc x = b ∧ np_g x) (d := []) (x := x) ⟨h, g⟩
  exact np_enc_un q.2 g (q.1.trans h.symm)
/-- where the name in data of that type begins -/
def voff (t : Int32) : Nat := if t = 15 then 2 else if t = 33 then 6 else 0
noncomputable def vtg (t : Int32) (b : List Int32) : np_N := vnm (b.drop (voff t))
/-- the time of links and of the start in answers -/
def zLt (soa : List Int32) (u : Int32) : Int32 := if zr4 (fun j => soa.getD j 0) (soa.length - 4) < 0 then u else if zr4 (fun j => soa.getD j 0) (soa.length - 4) < u then zr4 (fun j => soa.getD j 0) (soa.length - 4) else u
def vlt (V : zVt) (top : np_N) : Int32 := match V top 6 with
  | [] => 0
  | p :: _ => zLt p.2 p.1
/-- a row of an answer: name, type, time, data -/
abbrev aV : Type := np_N × Int32 × Int32 × List Int32
/-- the three sections -/
abbrev zW : Type := List aV × List aV × List aV
def aHas (L : List aV) (x : np_N) (t : Int32) : Prop := ∃ e ∈ L, e.2.1 = t ∧ e.1 = x
/-- the rows of the records of that name and type, told of x -/
def vrw (V : zVt) (x f : np_N) (t : Int32) : List aV := (V f t).map (fun p => (x, t, p.1, p.2))
def w1 (W : zW) (L : List aV) : zW := (W.1 ++ L, W.2.1, W.2.2)
def w2 (W : zW) (L : List aV) : zW := (W.1, W.2.1 ++ L, W.2.2)
def w3 (W : zW) (L : List aV) : zW := (W.1, W.2.1, W.2.2 ++ L)
section VSP
variable (V : zVt) (top : np_N) (sec : Bool)
/-- x's link, for those who ask for proofs -/
noncomputable def vpr (W : zW) (x : np_N) : zW := zif (sec = true ∧ ¬ aHas W.2.1 x 47) (w2 W [(x, 47, vlt V top, vlk V top x)]) W
def vst (W : zW) : zW := w2 W ((V top 6).map (fun p => (top, 6, vlt V top, p.2)))
noncomputable def vad (W : zW) (x : np_N) (t : Int32) : zW := zif (aHas W.2.2 x t ∨ aHas W.1 x t) W (w3 W (vrw V x x t))
noncomputable def vao (W : zW) (x : np_N) : zW := vad V (vad V W x 1) x 28
noncomputable def vrf1 (W : zW) (c : np_N) : zW := if V c 43 = [] then vpr V top sec (w2 W (vrw V c c 2)) c else if sec = true then w2 (w2 W (vrw V c c 2)) (vrw V c c 43) else w2 W (vrw V c c 2)
noncomputable def vrf (W : zW) (c : np_N) : zW := (V c 2).foldl (fun W p => vao V W (vtg 2 p.2)) (vrf1 V top sec W c)
noncomputable def vdn (W : zW) (x f : np_N) : zW := vpr V top sec (vpr V top sec (vst V top W) (vov V top x)) (vov V top f)
/-- the owner of the link at f -/
noncomputable def vat (f : np_N) : np_N := zif (vch V top f) f (vov V top f)
/-- the types of f, rising -/
def isTs (f : np_N) (T : List Nat) : Prop := wso T ∧ ∀ t, t ∈ T ↔ t < 65536 ∧ V f (nI t) ≠ []
noncomputable def vts (f : np_N) : List Nat := zch (isTs V f) []
noncomputable def vtl1 (W : zW) (x f : np_N) (t : Int32) : zW := w1 W (if t = 255 then (vts V f).flatMap (fun u => vrw V x f (nI u)) else vrw V x f t)
noncomputable def vtl (W : zW) (x f : np_N) (t : Int32) : zW :=
  let W1 := vtl1 V W x f t
  let W2 := zif (¬ vD V f ∨ (¬ t = 255 ∧ V f t = [])) (vpr V top sec (vst V top W1) (vat V top f)) W1
  if f = x then W2 else vpr V top sec W2 (vov V top x)
/-- the name under which the question is looked up -/
noncomputable def vfd (x : np_N) : np_N := zif (vth V x) x ([42] :: vcl V x)
noncomputable def vfo (t : Int32) : Nat → zW → np_N → Int32 × zW
  | 0, W, _ => (0, W)
  | n + 1, W, x =>
    zif (¬ top <:+ x) (0, W)
    (match (vco V top x).filter (fun c => decide (¬ (t = 43 ∧ c = x))) with
    | some c => (0, vrf V top sec W c)
    | none =>
      zif (¬ vth V x ∧ ¬ vD V (vfd V x)) (3, vdn V top sec W x (vfd V x))
      (if t = 5 ∨ t = 255 ∨ V (vfd V x) 5 = [] then (0, vtl V top sec W x (vfd V x) t) else
      let W1 := w1 W (vrw V x (vfd V x) 5)
      let W2 := zif (vth V x) W1 (vpr V top sec W1 (vov V top x))
      match V (vfd V x) 5 with
      | [] => (0, W2)
      | p :: _ => vfo t n W2 (vtg 5 p.2)))
/-- the addresses of the names in the answers -/
noncomputable def vam (W : zW) (e : aV) : zW := if (e.2.1 = 2 ∨ e.2.1 = 15 ∨ e.2.1 = 33) ∧ vco V top (vtg e.2.1 e.2.2.2) = none then vao V W (vtg e.2.1 e.2.2.2) else W
noncomputable def vask (t : Int32) (x : np_N) : Int32 × zW := zif (¬ top <:+ x) (5, [], [], []) ((vfo V top sec t 9 ([], [], []) x).1, (vfo V top sec t 9 ([], [], []) x).2.1.foldl (vam V top) (vfo V top sec t 9 ([], [], []) x).2)
end VSP
theorem isTs_un {V : zVt} {f : np_N} {T U : List Nat} (h : isTs V f T) (h2 : isTs V f U) : T = U := pw_un (wso_pw h.1) (wso_pw h2.1) (fun t => by rw [h.2, h2.2])
theorem vts_y {V : zVt} {f : np_N} {T : List Nat} (h : isTs V f T) : vts V f = T := by
  exact isTs_un (zch_s h) h
