/-! THE HEAP AS A MAP: G tells what each of our cells holds; zg_P: the heap holds G, all of it at addresses from base on -/
abbrev zg_G : Type := Nat → Option va_E
def zg_up (G : zg_G) (a : Nat) (e : va_E) : zg_G := fun q => if q = a then some e else G q
def zg_P (D : va_G) (cl : List vw_C) (base : Nat) (G : zg_G) (H : Heap) : Prop := ∀ (a : Nat) (e : va_E), G a = some e → base ≤ a ∧ va_at D cl (a, e) H
def zg_L (G : zg_G) (n : Nat) : va_W := (List.range n).filterMap (fun a => (G a).map (fun e => (a, e)))
abbrev zg_S (base : Nat) (H0 H : Heap) (locs : List Loc) : Prop := va_S (fun q => base ≤ q) H0 H locs
theorem zg_up_self (G : zg_G) (a : Nat) (e : va_E) : zg_up G a e a = some e := by simp [zg_up]
theorem zg_up_ne {G : zg_G} {a q : Nat} {e : va_E} (h : q ≠ a) : zg_up G a e q = G q := by simp [zg_up, h]
theorem zg_L_mem {G : zg_G} {n a : Nat} {e : va_E} : (a, e) ∈ zg_L G n ↔ a < n ∧ G a = some e := by
  unfold zg_L
  rw [List.mem_filterMap]
  constructor
  · rintro ⟨b, hb, h⟩
    rw [List.mem_range] at hb
    cases hg : G b with
    | none => rw [hg] at h; cases h
    | some e' =>
      rw [hg] at h
      cases h
      exact ⟨hb, hg⟩
  · rintro ⟨h1, h2⟩
    exact ⟨a, List.mem_range.mpr h1, by rw [h2]; rfl⟩
theorem zg_L_apart {G : zg_G} {n : Nat} : ∀ (i j : Nat) (p q : Nat × va_E), (zg_L G n)[i]? = some p → (zg_L G n)[j]? = some q → p.1 = q.1 → i = j := by
  have hp : (zg_L G n).Pairwise (fun x y => x.1 < y.1) := by
    unfold zg_L
    refine List.Pairwise.filterMap (R := fun a b : Nat => a < b) _ ?_ List.pairwise_lt_range
    intro a a' haa b hb b' hb'
    cases hga : G a with
    | none => rw [hga] at hb; cases hb
    | some x =>
      cases hgb : G a' with
      | none => rw [hgb] at hb'; cases hb'
      | some y =>
        rw [hga] at hb
        rw [hgb] at hb'
        cases hb
        cases hb'
        exact haa
  have hq := List.pairwise_iff_getElem.mp hp
  intro i j x y hi hj hxy
  obtain ⟨li, ei⟩ := List.getElem?_eq_some_iff.mp hi
  obtain ⟨lj, ej⟩ := List.getElem?_eq_some_iff.mp hj
  rcases Nat.lt_trichotomy i j with h | h | h
  · have := hq i j li lj h
    rw [ei, ej] at this
    omega
  · exact h
  · have := hq j i lj li h
    rw [ei, ej] at this
    omega
section ZGA
variable {D : va_G} {cl : List vw_C} {base : Nat} {G : zg_G} {H : Heap}
theorem zg_P.lt (h : zg_P D cl base G H) {a : Nat} {e : va_E} (ha : G a = some e) : a < H.size := (h a e ha).2.lt
theorem zg_P.toP (h : zg_P D cl base G H) : va_P D cl (zg_L G H.size) H := fun k q hk => (h q.1 q.2 (zg_L_mem.mp (List.mem_of_getElem? hk)).2).2
theorem zg_P.toD (h : zg_P D cl base G H) : va_D (fun q => base ≤ q) (zg_L G H.size) := ⟨zg_L_apart, fun k q hk => (h q.1 q.2 (zg_L_mem.mp (List.mem_of_getElem? hk)).2).1⟩
theorem zg_P.at (h : zg_P D cl base G H) {a : Nat} {e : va_E} (ha : G a = some e) : ∃ k : Nat, (zg_L G H.size)[k]? = some (a, e) := List.getElem?_of_mem (zg_L_mem.mpr ⟨h.lt ha, ha⟩)
theorem zg_P.sub (h : zg_P D cl base G H) {G' : zg_G} (hs : ∀ a e, G' a = some e → G a = some e) : zg_P D cl base G' H := fun a e ha => h a e (hs a e ha)
theorem zg_P.ofSet {H1 : Heap} (h : zg_P D cl base G H) {a k : Nat} {e e' : va_E} (hk : (zg_L G H.size)[k]? = some (a, e)) (h1 : va_P D cl ((zg_L G H.size).set k (a, e')) H1) : zg_P D cl base (zg_up G a e') H1 := by
  have hG : G a = some e := (zg_L_mem.mp (List.mem_of_getElem? hk)).2
  have hl := (List.getElem?_eq_some_iff.mp hk).1
  intro q x hq
  by_cases hqa : q = a
  · subst hqa
    rw [zg_up_self] at hq
    cases hq
    exact ⟨(h q e hG).1, h1 k _ (List.getElem?_set_self hl)⟩
  · rw [zg_up_ne hqa] at hq
    obtain ⟨j, hj⟩ := h.at hq
    refine ⟨(h q x hq).1, h1 j (q, x) ?_⟩
    have hjk : k ≠ j := by
      intro hh
      subst hh
      rw [hk] at hj
      cases hj
      exact hqa rfl
    rw [List.getElem?_set_ne hjk]
    exact hj
theorem zg_P.ofPush {H1 : Heap} (h : zg_P D cl base G H) {q : Nat} {e : va_E} (h1 : va_P D cl (zg_L G H.size ++ [(q, e)]) H1) (h2 : va_D (fun q => base ≤ q) (zg_L G H.size ++ [(q, e)])) : G q = none ∧ zg_P D cl base (zg_up G q e) H1 := by
  have hlast : (zg_L G H.size ++ [(q, e)])[(zg_L G H.size).length]? = some (q, e) := by simp
  have hn : G q = none := by
    cases hg : G q with
    | none => rfl
    | some x =>
      obtain ⟨j, hj⟩ := h.at hg
      have hjl := (List.getElem?_eq_some_iff.mp hj).1
      have := h2.1 j (zg_L G H.size).length (q, x) (q, e) (by rw [List.getElem?_append_left hjl]; exact hj) hlast rfl
      omega
  refine ⟨hn, fun a x ha => ?_⟩
  by_cases hqa : a = q
  · subst hqa
    rw [zg_up_self] at ha
    cases ha
    exact ⟨h2.2 _ _ hlast, h1 _ _ hlast⟩
  · rw [zg_up_ne hqa] at ha
    obtain ⟨j, hj⟩ := h.at ha
    have hjl := (List.getElem?_eq_some_iff.mp hj).1
    exact ⟨(h a x ha).1, h1 j (a, x) (by rw [List.getElem?_append_left hjl]; exact hj)⟩
theorem zg_P.recv {s : State} {tys : List (ClassId × FieldType)} (hK : va_K D cl tys s) (h : zg_P D cl base G H) {a ci : Nat} {q : vw_C} {fs : List Value} (hc : cl[ci]? = some q) (he : G a = some (.inr (ci, fs))) : ∃ cell : Cell, H[a]? = some cell ∧ cell.vm.isStatics = false ∧ s.vm.findClass q.1 = some cell.cls := by
  obtain ⟨k, hk⟩ := h.at he
  exact va_recv hK h.toP hc hk
end ZGA
section ZGW
variable {p : Program} {l : Launch} {e : Env} {R : Room} {s : State} {m : MethodId} {args : Array Value} {below : List Frame} {meth : Method} {c : Code} {H : Heap} {locs : List Loc} {cells slots : Nat} {Q : State → Prop}
variable {cc : ByteArray} {pc : Nat} {ls : Array Slot} {rest : List Value} {D : va_G} {cl : List vw_C} {a base : Nat} {G : zg_G} {tys : List (ClassId × FieldType)} {H0 : Heap}
theorem zg_get (hexec : p.tables.exec = Jvm.exec) (hb : c.code = cc) {own ref C : String} {T : u_T} {N ci index : Nat} {Ts : List Cond} (hts : ∀ w ∈ Ts, w.before args s = true) (hin : ∀ w ∈ u_ws C T N, w ∈ Ts) (hown : s.vm.findClass own = some m.cls) (hK : va_K D cl tys s) (hG : zg_P D cl base G H) {fs : List Value} (he : G a = some (.inr (ci, fs))) (hc : cl[ci]? = some (C, T, N)) (k : Nat) (hk : k < N) (hlink : (Cond.fieldLink own index ref (T k).2.1 (T k).2.2.1).before args s = true) (hsame : ∀ x, s.fieldFound? (T k).1 (T k).2.1 (T k).2.2.1 = some x → s.fieldFound? ref (T k).2.1 (T k).2.2.1 = some x) {v : Value} (hv : fs[k]? = some v) (hdg : decode cc pc = .ok (.getfield index, 3))
    (kk : W p l e R s m args below meth c H locs cells slots Q (F0 m (pc + 3) ls (v :: rest))) : W p l e R s m args below meth c H locs cells slots Q (F0 m pc ls (.ref a :: rest)) := by
  obtain ⟨q0, h0⟩ := hG.at he
  exact va_get hexec hb hts hin hown hK hG.toP q0 h0 hc k hk hlink hsame hv hdg kk
theorem zg_getN (hexec : p.tables.exec = Jvm.exec) (hb : c.code = cc) {own ref C host : String} {T : u_T} {N ci index : Nat} {Ts : List Cond} (hts : ∀ w ∈ Ts, w.before args s = true) (hin : ∀ w ∈ u_ws C T N, w ∈ Ts) (hown : s.vm.findClass own = some m.cls) (hK : va_K D cl tys s) (hG : zg_P D cl base G H) {fs : List Value} (he : G a = some (.inr (ci, fs))) (hc : cl[ci]? = some (C, T, N)) (k : Nat) (hk : k < N) (hlink : (Cond.fieldLinkNest own index ref (T k).2.1 (T k).2.2.1 host).before args s = true) (hsame : ∀ x, s.fieldFound? (T k).1 (T k).2.1 (T k).2.2.1 = some x → s.fieldFound? ref (T k).2.1 (T k).2.2.1 = some x) {v : Value} (hv : fs[k]? = some v) (hdg : decode cc pc = .ok (.getfield index, 3))
    (kk : W p l e R s m args below meth c H locs cells slots Q (F0 m (pc + 3) ls (v :: rest))) : W p l e R s m args below meth c H locs cells slots Q (F0 m pc ls (.ref a :: rest)) := by
  obtain ⟨q0, h0⟩ := hG.at he
  exact va_getN hexec hb hts hin hown hK hG.toP q0 h0 hc k hk hlink hsame hv hdg kk
theorem zg_put (hexec : p.tables.exec = Jvm.exec) (hb : c.code = cc) {own ref C : String} {T : u_T} {N ci index : Nat} {Ts : List Cond} (hts : ∀ w ∈ Ts, w.before args s = true) (hin : ∀ w ∈ u_ws C T N, w ∈ Ts) (ty0 : Nat → FieldType) (hty : ∀ k, k < N → parseFieldDescriptor (T k).2.2.1 = some (ty0 k)) (hnm : ∀ a, a < N → ∀ b, b < N → a ≠ b → (T a).2.1 ≠ (T b).2.1) (hown : s.vm.findClass own = some m.cls) (hK : va_K D cl tys s) (hG : zg_P D cl base G H) (hS : zg_S base H0 H locs) {fs : List Value} (he : G a = some (.inr (ci, fs))) (hc : cl[ci]? = some (C, T, N)) (k : Nat) (hk : k < N) (hlink : (Cond.fieldLink own index ref (T k).2.1 (T k).2.2.1).before args s = true) (hsame : ∀ x, s.fieldFound? (T k).1 (T k).2.1 (T k).2.2.1 = some x → s.fieldFound? ref (T k).2.1 (T k).2.2.1 = some x) (hfin : (T k).2.2.2 = false) {ty : FieldType} {v : Value} (hd : parseFieldDescriptor (T k).2.2.1 = some ty) (hn : narrow ty v = v) (hfit : fits ty v = true) (hl : k < fs.length)
    (hdg : decode cc pc = .ok (.putfield index, 3)) (kk : ∀ (H1 : Heap) (locs1 : List Loc), zg_P D cl base (zg_up G a (.inr (ci, fs.set k v))) H1 → zg_S base H0 H1 locs1 → W p l e R s m args below meth c H1 locs1 cells slots Q (F0 m (pc + 3) ls rest)) : W p l e R s m args below meth c H locs cells slots Q (F0 m pc ls (v :: .ref a :: rest)) := by
  obtain ⟨q0, h0⟩ := hG.at he
  exact va_put hexec hb hts hin ty0 hty hnm hown hK hG.toP hG.toD hS q0 h0 hc k hk hlink hsame hfin hd hn hfit hl hdg (fun H1 locs1 h1 _ h3 => kk H1 locs1 (hG.ofSet h0 h1) h3)
theorem zg_putN (hexec : p.tables.exec = Jvm.exec) (hb : c.code = cc) {own ref C host : String} {T : u_T} {N ci index : Nat} {Ts : List Cond} (hts : ∀ w ∈ Ts, w.before args s = true) (hin : ∀ w ∈ u_ws C T N, w ∈ Ts) (ty0 : Nat → FieldType) (hty : ∀ k, k < N → parseFieldDescriptor (T k).2.2.1 = some (ty0 k)) (hnm : ∀ a, a < N → ∀ b, b < N → a ≠ b → (T a).2.1 ≠ (T b).2.1) (hown : s.vm.findClass own = some m.cls) (hK : va_K D cl tys s) (hG : zg_P D cl base G H) (hS : zg_S base H0 H locs) {fs : List Value} (he : G a = some (.inr (ci, fs))) (hc : cl[ci]? = some (C, T, N)) (k : Nat) (hk : k < N) (hlink : (Cond.fieldLinkNest own index ref (T k).2.1 (T k).2.2.1 host).before args s = true) (hsame : ∀ x, s.fieldFound? (T k).1 (T k).2.1 (T k).2.2.1 = some x → s.fieldFound? ref (T k).2.1 (T k).2.2.1 = some x) (hfin : (T k).2.2.2 = false) {ty : FieldType} {v : Value} (hd : parseFieldDescriptor (T k).2.2.1 = some ty) (hn : narrow ty v = v) (hfit : fits ty v = true) (hl : k < fs.length)
    (hdg : decode cc pc = .ok (.putfield index, 3)) (kk : ∀ (H1 : Heap) (locs1 : List Loc), zg_P D cl base (zg_up G a (.inr (ci, fs.set k v))) H1 → zg_S base H0 H1 locs1 → W p l e R s m args below meth c H1 locs1 cells slots Q (F0 m (pc + 3) ls rest)) : W p l e R s m args below meth c H locs cells slots Q (F0 m pc ls (v :: .ref a :: rest)) := by
  obtain ⟨q0, h0⟩ := hG.at he
  exact va_putN hexec hb hts hin ty0 hty hnm hown hK hG.toP hG.toD hS q0 h0 hc k hk hlink hsame hfin hd hn hfit hl hdg (fun H1 locs1 h1 _ h3 => kk H1 locs1 (hG.ofSet h0 h1) h3)
theorem zg_putF (hexec : p.tables.exec = Jvm.exec) (hb : c.code = cc) {own ref C : String} {T : u_T} {N ci index : Nat} {Ts : List Cond} (hts : ∀ w ∈ Ts, w.before args s = true) (hin : ∀ w ∈ u_ws C T N, w ∈ Ts) (ty0 : Nat → FieldType) (hty : ∀ k, k < N → parseFieldDescriptor (T k).2.2.1 = some (ty0 k)) (hnm : ∀ a, a < N → ∀ b, b < N → a ≠ b → (T a).2.1 ≠ (T b).2.1) (hown : s.vm.findClass own = some m.cls) (hK : va_K D cl tys s) (hG : zg_P D cl base G H) (hS : zg_S base H0 H locs) {fs : List Value} (he : G a = some (.inr (ci, fs))) (hc : cl[ci]? = some (C, T, N)) (k : Nat) (hk : k < N) (hlink : (Cond.fieldLink own index ref (T k).2.1 (T k).2.2.1).before args s = true) (hsame : ∀ x, s.fieldFound? (T k).1 (T k).2.1 (T k).2.2.1 = some x → s.fieldFound? ref (T k).2.1 (T k).2.2.1 = some x) (hfin : (T k).2.2.2 = true) (hin2 : meth.name = "<init>") (hdecl : (T k).1 = own) {ty : FieldType} {v : Value} (hd : parseFieldDescriptor (T k).2.2.1 = some ty) (hn : narrow ty v = v) (hfit : fits ty v = true) (hl : k < fs.length)
    (hdg : decode cc pc = .ok (.putfield index, 3)) (kk : ∀ (H1 : Heap) (locs1 : List Loc), zg_P D cl base (zg_up G a (.inr (ci, fs.set k v))) H1 → zg_S base H0 H1 locs1 → W p l e R s m args below meth c H1 locs1 cells slots Q (F0 m (pc + 3) ls rest)) : W p l e R s m args below meth c H locs cells slots Q (F0 m pc ls (v :: .ref a :: rest)) := by
  obtain ⟨q0, h0⟩ := hG.at he
  exact va_putF hexec hb hts hin ty0 hty hnm hown hK hG.toP hG.toD hS q0 h0 hc k hk hlink hsame hfin hin2 hdecl hd hn hfit hl hdg (fun H1 locs1 h1 _ h3 => kk H1 locs1 (hG.ofSet h0 h1) h3)
theorem zg_new {c0 : Code} (hexec : p.tables.exec = Jvm.exec) (hb : c0.code = cc) {own C : String} {T : u_T} {N ci index : Nat} {Ts : List Cond} (hts : ∀ w ∈ Ts, w.before args s = true) (hin : ∀ w ∈ u_ws C T N, w ∈ Ts) (ty : Nat → FieldType) (hty : ∀ k, k < N → parseFieldDescriptor (T k).2.2.1 = some (ty k)) (hown : s.vm.findClass own = some m.cls) (hcl : (Cond.classLink own index C).before args s = true) (hinst : (Cond.instantiable C N).before args s = true) (hini : (Cond.initialized C).before args s = true)
    (hK : va_K D cl tys s) (hG : zg_P D cl base G H) (hS : zg_S base H0 H locs) (hA : base ≤ H0.size) (hc : cl[ci]? = some (C, T, N)) {fs : List Value} (hfs : ∀ j, j < N → defaultValue (ty j) = vp_V fs j) (hcells : cells + 1 ≤ R.cells) (hslots : slots + N ≤ R.slots) (hdg : decode cc pc = .ok (.new index, 3))
    (kk : ∀ (q : Nat) (H1 : Heap), G q = none → zg_P D cl base (zg_up G q (.inr (ci, fs))) H1 → zg_S base H0 H1 locs →
      W p l e R s m args below meth c0 H1 locs (cells + 1) (slots + N) Q (F0 m (pc + 3) ls (.ref q :: rest))) : W p l e R s m args below meth c0 H locs cells slots Q (F0 m pc ls rest) :=
  va_new hexec hb hts hin ty hty hown hcl hinst hini hK hG.toP hG.toD hS (fun q h => Nat.le_trans hA h) hc hfs hcells hslots hdg (fun q H1 h1 h2 h3 => by
    obtain ⟨a1, a2⟩ := hG.ofPush h1 h2
    exact kk q H1 a1 a2 h3)
theorem zg_bald (hexec : p.tables.exec = Jvm.exec) (hb : c.code = cc) (hK : va_K D cl tys s) (hG : zg_P D cl base G H) (t0 : Nat) {cA : ClassId} {n : Nat} {f : Nat → Int32} (ha : G a = some (.inl (cA, n, .inl f))) (ht : tys[t0]? = some (cA, .byte)) {i : Int32} (hin : vp_in i n) (hdg : decode cc pc = .ok (.baload, 1))
    (kk : W p l e R s m args below meth c H locs cells slots Q (F0 m (pc + 1) ls (.int (f i.toNatClampNeg) :: rest))) : W p l e R s m args below meth c H locs cells slots Q (F0 m pc ls (.int i :: .ref a :: rest)) := by
  obtain ⟨q0, h0⟩ := hG.at ha
  exact va_bald hexec hb hK hG.toP q0 t0 h0 ht hin hdg kk
theorem zg_iald (hexec : p.tables.exec = Jvm.exec) (hb : c.code = cc) (hK : va_K D cl tys s) (hG : zg_P D cl base G H) (t0 : Nat) {cA : ClassId} {n : Nat} {f : Nat → Int32} (ha : G a = some (.inl (cA, n, .inl f))) (ht : tys[t0]? = some (cA, .int)) {i : Int32} (hin : vp_in i n) (hdg : decode cc pc = .ok (.iaload, 1))
    (kk : W p l e R s m args below meth c H locs cells slots Q (F0 m (pc + 1) ls (.int (f i.toNatClampNeg) :: rest))) : W p l e R s m args below meth c H locs cells slots Q (F0 m pc ls (.int i :: .ref a :: rest)) := by
  obtain ⟨q0, h0⟩ := hG.at ha
  exact va_iald hexec hb hK hG.toP q0 t0 h0 ht hin hdg kk
theorem zg_aldq (hexec : p.tables.exec = Jvm.exec) (hb : c.code = cc) (hK : va_K D cl tys s) (hG : zg_P D cl base G H) (t0 : Nat) {cA : ClassId} {C : String} {n : Nat} {f : Nat → Option Nat} (ha : G a = some (.inl (cA, n, .inr (.inr (.inr (.inr f)))))) (ht : tys[t0]? = some (cA, .object C)) {i : Int32} (hin : vp_in i n) (hdg : decode cc pc = .ok (.aaload, 1))
    (kk : W p l e R s m args below meth c H locs cells slots Q (F0 m (pc + 1) ls (va_rf (f i.toNatClampNeg) :: rest))) : W p l e R s m args below meth c H locs cells slots Q (F0 m pc ls (.int i :: .ref a :: rest)) := by
  obtain ⟨q0, h0⟩ := hG.at ha
  exact va_aldq hexec hb hK hG.toP q0 t0 h0 ht hin hdg kk
theorem zg_alen (hexec : p.tables.exec = Jvm.exec) (hb : c.code = cc) (hK : va_K D cl tys s) (hG : zg_P D cl base G H) (t0 : Nat) {cA : ClassId} {x : vp_A} (ha : G a = some (.inl (cA, x))) {ty : FieldType} (ht : tys[t0]? = some (cA, ty)) {v : Int32} (hv : Int32.ofNat x.1 = v) (hdg : decode cc pc = .ok (.arraylength, 1))
    (kk : W p l e R s m args below meth c H locs cells slots Q (F0 m (pc + 1) ls (.int v :: rest))) : W p l e R s m args below meth c H locs cells slots Q (F0 m pc ls (.ref a :: rest)) := by
  obtain ⟨q0, h0⟩ := hG.at ha
  exact va_alen hexec hb hK hG.toP q0 t0 h0 ht hv hdg kk
theorem zg_bast (hexec : p.tables.exec = Jvm.exec) (hb : c.code = cc) (hK : va_K D cl tys s) (hG : zg_P D cl base G H) (hS : zg_S base H0 H locs) (t0 : Nat) {cA : ClassId} {n : Nat} {f : Nat → Int32} (ha : G a = some (.inl (cA, n, .inl f))) (ht : tys[t0]? = some (cA, .byte)) {i : Int32} {x : Int32} (hin : vp_in i n) (hdg : decode cc pc = .ok (.bastore, 1))
    (kk : ∀ (H1 : Heap) (locs1 : List Loc), zg_P D cl base (zg_up G a (.inl (cA, n, .inl (upd f i.toNatClampNeg (vp_nar .byte x))))) H1 → zg_S base H0 H1 locs1 → W p l e R s m args below meth c H1 locs1 cells slots Q (F0 m (pc + 1) ls rest)) : W p l e R s m args below meth c H locs cells slots Q (F0 m pc ls (.int x :: .int i :: .ref a :: rest)) := by
  obtain ⟨q0, h0⟩ := hG.at ha
  exact va_bast hexec hb hK hG.toP hG.toD hS q0 t0 h0 ht hin hdg (fun H1 locs1 h1 _ h3 => kk H1 locs1 (hG.ofSet h0 h1) h3)
theorem zg_iast (hexec : p.tables.exec = Jvm.exec) (hb : c.code = cc) (hK : va_K D cl tys s) (hG : zg_P D cl base G H) (hS : zg_S base H0 H locs) (t0 : Nat) {cA : ClassId} {n : Nat} {f : Nat → Int32} (ha : G a = some (.inl (cA, n, .inl f))) (ht : tys[t0]? = some (cA, .int)) {i : Int32} {x : Int32} (hin : vp_in i n) (hdg : decode cc pc = .ok (.iastore, 1))
    (kk : ∀ (H1 : Heap) (locs1 : List Loc), zg_P D cl base (zg_up G a (.inl (cA, n, .inl (upd f i.toNatClampNeg x)))) H1 → zg_S base H0 H1 locs1 → W p l e R s m args below meth c H1 locs1 cells slots Q (F0 m (pc + 1) ls rest)) : W p l e R s m args below meth c H locs cells slots Q (F0 m pc ls (.int x :: .int i :: .ref a :: rest)) := by
  obtain ⟨q0, h0⟩ := hG.at ha
  exact va_iast hexec hb hK hG.toP hG.toD hS q0 t0 h0 ht hin hdg (fun H1 locs1 h1 _ h3 => kk H1 locs1 (hG.ofSet h0 h1) h3)
end ZGW
