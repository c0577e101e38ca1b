/-! CONTRACTS OVER THE MAP. E: the classes' numbers, the array classes, the first address that is ours, the addresses of statics -/
abbrev zc_E : Type := va_G × (Nat → ClassId) × Nat × (Nat → Nat)
abbrev zc_b (E : zc_E) : Nat := E.2.2.1
def zt (E : zc_E) : List (ClassId × FieldType) := [(E.2.1 0, .byte), (E.2.1 1, .int), (E.2.1 2, .long), (E.2.1 3, .object "java/lang/Object"), (E.2.1 4, .object "ZoneAnswersModel$Rec"), (E.2.1 5, .array .byte)]
abbrev zP (E : zc_E) (G : zg_G) (H : Heap) : Prop := zg_P E.1 zCl (zc_b E) G H
abbrev zK (E : zc_E) (U : State) : Prop := va_K E.1 zCl (zt E) U
theorem zn_tab {w : Cond} (h : zn_ok w = true) : w.onTables = true := by
  unfold zn_ok at h
  split at h
  · rfl
  · rfl
  · rfl
  · rfl
  · rfl
  · cases h
theorem zn_warm1 {w : Cond} (h : zn_ok w = true) {s U : State} (hW : s.WarmedH U.vm) (hZ : va_Nw w s) : va_Nw w U := by
  unfold zn_ok at h
  split at h
  · exact va_Nw.warmF hW hZ
  · exact va_Nw.warmM hW hZ
  · exact va_Nw.warmC hW hZ
  · exact va_Nw.warmD hW hZ
  · exact va_tabs rfl (rfl : (s.setVm U.vm).vm = U.vm) (by rw [Cond.constantLong_setVm hW.alike]; exact hZ)
  · cases h
def zN (nw : List Cond) (U : State) : Prop := ∀ w ∈ nw, zn_ok w = true ∧ va_Nw w U
theorem zN.warm {nw : List Cond} {s U : State} (hW : s.WarmedH U.vm) (h : zN nw s) : zN nw U := fun w hw => ⟨(h w hw).1, zn_warm1 (h w hw).1 hW (h w hw).2⟩
theorem zN.same {nw : List Cond} {s U : State} (hv : s.vm = U.vm) (h : zN nw s) : zN nw U := fun w hw => ⟨(h w hw).1, va_Nw.same (zn_tab (h w hw).1) hv (h w hw).2⟩
theorem zN.of {nw : List Cond} {s : State} (h : zN nw s) {w : Cond} (hw : w ∈ nw) {A : Array Value} : w.before A s = true := va_Nw.use (zn_tab (h w hw).1) (h w hw).2
theorem zN.at {nw : List Cond} {s : State} (h : zN nw s) {w : Cond} (hw : w ∈ nw) : va_Nw w s := (h w hw).2
/-- a static field of references of the JDK's, and its class's cell -/
def zLS (C n d : String) (A : Nat → Prop) (U : State) (H : Heap) : Prop := ∃ (c : ClassId) (k : Class) (i : Nat) (f : Field) (a : Nat) (cell : Cell) (v : Value), v.isRef = true ∧ U.vm.findClass C = some c ∧ U.fieldFound? C n d = some (c, k, i, f) ∧ f.isStatic = true ∧ k.statics = some a ∧ H[a]? = some cell ∧ cell.vm.isStatics = true ∧ cell.cls = c ∧ f.slot < cell.slots.size ∧ k.staticTypes[f.slot]? = some f.type ∧ cell.slots[f.slot]? = some v ∧ ¬ A a
theorem zLS.moved {C n d : String} {A : Nat → Prop} {u U : State} {H : Heap} (hvm : u.vm.Alike U.vm) (h : zLS C n d A u H) : zLS C n d A U H := by
  obtain ⟨c, k, i, f, a, cell, v, h0, h1, h2, h3, h4, h5, h6, h7, h8, h9, h10⟩ := h
  obtain ⟨k', hi', he⟩ := State.fieldFound?_setVm hvm h2
  exact ⟨c, k', i, f, a, cell, v, h0, by rw [hvm.findClass]; exact h1, hi', h3, by rw [he]; exact h4, h5, h6, h7, h8, by rw [he]; exact h9, h10⟩
theorem zLS.kept {C n d : String} {A : Nat → Prop} {U : State} {H H1 : Heap} (h : zLS C n d A U H) (hq : ∀ a : Nat, a < H.size → ¬ A a → H1[a]? = H[a]?) : zLS C n d A U H1 := by
  obtain ⟨c, k, i, f, a, cell, v, h0, h1, h2, h3, h4, h5, h6, h7, h8, h9, h10, h11⟩ := h
  exact ⟨c, k, i, f, a, cell, v, h0, h1, h2, h3, h4, by rw [hq a (Array.getElem?_eq_some_iff.mp h5).1 h11]; exact h5, h6, h7, h8, h9, h10, h11⟩
/-- exceptions that are none of another's kind -/
def zxp : List (String × String) := [("java/lang/IllegalStateException", "java/lang/IllegalArgumentException"), ("java/lang/UnsupportedOperationException", "java/lang/IllegalArgumentException"), ("java/lang/UnsupportedOperationException", "java/lang/IllegalStateException"), ("java/util/NoSuchElementException", "java/lang/IllegalArgumentException"), ("java/lang/IllegalArgumentException", "java/util/NoSuchElementException"), ("java/lang/IndexOutOfBoundsException", "java/util/NoSuchElementException")]
/-- arrays of rows of bytes -/
def zAA (U : State) : Prop := (Cond.arrayOver (.array .byte)).before #[] U = true
theorem zAA.moved {u U : State} (hvm : u.vm.Alike U.vm) (h : zAA u) : zAA U := by
  obtain ⟨comp, c, k, h1, h2, h3, h4, h5⟩ := arrayOverA_spec h
  obtain ⟨k', hk', he⟩ := hvm.2.2 _ _ h3
  have hi : (U.vm.classes.findIdx? fun (x : Class) => match x.kind with | .array component _ => component == comp | _ => false) = some c := by
    rw [hvm.findIdx?_eq _ (fun _ => rfl)]
    exact h2
  have hkind : k'.kind = .array comp (.array .byte) := by rw [he]; exact h4
  have f1 : U.vm.findClass (FieldType.array .byte).toString = some comp := by rw [hvm.findClass]; exact h1
  have f2 : U.vm.findClass ("[" ++ (FieldType.array .byte).toString) = some c := by rw [hvm.findClass]; exact h5
  unfold zAA Cond.before Cond.holds
  simp only [Cond.value]
  rw [f1, Option.bind_some]
  refine (congrArg (fun o : Option Nat => (o.bind (fun c => (U.vm.classes[c]?).map fun (k : Class) => match k.kind with | .array _ ty => decide (ty = FieldType.array .byte) && decide (U.vm.findClass ("[" ++ (FieldType.array .byte).toString) = some c) | _ => false) == some true)) hi).trans ?_
  simp [hk', hkind, f2]
/-- the empty array that every fresh list has -/
def zQ (E : zc_E) (U : State) (H : Heap) : Prop := va_Z "java/util/ArrayList" "DEFAULTCAPACITY_EMPTY_ELEMENTDATA" "[Ljava/lang/Object;" (.ref (E.2.2.2 0)) (fun q => zc_b E ≤ q) U H ∧ va_T (.object "java/lang/Object") (E.2.2.2 0) 0 (fun _ => .null) (fun q => zc_b E ≤ q) U H ∧ va_Mi "[Ljava/lang/Object;" (E.2.2.2 1) U ∧ va_AO "java/lang/Object" U ∧ va_AO "ZoneAnswersModel$Rec" U ∧ va_Dc U ∧ U.vm.findClass "[B" = some (E.2.1 0) ∧ U.vm.findClass "[I" = some (E.2.1 1) ∧ U.vm.findClass "[Ljava/lang/Object;" = some (E.2.1 3) ∧ zLS "java/lang/Throwable" "UNASSIGNED_STACK" "[Ljava/lang/StackTraceElement;" (fun q => zc_b E ≤ q) U H ∧ zLS "java/lang/Throwable" "SUPPRESSED_SENTINEL" "Ljava/util/List;" (fun q => zc_b E ≤ q) U H ∧ (∀ q ∈ zxp, va_Nc q.1 q.2 U) ∧ zAA U
theorem zQ.go {E : zc_E} {s U : State} {H H1 : Heap} {locs : List Loc} (h : zQ E s H) (hvm : s.vm.Alike U.vm) (hS : zg_S (zc_b E) H H1 locs) : zQ E U H1 := ⟨(h.1.moved hvm).kept hS.2.1, (h.2.1.moved hvm).kept hS.2.1, h.2.2.1.moved hvm, h.2.2.2.1.moved hvm, h.2.2.2.2.1.moved hvm, h.2.2.2.2.2.1.moved hvm, by rw [hvm.findClass]; exact h.2.2.2.2.2.2.1, by rw [hvm.findClass]; exact h.2.2.2.2.2.2.2.1, by rw [hvm.findClass]; exact h.2.2.2.2.2.2.2.2.1, (h.2.2.2.2.2.2.2.2.2.1.moved hvm).kept hS.2.1, (h.2.2.2.2.2.2.2.2.2.2.1.moved hvm).kept hS.2.1, fun q hq => (h.2.2.2.2.2.2.2.2.2.2.2.1 q hq).moved hvm, h.2.2.2.2.2.2.2.2.2.2.2.2.moved hvm⟩
/-- what every method finds: our cells, the tables, the nest's words -/
def zB (E : zc_E) (G : zg_G) (U : State) : Prop := zc_b E ≤ U.heap.size ∧ zP E G U.heap ∧ zK E U ∧ zN zn U ∧ zQ E U U.heap
theorem zB.blind {E : zc_E} {G : zg_G} {av : List Value} : FrameBlind (va_Pc av (zB E G)) := by
  intro a U g mk q
  obtain ⟨q0, q1, qP, qK, qN, qQ⟩ := q
  exact ⟨q0, q1, qP, va_K.moved (u := U) (U := U.calling g mk a) (Vm.Alike.refl U.vm) qK, zN.same (s := U) (U := U.calling g mk a) rfl qN, zQ.go (locs := []) qQ (U := U.calling g mk a) (Vm.Alike.refl U.vm) va_S.rf⟩
/-- the ends of a method -/
abbrev zA (E : zc_E) : Nat → Prop := fun q => zc_b E ≤ q
def zMi (l : Launch) (E : zc_E) (y : MethodName) (cc : ByteArray) (maxL : Nat) (ret : Option FieldType) (rm : Room) (av : List Value) (G : zg_G) (post : Int32 → zg_G → Prop) : Prop :=
  Met l y (zws y cc maxL ret) rm (va_Pc av (zB E G)) (va_Qi post (fun G' t => zP E G' t.heap) (zA E)) rm.cells rm.slots (zA E)
def zMv (l : Launch) (E : zc_E) (y : MethodName) (cc : ByteArray) (maxL : Nat) (rm : Room) (av : List Value) (G : zg_G) (post : zg_G → Prop) : Prop :=
  Met l y (zws y cc maxL none) rm (va_Pc av (zB E G)) (va_Qv post (fun G' t => zP E G' t.heap) (zA E)) rm.cells rm.slots (zA E)
def zMq (l : Launch) (E : zc_E) (y : MethodName) (cc : ByteArray) (maxL : Nat) (ret : Option FieldType) (rm : Room) (av : List Value) (G : zg_G) (post : Option Nat → zg_G → Prop) : Prop :=
  Met l y (zws y cc maxL ret) rm (va_Pc av (zB E G)) (va_Qq post (fun G' t => zP E G' t.heap) (zA E)) rm.cells rm.slots (zA E)
/-- the walk of a body: all that its rows need -/
def zWk (E : zc_E) (y : MethodName) (cc : ByteArray) (maxL : Nat) (ret : Option FieldType) (p : Program) (s : State) (m : MethodId) (args : Array Value) (meth : Method) (c : Code) : Prop :=
  p.tables.exec = Jvm.exec ∧ c.code = cc ∧ meth.sig.returnType = ret ∧ (∀ w ∈ zw, w.before args s = true) ∧ s.vm.findClass y.cls = some m.cls ∧ meth.locks = false ∧ c.maxLocals = maxL ∧ meth.name = y.name ∧ zc_b E ≤ s.heap.size ∧ zK E s ∧ zN zn s ∧ zQ E s s.heap
section ZCO
variable {l : Launch} {E : zc_E} {y : MethodName} {rm : Room} {av : List Value} {G : zg_G} {cc : ByteArray} {maxL : Nat} {ret : Option FieldType}
theorem zMi.of {post : Int32 → zg_G → Prop} (hy : plainName y.cls = true) (hlen : (lg_sl av).length ≤ maxL)
    (body : ∀ (p : Program) (e : Env) (s : State) (m : MethodId) (args : Array Value) (below : List Frame) (meth : Method) (c : Code) (Q : State → Prop), zWk E y cc maxL ret p s m args meth c → zP E G s.heap →
      (∀ (r : Int32) (G' : zg_G) (H : Heap) (locs : List Loc) (cells slots pc : Nat) (ls : Array Slot) (ty : FieldType), meth.sig.returnType = some ty → narrow ty (.int r) = .int r → post r G' → zP E G' H → zg_S (zc_b E) s.heap H locs → cells ≤ rm.cells → slots ≤ rm.slots → decode cc pc = .ok (.ireturn, 1) → W p l e rm s m args below meth c H locs cells slots Q (F0 m pc ls [.int r])) →
      ∀ ls : Array Slot, lv_has ls maxL (lv_args 0 av) → W p l e rm s m args below meth c s.heap [] 0 0 Q (F0 m 0 ls [])) : zMi l E y cc maxL ret rm av G post := by
  refine Met.ofW (cc := cc) (maxL := maxL) (ret := ret) hy rfl ?_
  intro p e s m args below meth c s₁ B hml hv
  obtain ⟨ha, hb0, hP, hK, hN, hQ⟩ := hv
  refine W.eq (g2 := F0 m 0 ((lg_sl av ++ List.replicate (maxL - (lg_sl av).length) Slot.unset).toArray) []) (by rw [ha]; exact lg_entry_eq m av maxL) ?_
  refine body p e s m args below meth c _ ⟨B.exec, B.bytes, B.returns, fun w hw => atoms_spec (ws := zws y cc maxL ret) B.pre w (List.mem_cons_of_mem _ hw), findClass_of_methodNamed B.named, B.notSynchronized, hml, (name_of_methodNamed B.named B.method).1, hb0, hK, hN, hQ⟩ hP ?_ _ (lv_entry av hlen)
  intro r G' H locs cells slots pc ls ty hr hn hp hG hS hc hs hd
  refine W.widen hc hs ?_
  exact W.zret B.exec B.bytes hr hn (fun t ht _ => ⟨⟨r, G', rfl, hp, by show zP E G' t.heap; rw [ht]; exact hG⟩, va_S.F hS ht⟩) hS.2.2 hd B.notSynchronized
theorem zMv.of {post : zg_G → Prop} (hy : plainName y.cls = true) (hlen : (lg_sl av).length ≤ maxL)
    (body : ∀ (p : Program) (e : Env) (s : State) (m : MethodId) (args : Array Value) (below : List Frame) (meth : Method) (c : Code) (Q : State → Prop), zWk E y cc maxL none p s m args meth c → zP E G s.heap →
      (∀ (G' : zg_G) (H : Heap) (locs : List Loc) (cells slots pc : Nat) (ls : Array Slot), post G' → zP E G' H → zg_S (zc_b E) s.heap H locs → cells ≤ rm.cells → slots ≤ rm.slots → decode cc pc = .ok (.return_, 1) → W p l e rm s m args below meth c H locs cells slots Q (F0 m pc ls [])) →
      ∀ ls : Array Slot, lv_has ls maxL (lv_args 0 av) → W p l e rm s m args below meth c s.heap [] 0 0 Q (F0 m 0 ls [])) : zMv l E y cc maxL rm av G post := by
  refine Met.ofW (cc := cc) (maxL := maxL) (ret := none) hy rfl ?_
  intro p e s m args below meth c s₁ B hml hv
  obtain ⟨ha, hb0, hP, hK, hN, hQ⟩ := hv
  refine W.eq (g2 := F0 m 0 ((lg_sl av ++ List.replicate (maxL - (lg_sl av).length) Slot.unset).toArray) []) (by rw [ha]; exact lg_entry_eq m av maxL) ?_
  refine body p e s m args below meth c _ ⟨B.exec, B.bytes, B.returns, fun w hw => atoms_spec (ws := zws y cc maxL none) B.pre w (List.mem_cons_of_mem _ hw), findClass_of_methodNamed B.named, B.notSynchronized, hml, (name_of_methodNamed B.named B.method).1, hb0, hK, hN, hQ⟩ hP ?_ _ (lv_entry av hlen)
  intro G' H locs cells slots pc ls hp hG hS hc hs hd
  refine W.widen hc hs ?_
  exact W.vret B.exec B.bytes B.returns (fun t ht _ => ⟨⟨G', rfl, hp, by show zP E G' t.heap; rw [ht]; exact hG⟩, va_S.F hS ht⟩) hS.2.2 hd B.notSynchronized
theorem zMq.of {post : Option Nat → zg_G → Prop} (hy : plainName y.cls = true) (hlen : (lg_sl av).length ≤ maxL)
    (body : ∀ (p : Program) (e : Env) (s : State) (m : MethodId) (args : Array Value) (below : List Frame) (meth : Method) (c : Code) (Q : State → Prop), zWk E y cc maxL ret p s m args meth c → zP E G s.heap →
      (∀ (r : Option Nat) (G' : zg_G) (H : Heap) (locs : List Loc) (cells slots pc : Nat) (ls : Array Slot) (ty : FieldType), meth.sig.returnType = some ty → ((∃ n, ty = .object n) ∨ ∃ t, ty = .array t) → post r G' → zP E G' H → zg_S (zc_b E) s.heap H locs → cells ≤ rm.cells → slots ≤ rm.slots → decode cc pc = .ok (.areturn, 1) → W p l e rm s m args below meth c H locs cells slots Q (F0 m pc ls [va_rf r])) →
      ∀ ls : Array Slot, lv_has ls maxL (lv_args 0 av) → W p l e rm s m args below meth c s.heap [] 0 0 Q (F0 m 0 ls [])) : zMq l E y cc maxL ret rm av G post := by
  refine Met.ofW (cc := cc) (maxL := maxL) (ret := ret) hy rfl ?_
  intro p e s m args below meth c s₁ B hml hv
  obtain ⟨ha, hb0, hP, hK, hN, hQ⟩ := hv
  refine W.eq (g2 := F0 m 0 ((lg_sl av ++ List.replicate (maxL - (lg_sl av).length) Slot.unset).toArray) []) (by rw [ha]; exact lg_entry_eq m av maxL) ?_
  refine body p e s m args below meth c _ ⟨B.exec, B.bytes, B.returns, fun w hw => atoms_spec (ws := zws y cc maxL ret) B.pre w (List.mem_cons_of_mem _ hw), findClass_of_methodNamed B.named, B.notSynchronized, hml, (name_of_methodNamed B.named B.method).1, hb0, hK, hN, hQ⟩ hP ?_ _ (lv_entry av hlen)
  intro r G' H locs cells slots pc ls ty hr hn hp hG hS hc hs hd
  refine W.widen hc hs ?_
  exact W.aret B.exec B.bytes hr hn (by cases r with | none => exact Or.inl rfl | some a => exact Or.inr ⟨a, rfl⟩) (fun t ht _ => ⟨⟨r, G', rfl, hp, by show zP E G' t.heap; rw [ht]; exact hG⟩, va_S.F hS ht⟩) hS.2.2 hd B.notSynchronized
end ZCO
section ZCC
variable {p : Program} {l : Launch} {e : Env} {R : Room} {s : State} {m : MethodId} {args : Array Value} {below : List Frame} {meth : Method} {c : Code} {H : Heap} {locs : List Loc} {cells slots : Nat} {Q : State → Prop}
variable {pc : Nat} {ls : Array Slot} {rest st0 As av : List Value} {E : zc_E} {G : zg_G} {a : Array Value} {mc ms : Nat}
theorem zc_pre (hb : zc_b E ≤ s.heap.size) (hK : zK E s) (hN : zN zn s) (hQ : zQ E s s.heap) (hG : zP E G H) (hS : zg_S (zc_b E) s.heap H locs) : PreS s H (va_Pc av (zB E G)) av :=
  ⟨zB.blind, fun U hU hW => ⟨rfl, by rw [hU]; exact Nat.le_trans hb hS.1, by rw [hU]; exact hG, va_K.moved hW.alike hK, hN.warm hW, by rw [hU]; exact hQ.go hW.alike hS⟩⟩
theorem zc_preV (hb : zc_b E ≤ s.heap.size) (hK : zK E s) (hN : zN zn s) (hQ : zQ E s s.heap) (hG : zP E G H) (hS : zg_S (zc_b E) s.heap H locs) {b ci : Nat} {q : vw_C} {fs : List Value} (he : G b = some (.inr (ci, fs))) (hc : zCl[ci]? = some q) : PreV s H q.1 b (va_Pc (.ref b :: As) (zB E G)) As :=
  ⟨zB.blind, zg_P.recv hK hG hc he, (zc_pre (av := .ref b :: As) hb hK hN hQ hG hS).2⟩
theorem zk_i {post : Int32 → zg_G → Prop} (hr : va_Run p l e R s m args below meth c H locs cells slots mc ms (F0 m pc ls st0) rest (va_Qi post (fun G' t => zP E G' t.heap) (zA E) a) (zA E)) (hS : zg_S (zc_b E) s.heap H locs)
    (kk : ∀ (r : Int32) (G' : zg_G) (H1 : Heap) (locs1 : List Loc), post r G' → zP E G' H1 → zg_S (zc_b E) s.heap H1 locs1 → W p l e R s m args below meth c H1 locs1 (cells + mc) (slots + ms) Q (F0 m (pc + 3) ls (.int r :: rest))) : W p l e R s m args below meth c H locs cells slots Q (F0 m pc ls st0) :=
  va_calli hr hS (fun _ _ h => h) (fun _ h => h) (fun r G' t H1 locs1 ht _ hp hB _ _ hS1 => kk r G' H1 locs1 hp (by rw [← ht]; exact hB) hS1)
theorem zk_v {post : zg_G → Prop} (hr : va_Run p l e R s m args below meth c H locs cells slots mc ms (F0 m pc ls st0) rest (va_Qv post (fun G' t => zP E G' t.heap) (zA E) a) (zA E)) (hS : zg_S (zc_b E) s.heap H locs)
    (kk : ∀ (G' : zg_G) (H1 : Heap) (locs1 : List Loc), post G' → zP E G' H1 → zg_S (zc_b E) s.heap H1 locs1 → W p l e R s m args below meth c H1 locs1 (cells + mc) (slots + ms) Q (F0 m (pc + 3) ls rest)) : W p l e R s m args below meth c H locs cells slots Q (F0 m pc ls st0) :=
  va_callv hr hS (fun _ _ h => h) (fun _ h => h) (fun G' t H1 locs1 ht _ hp hB _ _ hS1 => kk G' H1 locs1 hp (by rw [← ht]; exact hB) hS1)
theorem zk_q {post : Option Nat → zg_G → Prop} (hr : va_Run p l e R s m args below meth c H locs cells slots mc ms (F0 m pc ls st0) rest (va_Qq post (fun G' t => zP E G' t.heap) (zA E) a) (zA E)) (hS : zg_S (zc_b E) s.heap H locs)
    (kk : ∀ (r : Option Nat) (G' : zg_G) (H1 : Heap) (locs1 : List Loc), post r G' → zP E G' H1 → zg_S (zc_b E) s.heap H1 locs1 → W p l e R s m args below meth c H1 locs1 (cells + mc) (slots + ms) Q (F0 m (pc + 3) ls (va_rf r :: rest))) : W p l e R s m args below meth c H locs cells slots Q (F0 m pc ls st0) :=
  va_callq hr hS (fun _ _ h => h) (fun _ h => h) (fun r G' t H1 locs1 ht _ hp hB _ _ hS1 => kk r G' H1 locs1 hp (by rw [← ht]; exact hB) hS1)
end ZCC
section ZCW
variable {R : Room} {s : State} {args : Array Value} {own C : String} {idx : Nat} {y : MethodName} {cc : ByteArray} {maxL : Nat} {ret : Option FieldType} {rm : Room}
theorem zcS (n : Nat) (ht : ∀ w ∈ zw, w.before args s = true) (h1 : Cond.methodLink own idx y ∈ zw) (h2 : Cond.static y ∈ zw) (h3 : Cond.initialized y.cls ∈ zw) (h4 : Cond.code y cc maxL ret ∈ zw)
    (hd : y.cls ≠ "java/lang/invoke/MethodHandle" ∧ y.cls ≠ "java/lang/invoke/VarHandle" ∧ (parseMethodDescriptor y.desc).map (fun d => d.parameters.length) = some n) (hR : rm.frames + 1 ≤ R.frames ∧ 8 + (maxL + 11) + rm.locals ≤ R.locals) :
    CallB R s args own idx y cc maxL ret (zws y cc maxL ret) rm rm.cells rm.slots n ∧ (Cond.static y).before args s = true :=
  ⟨callB_of n ht (zw_good h4) rfl rfl rfl (ht _ h3) (ht _ h1) hd hR, ht _ h2⟩
theorem zcV (n : Nat) (ht : ∀ w ∈ zw, w.before args s = true) (h1 : Cond.methodLink own idx y ∈ zw) (h2 : Cond.instanceMethod y ∈ zw) (h3 : Cond.selects C y y ∈ zw) (h5 : Cond.initialized y.cls ∈ zw) (h4 : Cond.code y cc maxL ret ∈ zw)
    (hd : y.cls ≠ "java/lang/invoke/MethodHandle" ∧ y.cls ≠ "java/lang/invoke/VarHandle" ∧ (parseMethodDescriptor y.desc).map (fun d => d.parameters.length) = some n) (hR : rm.frames + 1 ≤ R.frames ∧ 8 + (maxL + 11) + rm.locals ≤ R.locals) :
    CallW R s args own C idx y cc maxL ret (zws y cc maxL ret) rm rm.cells rm.slots n :=
  ⟨callB_of n ht (zw_good h4) rfl rfl rfl (ht _ h5) (ht _ h1) hd hR, ht _ h2, ht _ h3⟩
theorem zcI (n : Nat) (ht : ∀ w ∈ zw, w.before args s = true) (h1 : Cond.methodLink own idx y ∈ zw) (h2 : Cond.instanceMethod y ∈ zw) (h5 : Cond.initialized y.cls ∈ zw) (h4 : Cond.code y cc maxL none ∈ zw) (hi : y.name = "<init>")
    (hd : y.cls ≠ "java/lang/invoke/MethodHandle" ∧ y.cls ≠ "java/lang/invoke/VarHandle" ∧ (parseMethodDescriptor y.desc).map (fun d => d.parameters.length) = some n) (hR : rm.frames + 1 ≤ R.frames ∧ 8 + (maxL + 11) + rm.locals ≤ R.locals) :
    CallB R s args own idx y cc maxL none (zws y cc maxL none) rm rm.cells rm.slots n ∧ y.name = "<init>" ∧ (Cond.instanceMethod y).before args s = true :=
  ⟨callB_of n ht (zw_good h4) rfl rfl rfl (ht _ h5) (ht _ h1) hd hR, hi, ht _ h2⟩
end ZCW
section ZCA
variable {p : Program} {l : Launch} {e : Env} {R : Room} {s : State} {m : MethodId} {args : Array Value} {below : List Frame} {meth : Method} {c : Code} {H : Heap} {locs : List Loc} {cells slots : Nat} {Q : State → Prop} {pc : Nat} {ls : Array Slot} {rest : List Value}
theorem zi_as {x y : Int32} (h : x = y) (k : W p l e R s m args below meth c H locs cells slots Q (F0 m pc ls (.int y :: rest))) : W p l e R s m args below meth c H locs cells slots Q (F0 m pc ls (.int x :: rest)) := h ▸ k
end ZCA
theorem zg_ne {G : zg_G} {a b : Nat} {x y : va_E} (ha : G a = some x) (hb : G b = some y) (h : x ≠ y) : a ≠ b := fun e => h (Option.some.inj (ha.symm.trans ((congrArg G e).trans hb)))
theorem zg_up_up (G : zg_G) (a : Nat) (x y : va_E) : zg_up (zg_up G a x) a y = zg_up G a y := by
  funext q
  unfold zg_up
  by_cases h : q = a
  · rw [if_pos h, if_pos h]
  · rw [if_neg h, if_neg h, if_neg h]
theorem zg_fr {G : zg_G} {q b : Nat} {x : va_E} (hq : G q = none) (hb : G b = some x) : b ≠ q := fun e => by rw [e, hq] at hb; cases hb
/-- only what lies in S may differ, and what is new -/
def zx (S : Nat → Prop) (G G2 : zg_G) : Prop := ∀ a x, ¬ S a → G a = some x → G2 a = some x
def z0 : Nat → Prop := fun _ => False
theorem zx.rf {S : Nat → Prop} {G : zg_G} : zx S G G := fun _ _ _ h => h
theorem zx.tr {S : Nat → Prop} {G G1 G2 : zg_G} (h1 : zx S G G1) (h2 : zx S G1 G2) : zx S G G2 := fun a x hs h => h2 a x hs (h1 a x hs h)
theorem zx.up {S : Nat → Prop} {G : zg_G} {a : Nat} {e : va_E} (h : S a) : zx S G (zg_up G a e) := fun b x hs hb => by rw [zg_up_ne (show b ≠ a from fun q => hs (by rw [q]; exact h))]; exact hb
theorem zx.nw {S : Nat → Prop} {G : zg_G} {a : Nat} {e : va_E} (h : G a = none) : zx S G (zg_up G a e) := fun b x _ hb => by rw [zg_up_ne (zg_fr h hb)]; exact hb
theorem zx.o {G G2 : zg_G} (h : zx z0 G G2) {a : Nat} {x : va_E} (ha : G a = some x) : G2 a = some x := h a x (fun q => q) ha
theorem zx.w {S S' : Nat → Prop} {G G2 : zg_G} (h : zx S G G2) (hs : ∀ a, S a → S' a) : zx S' G G2 := fun a x q ha => h a x (fun z => q (hs a z)) ha
theorem zg_up_same {G : zg_G} {a : Nat} {x : va_E} (h : G a = some x) : zg_up G a x = G := by
  funext q
  unfold zg_up
  by_cases hq : q = a
  · rw [if_pos hq, hq, h]
  · rw [if_neg hq]
/-- an element of a list: an object of one of four classes -/
def zel (G : zg_G) (y : Nat) : Prop := ∃ (ci : Nat) (fs : List Value), G y = some (.inr (ci, fs)) ∧ (ci = 2 ∨ ci = 4 ∨ ci = 5 ∨ ci = 8)
theorem zel.any {E : zc_E} {G : zg_G} {s : State} {H : Heap} {y : Nat} (h : zel G y) (hK : zK E s) (hN : zN zn s) (hG : zP E G H) : va_Any "java/lang/Object" s H y := by
  obtain ⟨ci, fs, h1, h2⟩ := h
  obtain ⟨k, hk⟩ := hG.at h1
  rcases h2 with rfl | rfl | rfl | rfl
  · exact va_rAny hK hG.toP hk (r := ("ZoneAnswers$Datum", T_Da, 2)) rfl (vb_asgC (zN.at hN (w := .castable "ZoneAnswers$Datum" "java/lang/Object") (by decide +kernel)))
  · exact va_rAny hK hG.toP hk (r := ("ZoneAnswers$Owner", T_Ow, 3)) rfl (vb_asgC (zN.at hN (w := .castable "ZoneAnswers$Owner" "java/lang/Object") (by decide +kernel)))
  · exact va_rAny hK hG.toP hk (r := ("ZoneAnswers$Rrset", T_Rr, 3)) rfl (vb_asgC (zN.at hN (w := .castable "ZoneAnswers$Rrset" "java/lang/Object") (by decide +kernel)))
  · exact va_rAny hK hG.toP hk (r := ("ZoneAnswers$Told", T_To, 4)) rfl (vb_asgC (zN.at hN (w := .castable "ZoneAnswers$Told" "java/lang/Object") (by decide +kernel)))
theorem zel.x {G G2 : zg_G} {y : Nat} (h : zel G y) (hx : zx z0 G G2) : zel G2 y := by
  obtain ⟨ci, fs, h1, h2⟩ := h
  exact ⟨ci, fs, hx.o h1, h2⟩
theorem zx.upn {S : Nat → Prop} {G G1 : zg_G} {q : Nat} {e : va_E} (h : zx S G G1) (hq : G q = none) : zx S G (zg_up G1 q e) := fun b x hs hb => by rw [zg_up_ne (zg_fr hq hb)]; exact h b x hs hb
theorem zx.fr {S : Nat → Prop} {G G1 : zg_G} {q : Nat} (h : zx S G G1) (hq : G1 q = none) (hs : S q → False) : G q = none := by
  cases hg : G q with
  | none => rfl
  | some x => rw [h q x (fun z => hs z) hg] at hq; cases hq
theorem zMet.imp {l : Launch} {y : MethodName} {ws : List Cond} {rm : Room} {Pc : Array Value → State → Prop} {Q1 Q2 : Array Value → State → Outcome → State → Prop} {mc ms : Nat} {free : Addr → Prop} (h : Met l y ws rm Pc Q1 mc ms free) (hq : ∀ a s o t, Q1 a s o t → Q2 a s o t) : Met l y ws rm Pc Q2 mc ms free := by
  intro p e ha hc hk s m args below hf happ hP hK
  obtain ⟨n, o, h1, h2, h3, h4, h5⟩ := h p e ha hc hk s m args below hf happ hP hK
  exact ⟨n, o, h1, h2, h3, hq _ _ _ _ h4, h5⟩
theorem zMi.imp {l : Launch} {E : zc_E} {y : MethodName} {cc : ByteArray} {maxL : Nat} {ret : Option FieldType} {rm : Room} {av : List Value} {G : zg_G} {p1 p2 : Int32 → zg_G → Prop} (h : zMi l E y cc maxL ret rm av G p1) (hp : ∀ r G', p1 r G' → p2 r G') : zMi l E y cc maxL ret rm av G p2 :=
  zMet.imp h (fun _ _ _ _ ⟨⟨r, u, h1, h2, h3⟩, h4⟩ => ⟨⟨r, u, h1, hp _ _ h2, h3⟩, h4⟩)
theorem zMv.imp {l : Launch} {E : zc_E} {y : MethodName} {cc : ByteArray} {maxL : Nat} {rm : Room} {av : List Value} {G : zg_G} {p1 p2 : zg_G → Prop} (h : zMv l E y cc maxL rm av G p1) (hp : ∀ G', p1 G' → p2 G') : zMv l E y cc maxL rm av G p2 :=
  zMet.imp h (fun _ _ _ _ ⟨⟨u, h1, h2, h3⟩, h4⟩ => ⟨⟨u, h1, hp _ h2, h3⟩, h4⟩)
theorem zMq.imp {l : Launch} {E : zc_E} {y : MethodName} {cc : ByteArray} {maxL : Nat} {ret : Option FieldType} {rm : Room} {av : List Value} {G : zg_G} {p1 p2 : Option Nat → zg_G → Prop} (h : zMq l E y cc maxL ret rm av G p1) (hp : ∀ r G', p1 r G' → p2 r G') : zMq l E y cc maxL ret rm av G p2 :=
  zMet.imp h (fun _ _ _ _ ⟨⟨r, u, h1, h2, h3⟩, h4⟩ => ⟨⟨r, u, h1, hp _ _ h2, h3⟩, h4⟩)
/-- a list at a, its row of cells at dd, with the elements xs -/
def zL (E : zc_E) (G : zg_G) (a dd : Nat) (xs : List Nat) : Prop := (∃ k : Int32, G a = some (.inr (0, [.ref dd, .int (nI xs.length), .int k]))) ∧ ((dd = E.2.2.2 0 ∧ xs = []) ∨ ∃ (cap : Nat) (f : Nat → Option Nat), G dd = some (.inl (E.2.1 3, cap, .inr (.inr (.inr (.inr f))))) ∧ 0 < cap ∧ xs.length ≤ cap ∧ cap ≤ 4001 ∧ ∀ j, f j = xs[j]?)
theorem zQ.out {E : zc_E} {G : zg_G} {s : State} {H H1 : Heap} (hQ : zQ E s H) (hG : zP E G H1) : G (E.2.2.2 0) = none := by
  cases h : G (E.2.2.2 0) with
  | none => rfl
  | some e => exact absurd (hG _ _ h).1 hQ.2.1.out
theorem zel.keep {G G2 : zg_G} {a dd y : Nat} {fs : List Value} (h : zel G y) (hx : zx (fun q => q = a ∨ q = dd) G G2) (ha : G a = some (.inr (0, fs))) (hd : ∀ ci gs, G dd ≠ some (.inr (ci, gs))) : zel G2 y := by
  obtain ⟨ci, gs, h1, h2⟩ := h
  refine ⟨ci, gs, hx y _ ?_ h1, h2⟩
  rintro (rfl | rfl)
  · rw [ha] at h1
    cases h1
    omega
  · exact hd _ _ h1
theorem zL.nd {E : zc_E} {G : zg_G} {a dd : Nat} {xs : List Nat} {s : State} {H H1 : Heap} (h : zL E G a dd xs) (hQ : zQ E s H) (hG : zP E G H1) : ∀ ci gs, G dd ≠ some (.inr (ci, gs)) := by
  intro ci gs hh
  rcases h.2 with ⟨rfl, -⟩ | ⟨cap, f, hd, -⟩
  · rw [hQ.out hG] at hh; cases hh
  · rw [hd] at hh; cases hh
theorem zel.keepL {E : zc_E} {G G2 : zg_G} {a dd y : Nat} {xs : List Nat} {s : State} {H H1 : Heap} (hy : zel G y) (hL : zL E G a dd xs) (hQ : zQ E s H) (hG : zP E G H1) (hx : zx (fun q => q = a ∨ q = dd) G G2) : zel G2 y := by
  obtain ⟨⟨k, ha⟩, -⟩ := id hL
  exact hy.keep hx ha (hL.nd hQ hG)
theorem zL.d3 {G G1 : zg_G} {a dd dd2 : Nat} {x : va_E} (h : dd2 = dd ∨ G1 dd2 = none) (hx : zx (fun q => q = a ∨ q = dd) G G1) (ha : G1 a = some x) : dd2 = dd ∨ G dd2 = none := by
  by_cases e : dd2 = dd
  · exact Or.inl e
  · rcases h with h | h
    · exact absurd h e
    · refine Or.inr (zx.fr hx h ?_)
      rintro (z | z)
      · rw [z, ha] at h; cases h
      · exact e z
