/-! LONGS, AND THE LAW'S OWN STATIC METHODS (they have handlers) -/
section ZLG
variable {p : Program} {l : Launch} {e : Env} {R : Room} {s : State} {m : MethodId} {args : Array Value} {below : List Frame} {meth : Method} {c : Code} {H : Heap} {locs : List Loc} {cells slots : Nat} {Q : State → Prop}
variable {cc : ByteArray} {pc : Nat} {ls : Array Slot} {rest : List Value} {D : va_G} {cl : List vw_C} {a base : Nat} {G : zg_G} {tys : List (ClassId × FieldType)} {H0 : Heap}
theorem zg_lald (hexec : p.tables.exec = Jvm.exec) (hb : c.code = cc) (hK : va_K D cl tys s) (hG : zg_P D cl base G H) (t0 : Nat) {cA : ClassId} {n : Nat} {f : Nat → Int64} (ha : G a = some (.inl (cA, n, .inr (.inl f)))) (ht : tys[t0]? = some (cA, .long)) {i : Int32} (hin : vp_in i n) (hdg : decode cc pc = .ok (.laload, 1))
    (kk : W p l e R s m args below meth c H locs cells slots Q (F0 m (pc + 1) ls (.long (f i.toNatClampNeg) :: rest))) : W p l e R s m args below meth c H locs cells slots Q (F0 m pc ls (.int i :: .ref a :: rest)) := by
  obtain ⟨q0, h0⟩ := hG.at ha
  exact va_lald hexec hb hK hG.toP q0 t0 h0 ht hin hdg kk
theorem zg_last (hexec : p.tables.exec = Jvm.exec) (hb : c.code = cc) (hK : va_K D cl tys s) (hG : zg_P D cl base G H) (hS : zg_S base H0 H locs) (t0 : Nat) {cA : ClassId} {n : Nat} {f : Nat → Int64} (ha : G a = some (.inl (cA, n, .inr (.inl f)))) (ht : tys[t0]? = some (cA, .long)) {i : Int32} {x : Int64} (hin : vp_in i n) (hdg : decode cc pc = .ok (.lastore, 1))
    (kk : ∀ (H1 : Heap) (locs1 : List Loc), zg_P D cl base (zg_up G a (.inl (cA, n, .inr (.inl (vp_updL f i.toNatClampNeg x))))) H1 → zg_S base H0 H1 locs1 → W p l e R s m args below meth c H1 locs1 cells slots Q (F0 m (pc + 1) ls rest)) : W p l e R s m args below meth c H locs cells slots Q (F0 m pc ls (.long x :: .int i :: .ref a :: rest)) := by
  obtain ⟨q0, h0⟩ := hG.at ha
  exact va_last hexec hb hK hG.toP hG.toD hS q0 t0 h0 ht hin hdg (fun H1 locs1 h1 _ h3 => kk H1 locs1 (hG.ofSet h0 h1) h3)
end ZLG
section ZLC
variable {p : Program} {l : Launch} {e : Env} {R : Room} {s : State} {m : MethodId} {args : Array Value} {below : List Frame} {meth : Method} {c : Code} {H : Heap} {locs : List Loc} {cells slots : Nat} {Q : State → Prop}
theorem zl_callS {T : State} (X : Stand p l e R s m args below meth c T locs cells slots) (hexec : p.tables.exec = Jvm.exec) {own : String} {index : Nat} {y : MethodName} {bytes : ByteArray} {maxL : Nat} {ret : Option FieldType} {hh : List (Nat × Nat × Nat × Nat)}
    (hown : s.vm.findClass own = some m.cls) (hlink : (Cond.methodLink own index y).before args s = true) (hstat : (Cond.static y).before args s = true) (hinit : (Cond.initialized y.cls).before args s = true)
    (hcode : (Cond.codeWith y bytes maxL ret hh).before args s = true) (hy : y.cls ≠ "java/lang/invoke/MethodHandle" ∧ y.cls ≠ "java/lang/invoke/VarHandle")
    {W : Nat} {Pre : Pt → Array Value → Prop} {Post : Pt → Array Value → Option Value → Pt → Prop} (hK : Back l R p e below s args y 3 W Pre Post)
    {g : JFrame} (hg : g.method = m) (hsize : g.locals.size = c.maxLocals) {argsL rest : List Value} (hlen : ∀ sig, parseMethodDescriptor y.desc = some sig → argsL.length = sig.parameters.length)
    (hstack : g.stack = argsL.reverse ++ rest) (hW : 2 * g.monitorRoom + (rest.map fun v => v.category).sum ≤ W) (hdg : decode c.code g.pc = .ok (.invokestatic index, 3))
    (hpre : ∀ vm₁, s.WarmedH vm₁ → Pre ⟨T.setVm vm₁, locs, cells, slots⟩ argsL.toArray) :
    ∃ (v : Option Value) (vm₁ : Vm) (B : Pt), s.WarmedH vm₁ ∧ Stand p l e R s m args below meth c B.U B.locs B.cells B.slots ∧ Post ⟨T.setVm vm₁, locs, cells, slots⟩ argsL.toArray v B ∧
      ∀ target, Steps p.tables e below (B.U.setTop { g with pc := g.pc + 3, stack := v.toList ++ rest }) target → Steps p.tables e below (T.setTop g) target := by
  obtain ⟨mk, methM, cM, hnamed, hmethM, -, -, -, -, -, -, hsigM⟩ := Cond.codeWith_spec hcode
  have hstatic : methM.isStatic = true := Cond.static_spec hnamed hmethM hstat
  obtain ⟨kP, hkP, -⟩ := className_of_methodNamed hnamed
  have hinitP : kP.init = .initialized := Cond.initialized_spec (findClass_of_methodNamed hnamed) hkP hinit
  obtain ⟨vm₁, X₁, hstep₁⟩ := X.invokestatic hexec hown hlink hnamed hmethM hstatic hkP hinitP hy (g := g) hg (argsL := argsL) (rest := rest) (hlen _ hsigM) hstack hdg
  obtain ⟨v, B, X', hpost, hsteps⟩ := hK m meth c ⟨T.setVm vm₁, locs, cells, slots⟩ { g with stack := rest } (.invokestatic index) mk argsL.toArray X₁ hg hsize hdg hW (X₁.named hnamed) (hpre vm₁ X₁.warmed)
  exact ⟨v, vm₁, B, X₁.warmed, X', hpost, fun target h => hstep₁ _ fun acts => by rw [doInvoke_state]; exact hsteps.trans h⟩
theorem zl_runS {y : MethodName} {bytes cc : ByteArray} {maxL nL n index : Nat} {ret : Option FieldType} {hh : List (Nat × Nat × Nat × Nat)} {rm : Room} {Pc : Array Value → State → Prop} {Qc : Array Value → State → Outcome → State → Prop} {free : Addr → Prop} {own : String} {As rest : List Value} {g : JFrame}
    (S : CallFix p m c cc nL s args zw own) (hM : Met l y (Cond.codeWith y bytes maxL ret hh :: zw) rm Pc Qc rm.cells rm.slots free) (w1 : Cond.methodLink own index y ∈ zw) (w2 : Cond.static y ∈ zw) (w3 : Cond.initialized y.cls ∈ zw) (w4 : Cond.codeWith y bytes maxL ret hh ∈ zw)
    (hd : y.cls ≠ "java/lang/invoke/MethodHandle" ∧ y.cls ≠ "java/lang/invoke/VarHandle" ∧ (parseMethodDescriptor y.desc).map (fun d => d.parameters.length) = some n) (hR : rm.frames + 1 ≤ R.frames ∧ 8 + (maxL + 11) + rm.locals ≤ R.locals) (hp : PreS s H Pc As)
    (hg : g.method = m) (hn : As.length = n) (hsize : g.locals.size = nL) (hstack : g.stack = As.reverse ++ rest) (hW : 2 * g.monitorRoom + (rest.map fun v => v.category).sum ≤ 8) (hdg : decode cc g.pc = .ok (.invokestatic index, 3)) (hf : cells + rm.cells ≤ R.cells ∧ slots + rm.slots ≤ R.slots) :
    va_Run p l e R s m args below meth c H locs cells slots rm.cells rm.slots g rest (Qc As.toArray) free := by
  obtain ⟨hx, hb, hml, ho, hts⟩ := S
  have hgood : GoodIn zw (Cond.codeWith y bytes maxL ret hh :: zw) := by
    intro w hw
    have hz : w ∈ zw := by
      rcases List.mem_cons.mp hw with rfl | h
      · exact w4
      · exact h
    exact ⟨hz, good_of_word (List.mem_filter.mp hz).2⟩
  have hws := pay_in hts hgood
  have hini := hts _ w3
  have hK : Back l R p e below s args y 3 8 (PreOf R rm.cells rm.slots Pc) (PostOf Qc rm.cells rm.slots free) := va_backW (hh := hh) (bytes := bytes) (maxL := maxL) (ret := ret) hM hp.1 rfl rfl hR.1 hR.2 hws List.mem_cons_self (fun a' U hW => word_at hW (Or.inl (by first | rfl | simp [Cond.onTables, Cond.keeps, Cond.steady])) hini)
  intro T hT X
  obtain ⟨v, vm₁, ⟨U', l2, c2, s2⟩, hW₁, X', ⟨g', mk, t, L, e1, e2, hq, h1, hL, h2, h3⟩, st⟩ := zl_callS X hx (hh := hh) (bytes := bytes) (maxL := maxL) (ret := ret) ho (hts _ w1) (hts _ w2) hini (hts _ w4) ⟨hd.1, hd.2.1⟩ hK hg (hsize.trans hml.symm) (argsL := As) (rest := rest) (fun sig h => by
      have h2 := hd.2.2
      rw [h] at h2
      rw [hn]
      exact (Option.some.inj h2).symm) hstack hW (by rw [hb]; exact hdg)
    (fun vm₁ hW₁ => ⟨hf.1, hf.2, hp.2 (T.setVm vm₁) hT hW₁⟩)
  dsimp only [Pt.U, Pt.locs, Pt.cells, Pt.slots] at X' e1 e2 h1 h2 h3 st
  subst h1; subst h2; subst h3
  exact ⟨v, (T.setVm vm₁).calling g' mk As.toArray, t, U', L, hT, X', hL, e1, e2, hq, st⟩
end ZLC
/-- a static method of the law's, with handlers, that answers an int -/
def zMiW (l : Launch) (E : zc_E) (y : MethodName) (cc : ByteArray) (maxL : Nat) (ret : Option FieldType) (hh : List (Nat × Nat × Nat × Nat)) (rm : Room) (av : List Value) (G : zg_G) (post : Int32 → zg_G → Prop) : Prop :=
  Met l y (Cond.codeWith y cc maxL ret hh :: zw) rm (va_Pc av (zB E G)) (va_Qi post (fun G' t => zP E G' t.heap) (zA E)) rm.cells rm.slots (zA E)
section ZLO
variable {l : Launch} {E : zc_E} {y : MethodName} {rm : Room} {av : List Value} {G : zg_G} {cc : ByteArray} {maxL : Nat} {ret : Option FieldType} {hh : List (Nat × Nat × Nat × Nat)}
theorem zMiW.of {post : Int32 → zg_G → Prop} (hy : plainName y.cls = true) (hlen : (lg_sl av).length ≤ maxL)
    (body : ∀ (p : Program) (e : Env) (s : State) (m : MethodId) (args : Array Value) (below : List Frame) (meth : Method) (c : Code) (Q : State → Prop), zWk E y cc maxL ret p s m args meth c → c.exceptionTable.toList = hh.map zt_E → zP E G s.heap →
      (∀ (r : Int32) (G' : zg_G) (H : Heap) (locs : List Loc) (cells slots pc : Nat) (ls : Array Slot) (ty : FieldType), meth.sig.returnType = some ty → narrow ty (.int r) = .int r → post r G' → zP E G' H → zg_S (zc_b E) s.heap H locs → cells ≤ rm.cells → slots ≤ rm.slots → decode cc pc = .ok (.ireturn, 1) → W p l e rm s m args below meth c H locs cells slots Q (F0 m pc ls [.int r])) →
      ∀ ls : Array Slot, lv_has ls maxL (lv_args 0 av) → W p l e rm s m args below meth c s.heap [] 0 0 Q (F0 m 0 ls [])) : zMiW l E y cc maxL ret hh rm av G post := by
  refine va_MetW (hh := hh) (cc := cc) (maxL := maxL) (ret := ret) (ws' := zw) hy rfl ?_
  intro p e s m args below meth c s₁ B hml hv
  obtain ⟨ha, hb0, hP, hK, hN, hQ⟩ := hv
  have hcw : (Cond.codeWith y cc maxL ret hh).before args s = true := atoms_spec (ws := Cond.codeWith y cc maxL ret hh :: zw) B.pre _ List.mem_cons_self
  have hex : c.exceptionTable.toList = hh.map zt_E := by
    obtain ⟨m9, meth9, c9, q1, q2, q3, -, -, q6, -, -, -⟩ := Cond.codeWith_spec hcw
    cases B.named.symm.trans q1
    cases B.method.symm.trans q2
    cases (Stand.of_body B).code.symm.trans q3
    rw [← q6, List.map_map]
    exact (List.map_id _).symm.trans (List.map_congr_left (fun x _ => by cases x; rfl))
  refine W.eq (g2 := F0 m 0 ((lg_sl av ++ List.replicate (maxL - (lg_sl av).length) Slot.unset).toArray) []) (by rw [ha]; exact lg_entry_eq m av maxL) ?_
  refine body p e s m args below meth c _ ⟨B.exec, B.bytes, B.returns, fun w hw => atoms_spec (ws := Cond.codeWith y cc maxL ret hh :: zw) B.pre w (List.mem_cons_of_mem _ hw), findClass_of_methodNamed B.named, B.notSynchronized, hml, (name_of_methodNamed B.named B.method).1, hb0, hK, hN, hQ⟩ hex hP ?_ _ (lv_entry av hlen)
  intro r G' H locs cells slots pc ls ty hr hn hp hG hS hc hs hd
  refine W.widen hc hs ?_
  exact W.zret B.exec B.bytes hr hn (fun t ht _ => ⟨⟨r, G', rfl, hp, by show zP E G' t.heap; rw [ht]; exact hG⟩, va_S.F hS ht⟩) hS.2.2 hd B.notSynchronized
end ZLO
/-- a handler that takes the exception: it stands behind those that let it pass -/
theorem zt_wayOf {own cls : String} {pc : Nat} {s : State} {args : Array Value} {c : Code} {hnd : Nat} {pre tl : List (Nat × Nat × Nat × Nat)} {h : Nat × Nat × Nat × Nat} (hex : c.exceptionTable.toList = (pre ++ h :: tl).map zt_E)
    (hp : ∀ y ∈ pre, covers (zt_E y) pc = true ∧ y.2.2.2 ≠ 0 ∧ ∃ nm, (Cond.classLink own y.2.2.2 nm).before args s = true ∧ va_Nc cls nm s) (h1 : covers (zt_E h) pc = true) (h2 : h.2.2.2 ≠ 0) (h3 : (Cond.classLink own h.2.2.2 cls).before args s = true) (h4 : va_Nw (.castable cls cls) s) (h5 : h.2.2.1 = hnd) :
    ∃ (pre : List ExceptionTableEntry) (x : ExceptionTableEntry) (tl : List ExceptionTableEntry), c.exceptionTable.toList = pre ++ x :: tl ∧ zt_way own cls pc s args pre x ∧ x.handlerPc = hnd := by
  refine ⟨pre.map zt_E, zt_E h, tl.map zt_E, by rw [hex, List.map_append, List.map_cons], ⟨fun y hy => ?_, h1, h2, h3, h4⟩, h5⟩
  obtain ⟨z, hz, rfl⟩ := List.mem_map.mp hy
  exact hp z hz
theorem zl_offOf {l : Launch} (h : l.flags = flags0) : zl_off l := by
  intro e ha
  rw [ha.platform]
  show l.stackTraces = false
  unfold Launch.stackTraces
  rw [h]
  decide
theorem zAt_use {t : FieldType} {A B : Array Value} {U : State} (h : (Cond.arrayOver (.array t)).before A U = true) : (Cond.arrayOver (.array t)).before B U = true := h
theorem zeB : (FieldType.array .byte).toString = "[B" := by decide +kernel
section ZLA
variable {p : Program} {l : Launch} {e : Env} {R : Room} {s : State} {m : MethodId} {args : Array Value} {below : List Frame} {meth : Method} {c : Code} {H : Heap} {locs : List Loc} {cells slots : Nat} {Q : State → Prop}
variable {cc : ByteArray} {pc : Nat} {ls : Array Slot} {rest : List Value} {D : va_G} {cl : List vw_C} {a base : Nat} {G : zg_G} {tys : List (ClassId × FieldType)} {H0 : Heap}
theorem zg_newA (hexec : p.tables.exec = Jvm.exec) (hb : c.code = cc) {own : String} {index : Nat} {t : FieldType} (hown : s.vm.findClass own = some m.cls) (hclink : (Cond.classLink own index (FieldType.array t).toString).before args s = true) (hover : (Cond.arrayOver (.array t)).before args s = true) (hK : va_K D cl tys s) (hG : zg_P D cl base G H) (hS : zg_S base H0 H locs) (hA : base ≤ H0.size)
    {n : Int32} {N' : Nat} (hn : ¬ n < 0) (hN : n.toNatClampNeg = N') (hbytes : N' * 4 ≤ 536870912) (hcells : cells + 1 ≤ R.cells) (hslots : slots + N' ≤ R.slots) (hdg : decode cc pc = .ok (.anewarray index, 3))
    (t0 : Nat) {cB : ClassId} (ht : tys[t0]? = some (cB, .array t))
    (kk : ∀ (q : Nat) (H1 : Heap), G q = none → zg_P D cl base (zg_up G q (.inl (cB, N', .inr (.inr (.inr (.inr (fun _ => none))))))) H1 → zg_S base H0 H1 locs →
      W p l e R s m args below meth c H1 locs (cells + 1) (slots + N') Q (F0 m (pc + 3) ls (.ref q :: rest))) : W p l e R s m args below meth c H locs cells slots Q (F0 m pc ls (.int n :: rest)) := by
  subst hN
  refine W.anewA (t := t) hexec hb hown hclink hover rfl hdg rfl hn hbytes hcells hslots fun cA kA comp f1 f2 f3 f4 => ?_
  have e2 : s.vm.findClass ("[" ++ (FieldType.array t).toString) = some cB := (hK.2 t0 (cB, .array t) ht).2
  cases f1.symm.trans e2
  generalize hH1 : H.push ({ cls := cB, slots := Array.replicate n.toNatClampNeg .null, vm := .none } : Cell) = H1
  have z1 : H1.size = H.size + 1 := by rw [← hH1, Array.size_push]
  have e1 : H1[H.size]? = some (arrV cB n.toNatClampNeg (fun _ => .null)) := by rw [← hH1, Array.getElem?_push_size, ← arrV_new]
  have o1 : ∀ q : Nat, q < H.size → H1[q]? = H[q]? := fun q hq => by rw [← hH1, Array.getElem?_push, if_neg (Nat.ne_of_lt hq)]
  have hq0 : G H.size = none := by
    cases hg : G H.size with
    | none => rfl
    | some x => exact absurd (hG.lt hg) (Nat.lt_irrefl _)
  refine kk H.size H1 hq0 (fun q x hq => ?_) ⟨Nat.le_trans hS.1 (by omega), fun x h1 h2 => (o1 x (Nat.lt_of_lt_of_le h1 hS.1)).trans (hS.2.1 x h1 h2), hS.2.2⟩
  by_cases hqa : q = H.size
  · subst hqa
    rw [zg_up_self] at hq
    cases hq
    refine ⟨Nat.le_trans hA hS.1, ?_⟩
    show H1[H.size]? = some (vp_cell _ _)
    rw [e1, vp_cell_q]
    rfl
  · rw [zg_up_ne hqa] at hq
    exact ⟨(hG q x hq).1, (hG q x hq).2.kept (o1 q (hG.lt hq))⟩
end ZLA
/-- a method that answers a long -/
def zMl (l : Launch) (E : zc_E) (y : MethodName) (cc : ByteArray) (maxL : Nat) (ret : Option FieldType) (rm : Room) (av : List Value) (G : zg_G) (post : Int64 → zg_G → Prop) : Prop :=
  Met l y (zws y cc maxL ret) rm (va_Pc av (zB E G)) (va_Ql post (fun G' t => zP E G' t.heap) (zA E)) rm.cells rm.slots (zA E)
section ZLL
variable {l : Launch} {E : zc_E} {y : MethodName} {rm : Room} {av : List Value} {G : zg_G} {cc : ByteArray} {maxL : Nat} {ret : Option FieldType}
theorem zMl.of {post : Int64 → zg_G → Prop} (hy : plainName y.cls = true) (hlen : (lg_sl av).length ≤ maxL)
    (body : ∀ (p : Program) (e : Env) (s : State) (m : MethodId) (args : Array Value) (below : List Frame) (meth : Method) (c : Code) (Q : State → Prop), zWk E y cc maxL ret p s m args meth c → zP E G s.heap →
      (∀ (r : Int64) (G' : zg_G) (H : Heap) (locs : List Loc) (cells slots pc : Nat) (ls : Array Slot), meth.sig.returnType = some .long → post r G' → zP E G' H → zg_S (zc_b E) s.heap H locs → cells ≤ rm.cells → slots ≤ rm.slots → decode cc pc = .ok (.lreturn, 1) → W p l e rm s m args below meth c H locs cells slots Q (F0 m pc ls [.long r])) →
      ∀ ls : Array Slot, lv_has ls maxL (lv_args 0 av) → W p l e rm s m args below meth c s.heap [] 0 0 Q (F0 m 0 ls [])) : zMl l E y cc maxL ret rm av G post := by
  refine Met.ofW (cc := cc) (maxL := maxL) (ret := ret) hy rfl ?_
  intro p e s m args below meth c s₁ B hml hv
  obtain ⟨ha, hb0, hP, hK, hN, hQ⟩ := hv
  refine W.eq (g2 := F0 m 0 ((lg_sl av ++ List.replicate (maxL - (lg_sl av).length) Slot.unset).toArray) []) (by rw [ha]; exact lg_entry_eq m av maxL) ?_
  refine body p e s m args below meth c _ ⟨B.exec, B.bytes, B.returns, fun w hw => atoms_spec (ws := zws y cc maxL ret) B.pre w (List.mem_cons_of_mem _ hw), findClass_of_methodNamed B.named, B.notSynchronized, hml, (name_of_methodNamed B.named B.method).1, hb0, hK, hN, hQ⟩ hP ?_ _ (lv_entry av hlen)
  intro r G' H locs cells slots pc ls hr hp hG hS hc hs hd
  refine W.widen hc hs ?_
  exact W.lret B.exec B.bytes hr (fun t ht _ => ⟨⟨r, G', rfl, hp, by show zP E G' t.heap; rw [ht]; exact hG⟩, va_S.F hS ht⟩) hS.2.2 hd B.notSynchronized
end ZLL
section ZLK
variable {p : Program} {l : Launch} {e : Env} {R : Room} {s : State} {m : MethodId} {args : Array Value} {below : List Frame} {meth : Method} {c : Code} {H : Heap} {locs : List Loc} {cells slots : Nat} {Q : State → Prop}
variable {pc : Nat} {ls : Array Slot} {rest st0 : List Value} {E : zc_E} {G : zg_G} {a : Array Value} {mc ms : Nat}
theorem zk_l {post : Int64 → zg_G → Prop} (hr : va_Run p l e R s m args below meth c H locs cells slots mc ms (F0 m pc ls st0) rest (va_Ql post (fun G' t => zP E G' t.heap) (zA E) a) (zA E)) (hS : zg_S (zc_b E) s.heap H locs)
    (kk : ∀ (r : Int64) (G' : zg_G) (H1 : Heap) (locs1 : List Loc), post r G' → zP E G' H1 → zg_S (zc_b E) s.heap H1 locs1 → W p l e R s m args below meth c H1 locs1 (cells + mc) (slots + ms) Q (F0 m (pc + 3) ls (.long r :: rest))) : W p l e R s m args below meth c H locs cells slots Q (F0 m pc ls st0) :=
  va_calll hr hS (fun _ _ h => h) (fun _ h => h) (fun r G' t H1 locs1 ht _ hp hB _ _ hS1 => kk r G' H1 locs1 hp (by rw [← ht]; exact hB) hS1)
theorem zl_as {x y : Int64} (h : x = y) (k : W p l e R s m args below meth c H locs cells slots Q (F0 m pc ls (.long y :: rest))) : W p l e R s m args below meth c H locs cells slots Q (F0 m pc ls (.long x :: rest)) := h ▸ k
end ZLK
