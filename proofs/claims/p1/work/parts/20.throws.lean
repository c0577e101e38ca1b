/-! THROWS: an exception is made and thrown, the frame is left; the heap is as it was but for the exception's own cell -/
section ZTH
variable {p : Program} {l : Launch} {e : Env} {R : Room} {s : State} {m : MethodId} {args : Array Value} {below : List Frame} {meth : Method} {c : Code} {V : State} {locs : List Loc} {cells slots : Nat}
set_option maxHeartbeats 2000000 in
theorem zt_ctor (X : Stand p l e R s m args below meth c V locs cells slots) (hexec : p.tables.exec = Jvm.exec) (htr : e.platform.stackTraces = false) {own cls : String} {names : List String} {ic : Nat}
    (hown : s.vm.findClass own = some m.cls) (hcls : Bundle.fit cls = true) (hnames : ∀ n ∈ names, Bundle.fit n = true) (hw : ∀ w ∈ Bundle.ownAtoms0 own ic cls names, w.before args s = true)
    {a : Addr} {cX : ClassId} {kX : Class} (hfX : s.vm.findClass cls = some cX) (hkX : s.vm.classes[cX]? = some kX) (hord : kX.kind = .ordinary) (hcell : V.heap[a]? = some (freshCell cX kX))
    (hst : ∀ (cf : ClassId) (kf : Class) (fi : Nat) (f : Field) (aS : Addr), s.fieldFound? "java/lang/Throwable" "UNASSIGNED_STACK" "[Ljava/lang/StackTraceElement;" = some (cf, kf, fi, f) → kf.statics = some aS → V.heap[aS]? = s.heap[aS]? ∧ aS ≠ a)
    {g : JFrame} (hg : g.method = m) (hsize : g.locals.size = c.maxLocals) (hlocked : g.locked = none) (hentered : g.entered = []) {rest : List Value} (hstack : g.stack = .ref a :: .ref a :: rest)
    (hd6 : decode c.code g.pc = .ok (.invokespecial ic, 3)) (hd9 : decode c.code (g.pc + 3) = .ok (.athrow, 1)) (hout : ∀ x ∈ c.exceptionTable.toList, covers x (g.pc + 3) = false) (hlocks : meth.locks = false)
    (hRf : names.length + 3 < R.frames) (hRl : 2 * g.monitorRoom + ((Value.ref a :: rest).map fun v => v.category).sum + (13 * (names.length + 1) + 41) ≤ R.locals) :
    ∃ (U : State) (ce : Cell) (L4 : List Loc), Steps p.tables e below (V.setTop g) U ∧ U.status = .running ∧ Ended U below (.threw a) ∧ s.WarmedH U.vm ∧ s.sameButNew ({ U with vm := s.vm } : State) (locs ++ L4) cells slots ∧ (∀ x ∈ L4, x.base = a) ∧ U.heap = V.heap.setIfInBounds a ce ∧ ce.cls = cX ∧ ce.vm = .none := by
  have hpl : e.platform.magicAccessors = ({} : Platform).magicAccessors := by rw [X.admits.platform]
  obtain ⟨T, Z, L, LZ, Y⟩ := ThrowableC.of_atoms (args := args) (s := s) (pl := e.platform) (by rw [X.admits.platform]) (by rw [X.admits.platform]) hpl (fun x hx => hw x (by simp [Bundle.ownAtoms0, hx]))
  obtain ⟨P1, Ps, hlen, L1, hL, hP1, hl1, hl2⟩ := Bundle.chain0 (args := args) (s := s) hpl Y.init0 names cls hcls hnames (fun x hx => hw x (by simp [Bundle.ownAtoms0, hx]))
  have ecX : cX = P1.m.cls := Option.some.inj (hfX.symm.trans (findClass_of_methodNamed hP1))
  subst ecX
  have hsel : ∀ (y : MethodName) (mid : MethodId), s.methodNamed? y = some mid → (y.cls ≠ "java/lang/invoke/MethodHandle" ∧ y.cls ≠ "java/lang/invoke/VarHandle") → (Cond.selects cls y y).before args s = true → selectMethod e.platform s.vm P1.m.cls mid = .method mid := by
    intro y mid hn hy hs
    obtain ⟨c2, r2, m2, q1, q2, q3, q4, -⟩ := Cond.selects_spec hs
    cases hfX.symm.trans q1
    cases q2.symm.trans (State.methodFound?_of_named hn hy)
    cases q3.symm.trans hn
    rw [Launch.admits_selectMethod X.admits]
    exact q4
  obtain ⟨cS, hcS, hisS⟩ := Y.statics
  obtain ⟨hVS, hneS⟩ := hst _ _ _ _ _ Y.unassigned L.statics
  obtain ⟨u0, hu0⟩ := Cond.staticRefV Y.unassigned L.unassignedStatic L.statics hcS hisS (hw (.isRef (.static Bundle.tN "UNASSIGNED_STACK" Bundle.steD)) (by simp [Bundle.ownAtoms0]))
  obtain ⟨sen, hsen⟩ := Cond.staticRefV Y.sentinel L.sentinelStatic L.statics hcS hisS (hw (.isRef (.static Bundle.tN "SUPPRESSED_SENTINEL" Bundle.listD)) (by simp [Bundle.ownAtoms0]))
  obtain ⟨ci, i1, fB, g1, g2, g3, g4, -, g5, g6, g7⟩ := Cond.ownField (t := .object "java/lang/Object") Y.found L.cls (by decide +kernel) (hw (.fieldLink Bundle.tN 198 Bundle.tN "backtrace" "Ljava/lang/Object;") (by simp [Bundle.ownAtoms0])) (hw (.lays Bundle.tN Bundle.tN "backtrace" "Ljava/lang/Object;") (by simp [Bundle.ownAtoms0])) e.platform hpl
  obtain ⟨tyC, dC, eC, nC⟩ := Cond.laysAt hfX hkX Y.cause (hw (.lays cls Bundle.tN "cause" "Ljava/lang/Throwable;") (by simp [Bundle.ownAtoms0]))
  obtain ⟨tyS, dS, eS, nS⟩ := Cond.laysAt hfX hkX Y.stack (hw (.lays cls Bundle.tN "stackTrace" Bundle.steD) (by simp [Bundle.ownAtoms0]))
  obtain ⟨tyP, dP, eP, nP⟩ := Cond.laysAt hfX hkX Y.supp (hw (.lays cls Bundle.tN "suppressedExceptions" Bundle.listD) (by simp [Bundle.ownAtoms0]))
  obtain ⟨tyB, dB, eB, nB⟩ := Cond.laysAt hfX hkX g7 (hw (.lays cls Bundle.tN "backtrace" "Ljava/lang/Object;") (by simp [Bundle.ownAtoms0]))
  have aC := Cond.laysApart eB eC nB nC (by rw [g5, Y.causeName]; decide)
  have aS := Cond.laysApart eB eS nB nS (by rw [g5, Y.stackName]; decide)
  have aP := Cond.laysApart eB eP nB nP (by rw [g5, Y.suppName]; decide)
  have hskip : SkipFacts T e.platform s (fun u => u) u0 ((preparedCellV T.toThrowableT (freshCell P1.m.cls kX) a u0 sen).withEntry V.cur) := by
    refine ⟨⟨ci, i1, fB⟩, ⟨g1, g2, g3, g4⟩, ?_, fun _ _ => rfl⟩
    have hd := fresh_default (c := P1.m.cls) tyB
    rw [g6] at hd
    simpa [preparedCellV, Cell.setSlot, Cell.withEntry, Array.getElem?_setIfInBounds, aC, aS, aP, aC.symm, aS.symm, aP.symm, defaultValue] using hd
  obtain ⟨tm, mC, cdC, kC, vm₁, hnC, -, -, -, -, -, -, -, hW₁, st1⟩ := Steps.initCold (tb := p.tables) (e := e) (below := below) (s := s) (U := V) X.here hexec X.warmed hpl hown (t := Bundle.init0 cls) rfl rfl (Bundle.fit_spec hcls).2
    (hw (.methodLink own ic (Bundle.init0 cls)) (by simp [Bundle.ownAtoms0])) (hw (.instanceMethod (Bundle.init0 cls)) (by cases names <;> simp [Bundle.ownAtoms0, Bundle.chain0Atoms, Bundle.passAtoms])) (bytes := Bundle.five) (maxL := 1) (hw (.code (Bundle.init0 cls) Bundle.five 1 none) (by cases names <;> simp [Bundle.ownAtoms0, Bundle.chain0Atoms, Bundle.passAtoms]))
    (f := g) hg (a := a) (rest := .ref a :: rest) hstack hd6
  cases Option.some.inj (hnC.symm.trans hP1)
  obtain ⟨vm₂, X₂, st2⟩ := (X.noted hW₁).ctorPlainOffV hexec (g := { g with stack := .ref a :: rest }) hg hsize T L Z LZ (P1 :: Ps)
    (fun P hP => by rcases List.mem_cons.mp hP with rfl | hP; exact L1; exact hL P hP) ⟨hl1, hl2⟩ (u0 := u0) (sen := sen) (self := a) (cell := freshCell P1.m.cls kX) (cellS := cS)
    hcell (fun _ => by simp) (by simp) rfl rfl (hsel Bundle.tFill0 T.fill0 Y.fill0 (by decide) (hw _ (by simp [Bundle.ownAtoms0]))) (hsel Bundle.tFill T.fill Y.fill (by decide) (hw _ (by simp [Bundle.ownAtoms0])))
    (show V.heap[T.aS]? = some cS by rw [hVS]; exact hcS) hneS (by intro h; rw [h] at hisS; cases hisS) hu0 hsen
    (Takes.of_laid hkX hord tyC (by rw [Y.causeType]; rfl)) (Takes.of_laid hkX hord tyS (by rw [Y.stackType]; exact fits_refV_array _ u0)) (Takes.of_laid hkX hord tyP (by rw [Y.suppType]; exact fits_refV_object _ sen)) Y.objLocals hskip htr [] hd6
    (by simp only [List.length_cons, hlen]; omega) (by simp only [List.length_cons, hlen]; exact hRl)
  obtain ⟨hwalk, hrun, hended, hWU, hsame⟩ := X₂.athrowLeaves hexec (g := { g with stack := .ref a :: rest, pc := g.pc + 3 }) hg hlocked hentered hout (a := a) (rest := rest) rfl hd9 hlocks
  refine ⟨_, _, _, st1 _ (fun acts => ?_), hrun, hended, hWU, hsame, ?_, rfl, rfl, rfl⟩
  · rw [doInvoke_state]
    exact st2 _ hwalk
  · intro x hx
    simp only [List.mem_cons, List.not_mem_nil, or_false] at hx
    rcases hx with rfl | rfl | rfl | rfl <;> rfl
end ZTH
/-- the launch is one without stack traces -/
def zl_off (l : Launch) : Prop := ∀ e : Env, l.admits e → e.platform.stackTraces = false
/-- a method's two ends: it returns, or it throws and our cells are as they were -/
def zTQ (E : zc_E) (G : zg_G) (rm : Room) (post : Option Value → zg_G → Prop) (thr : String → Prop) : Array Value → State → Outcome → State → Prop := fun _ st o t =>
  (∃ (v : Option Value) (G' : zg_G), o = .returned v ∧ post v G' ∧ zP E G' t.heap ∧ va_F (zA E) st t ∧ ∃ L, FrameEnd st o t L rm.cells rm.slots ∧ ∀ q ∈ L, zA E q.base) ∨
  (∃ (x : Addr) (cls : String) (ce : Cell), o = .threw x ∧ thr cls ∧ t.heap[x]? = some ce ∧ ce.vm.isStatics = false ∧ st.vm.findClass cls = some ce.cls ∧ zP E G t.heap ∧ va_F (zA E) st t ∧ st.WarmedH t.vm ∧ ∃ L, st.sameButNew ({ t with vm := st.vm } : State) L rm.cells rm.slots ∧ ∀ q ∈ L, zA E q.base)
def zTZ (below : List Frame) (E : zc_E) (G : zg_G) (rm : Room) (post : Option Value → zg_G → Prop) (thr : String → Prop) (args : Array Value) (s : State) : State → Prop := fun t => ∃ o, t.status = .running ∧ Ended t below o ∧ zTQ E G rm post thr args s o t
def zT (l : Launch) (E : zc_E) (y : MethodName) (cc : ByteArray) (maxL : Nat) (ret : Option FieldType) (rm : Room) (av : List Value) (G : zg_G) (post : Option Value → zg_G → Prop) (thr : String → Prop) : Prop :=
  MetFree l y (headSpec (zws y cc maxL ret) rm) (va_Pc av (zB E G)) (fun _ _ _ _ _ => True) (zTQ E G rm post thr)
section ZTW
variable {p : Program} {l : Launch} {e : Env} {R : Room} {s : State} {m : MethodId} {args : Array Value} {below : List Frame} {meth : Method} {c : Code} {H : Heap} {locs : List Loc} {cells slots : Nat} {Q : State → Prop}
theorem W.mono {Q2 : State → Prop} {g : JFrame} (h : W p l e R s m args below meth c H locs cells slots Q g) (hq : ∀ t, Q t → Q2 t) : W p l e R s m args below meth c H locs cells slots Q2 g := by
  intro T hT X
  obtain ⟨t, a, b⟩ := h T hT X
  exact ⟨t, a, hq t b⟩
variable {E : zc_E} {G : zg_G} {rm : Room} {post : Option Value → zg_G → Prop} {thr : String → Prop} {cc : ByteArray} {own cls : String} {names : List String} {ic index pc : Nat} {ls : Array Slot} {rest : List Value}
set_option maxHeartbeats 2000000 in
theorem zt_row (hoff : zl_off l) (hx : p.tables.exec = Jvm.exec) (hb : c.code = cc) (hml : c.maxLocals = ls.size) (hown : s.vm.findClass own = some m.cls) (hts : ∀ w ∈ zw, w.before args s = true) (hQ : zQ E s s.heap) (hex : c.exceptionTable.toList = []) (hlocks : meth.locks = false)
    (hw : ∀ w ∈ Bundle.ownAtoms0 own ic cls names, w.before args s = true) (hcls : Bundle.fit cls = true) (hnames : ∀ n ∈ names, Bundle.fit n = true) (hcl : Cond.classLink own index cls ∈ zw) (hins : Cond.instantiable cls 6 ∈ zw) (hini : Cond.initialized cls ∈ zw)
    (hthr : thr cls) (hG : zP E G H) (hS : zg_S (zc_b E) s.heap H locs) (hbase : zc_b E ≤ s.heap.size) (hc1 : cells + 1 ≤ rm.cells) (hs1 : slots + 6 ≤ rm.slots) (hRf : names.length + 3 < rm.frames) (hRl : (rest.map fun v => v.category).sum + 1 + (13 * (names.length + 1) + 41) ≤ rm.locals)
    (d0 : decode cc pc = .ok (.new index, 3)) (d3 : decode cc (pc + 3) = .ok (.dup, 1)) (d4 : decode cc (pc + 4) = .ok (.invokespecial ic, 3)) (d7 : decode cc (pc + 7) = .ok (.athrow, 1)) :
    W p l e rm s m args below meth c H locs cells slots (zTZ below E G rm post thr args s) (F0 m pc ls rest) := by
  refine W.newc (C := cls) (n := 6) hx hb hown (hts _ hcl) (hts _ hins) (hts _ hini) rfl d0 hc1 hs1 (fun cX kX h1 h2 h3 h4 => ?_)
  refine lv_dup hx hb d3 rfl ?_
  intro T hT X
  have hTs : T.heap.size = H.size + 1 := by rw [hT]; simp
  have hcell : T.heap[H.size]? = some (freshCell cX kX) := by rw [hT]; simp
  have hold : ∀ q, q < H.size → T.heap[q]? = H[q]? := fun q hq => by rw [hT, Array.getElem?_push_lt hq]; simp [hq]
  have hgeb : zc_b E ≤ H.size := Nat.le_trans hbase hS.1
  obtain ⟨U, ce, L4, st, hrun, hend, hW, hsame, hL4, hheap, hcc, hcv⟩ := zt_ctor X hx (hoff e X.admits) hown hcls hnames hw h1 h2 h3 hcell (fun cf kf fi f aS hf hs => by
      obtain ⟨cf', kf', fi', f', a', cell', v, -, -, q1, -, q4, q5, -, -, -, -, -, q8⟩ := hQ.2.2.2.2.2.2.2.2.2.1
      have hlt : aS < s.heap.size ∧ ¬ zc_b E ≤ aS := by
        cases hf.symm.trans q1
        cases hs.symm.trans q4
        exact ⟨(Array.getElem?_eq_some_iff.mp q5).1, q8⟩
      refine ⟨?_, fun hh => hlt.2 (by rw [hh]; exact hgeb)⟩
      rw [hold aS (Nat.lt_of_lt_of_le hlt.1 hS.1)]
      exact hS.2.1 aS hlt.1 hlt.2) (g := F0 m (pc + 4) ls (.ref H.size :: .ref H.size :: rest)) rfl hml.symm rfl rfl (rest := rest) rfl (by rw [hb]; exact d4) (by rw [hb]; exact d7) (by rw [hex]; intro x hx; cases hx) hlocks hRf (by
        show 2 * 0 + _ + _ ≤ _
        rw [List.map_cons, List.sum_cons, show (Value.ref H.size).category = 1 from rfl]
        omega)
  have hkeep : ∀ q, q < H.size → U.heap[q]? = H[q]? := fun q hq => by
    rw [hheap, Array.getElem?_setIfInBounds, if_neg (by omega)]
    exact hold q hq
  refine ⟨U, st, .threw H.size, hrun, hend, Or.inr ⟨H.size, cls, ce, rfl, hthr, ?_, by rw [hcv]; rfl, by rw [hcc]; exact h1, ?_, ?_, hW, locs ++ L4, ?_, ?_⟩⟩
  · rw [hheap]
    simp [Array.getElem?_setIfInBounds, hTs]
  · intro q x hq
    exact ⟨(hG q x hq).1, (hG q x hq).2.kept (hkeep q (hG q x hq).2.lt)⟩
  · refine ⟨by rw [hheap]; simp [hTs]; exact Nat.le_succ_of_le hS.1, fun q h5 h6 => ?_⟩
    rw [hkeep q (Nat.lt_of_lt_of_le h5 hS.1)]
    exact hS.2.1 q h5 h6
  · exact hsame.mono hc1 hs1
  · intro q hq
    rcases List.mem_append.mp hq with h | h
    · exact hS.2.2 q h
    · show zc_b E ≤ q.base
      rw [hL4 q h]
      exact hgeb
end ZTW
section ZTO
variable {l : Launch} {E : zc_E} {y : MethodName} {rm : Room} {av : List Value} {G : zg_G} {cc : ByteArray} {maxL : Nat} {ret : Option FieldType} {post : Option Value → zg_G → Prop} {thr : String → Prop}
theorem zT.of (hy : plainName y.cls = true) (hlen : (lg_sl av).length ≤ maxL)
    (body : ∀ (p : Program) (e : Env) (s : State) (m : MethodId) (args : Array Value) (below : List Frame) (meth : Method) (c : Code), zWk E y cc maxL ret p s m args meth c → c.exceptionTable.toList = [] → zP E G s.heap →
      ∀ ls : Array Slot, lv_has ls maxL (lv_args 0 av) → W p l e rm s m args below meth c s.heap [] 0 0 (zTZ below E G rm post thr args s) (F0 m 0 ls [])) : zT l E y cc maxL ret rm av G post thr := by
  refine MetFree.of_bodyS (code := cc) (maxLocals := maxL) (ret := ret) hy ?_ ?_
  · intro args s m h hn
    obtain ⟨meth, c, h1, h2, h3, h4, h5, h6, -, -⟩ := Cond.code_spec hn (atoms_spec (ws := zws y cc maxL ret) h _ List.mem_cons_self)
    exact ⟨meth, c, h1, h2, h3, h4, h5, h6⟩
  · intro p e s m args below meth c s₁ B hml hP _
    obtain ⟨ha, hb0, hP, hK, hN, hQ⟩ := hP
    have hh0 : s₁.heap = s.heap := by rw [B.state]; rfl
    have hcode : (Cond.code y cc maxL ret).before args s = true := atoms_spec (ws := zws y cc maxL ret) B.pre _ List.mem_cons_self
    have hex : c.exceptionTable.toList = [] := by
      have := BodyLoose.noHandlers B hcode
      simpa [Array.isEmpty] using this
    have hW := body p e s m args below meth c ⟨B.exec, B.bytes, B.returns, fun w hw => atoms_spec (ws := zws y cc maxL ret) B.pre w (List.mem_cons_of_mem _ hw), findClass_of_methodNamed B.named, B.notSynchronized, hml, (name_of_methodNamed B.named B.method).1, hb0, hK, hN, hQ⟩ hex hP _ (lv_entry av hlen)
    have hW2 : W p l e rm s m args below meth c s.heap [] 0 0 (zTZ below E G rm post thr args s) (entryFrame m args maxL) := W.eq (by rw [ha]; exact lg_entry_eq m av maxL) hW
    obtain ⟨t, a1, o, b1, b2, b3⟩ := hW2 s₁ hh0 (Stand.of_body B)
    exact ⟨t, o, a1, b1, b2, b3⟩
end ZTO
section ZTR
variable {p : Program} {l : Launch} {e : Env} {s : State} {m : MethodId} {args : Array Value} {below : List Frame} {meth : Method} {c : Code} {H : Heap} {locs : List Loc} {cells slots : Nat}
variable {E : zc_E} {G G' : zg_G} {rm : Room} {post : Option Value → zg_G → Prop} {thr : String → Prop} {cc : ByteArray} {pc : Nat} {ls : Array Slot}
theorem zt_iret {r : Int32} {ty : FieldType} (hx : p.tables.exec = Jvm.exec) (hb : c.code = cc) (hr : meth.sig.returnType = some ty) (hlocks : meth.locks = false) (hn : narrow ty (.int r) = .int r) (hp : post (some (.int r)) G') (hG : zP E G' H) (hS : zg_S (zc_b E) s.heap H locs) (hc : cells ≤ rm.cells) (hs : slots ≤ rm.slots) (hd : decode cc pc = .ok (.ireturn, 1)) :
    W p l e rm s m args below meth c H locs cells slots (zTZ below E G rm post thr args s) (F0 m pc ls [.int r]) := by
  refine W.widen hc hs ?_
  refine W.mono (W.zret (Qc := fun _ st o t => ∃ v G', o = .returned v ∧ post v G' ∧ zP E G' t.heap ∧ va_F (zA E) st t) (free := zA E) hx hb hr hn (fun t ht _ => ⟨_, G', rfl, hp, by rw [ht]; exact hG, va_S.F hS ht⟩) hS.2.2 hd hlocks) ?_
  rintro t ⟨o, h1, h2, ⟨v, G2, e1, e2, e3, e4⟩, L, h5, h6⟩
  exact ⟨o, h1, h2, Or.inl ⟨v, G2, e1, e2, e3, e4, L, h5, h6⟩⟩
theorem zt_vret (hx : p.tables.exec = Jvm.exec) (hb : c.code = cc) (hr : meth.sig.returnType = none) (hlocks : meth.locks = false) (hp : post none G') (hG : zP E G' H) (hS : zg_S (zc_b E) s.heap H locs) (hc : cells ≤ rm.cells) (hs : slots ≤ rm.slots) (hd : decode cc pc = .ok (.return_, 1)) :
    W p l e rm s m args below meth c H locs cells slots (zTZ below E G rm post thr args s) (F0 m pc ls []) := by
  refine W.widen hc hs ?_
  refine W.mono (W.vret (Qc := fun _ st o t => ∃ v G', o = .returned v ∧ post v G' ∧ zP E G' t.heap ∧ va_F (zA E) st t) (free := zA E) hx hb hr (fun t ht _ => ⟨_, G', rfl, hp, by rw [ht]; exact hG, va_S.F hS ht⟩) hS.2.2 hd hlocks) ?_
  rintro t ⟨o, h1, h2, ⟨v, G2, e1, e2, e3, e4⟩, L, h5, h6⟩
  exact ⟨o, h1, h2, Or.inl ⟨v, G2, e1, e2, e3, e4, L, h5, h6⟩⟩
end ZTR
/-! the words that an exception of a class asks -/
def zt_st : List Cond := [.isRef (.static "java/lang/Throwable" "UNASSIGNED_STACK" "[Ljava/lang/StackTraceElement;"), .isRef (.static "java/lang/Throwable" "SUPPRESSED_SENTINEL" "Ljava/util/List;"), .laysStatic "java/lang/Throwable" "UNASSIGNED_STACK" "[Ljava/lang/StackTraceElement;", .laysStatic "java/lang/Throwable" "SUPPRESSED_SENTINEL" "Ljava/util/List;"]
def zt_ok (w : Cond) : Bool := decide (w ∈ tables_1) && (goodWord w || zn_ok w) || decide (w ∈ zt_st)
theorem zLS.isRef {s : State} {args : Array Value} {C n d : String} {A : Nat → Prop} (h : zLS C n d A s s.heap) : (Cond.isRef (.static C n d)).before args s = true := by
  obtain ⟨c, k, i, f, a, cell, v, h0, h1, h2, h3, h4, h5, h6, h7, h8, h9, h10, -⟩ := h
  have he : (Term.static C n d).eval args s none [] s = some v := by
    simp [Term.eval, State.fieldNamed?, h2, h3, h4, h5, h6, h10]
  cases v with
  | null => simp [Cond.before, Cond.holds, Cond.value, he]
  | ref a => simp [Cond.before, Cond.holds, Cond.value, he]
  | _ => cases h0
theorem zLS.lays {s : State} {args : Array Value} {C n d : String} {A : Nat → Prop} (h : zLS C n d A s s.heap) : (Cond.laysStatic C n d).before args s = true := by
  obtain ⟨c, k, i, f, a, cell, v, h0, h1, h2, h3, h4, h5, h6, h7, h8, h9, h10, -⟩ := h
  simp [Cond.before, Cond.holds, Cond.value, h1, h2, h3, h4, h5, h6, h7, h8, h9]
theorem zt_words {E : zc_E} {s : State} {args : Array Value} (hts : ∀ w ∈ zw, w.before args s = true) (hN : zN zn s) (hQ : zQ E s s.heap) {ws : List Cond} (h : ws.all zt_ok = true) : ∀ w ∈ ws, w.before args s = true := by
  intro w hw
  have h1 := List.all_eq_true.mp h w hw
  simp only [zt_ok, Bool.or_eq_true, Bool.and_eq_true, decide_eq_true_eq] at h1
  rcases h1 with ⟨h2, h3 | h3⟩ | h2
  · exact hts w (List.mem_filter.mpr ⟨List.mem_append_right _ h2, h3⟩)
  · exact hN.of (List.mem_filter.mpr ⟨h2, h3⟩)
  · simp only [zt_st, List.mem_cons, List.not_mem_nil, or_false] at h2
    rcases h2 with rfl | rfl | rfl | rfl
    · exact hQ.2.2.2.2.2.2.2.2.2.1.isRef
    · exact hQ.2.2.2.2.2.2.2.2.2.2.1.isRef
    · exact hQ.2.2.2.2.2.2.2.2.2.1.lays
    · exact hQ.2.2.2.2.2.2.2.2.2.2.1.lays
