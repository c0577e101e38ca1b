/-! CATCHING: a call of a method that may throw, in a method with handlers -/
def zt_E (h : Nat × Nat × Nat × Nat) : ExceptionTableEntry := ⟨h.1, h.2.1, h.2.2.1, h.2.2.2⟩
theorem zt_goYes {Q : Handler → Pre} {E : CtlPost} {e : Env} {d : Bool} {acts : List Action} {S : State} {f : JFrame} {a : Addr} {x : ExceptionTableEntry} {t : List ExceptionTableEntry} {k : ClassId} {cell : Cell} (hx : covers x f.pc = true) (h0 : x.catchType ≠ 0)
    (hl : S.vm.ClassLinks e.platform f.method.cls x.catchType k) (hcell : S.heap[a]? = some cell) (hobj : cell.vm.isStatics = false) (hk1 : ∃ z, S.vm.classes[cell.cls]? = some z) (hk2 : ∃ z, S.vm.classes[k]? = some z) (b : Bool) (hb : S.vm.assignable cell.cls k = b) :
    wp (findHandler.go f a (x :: t)) Q E e d acts S ↔ if b = true then Q (.found x.handlerPc) d acts (S.setVm (S.vm.noted f.method.cls x.catchType (.cls k))) else wp (findHandler.go f a t) Q E e d acts (S.setVm (S.vm.noted f.method.cls x.catchType (.cls k))) := by
  have hal : S.vm.Alike (S.vm.noted f.method.cls x.catchType (.cls k)) := (Vm.Alike.refl S.vm).noted _ _ _
  obtain ⟨z1, hz1⟩ := hk1
  obtain ⟨z2, hz2⟩ := hk2
  obtain ⟨z1', hz1', -⟩ := hal.2.2 _ _ hz1
  obtain ⟨z2', hz2', -⟩ := hal.2.2 _ _ hz2
  have hb' : (S.vm.noted f.method.cls x.catchType (.cls k)).assignable cell.cls k = b := by rw [hal.assignable]; exact hb
  obtain ⟨q1, q2⟩ := (resolveClass_links e.toSetting hl).op (op := VmOp.resolveClass f.method.cls x.catchType) rfl
  have hobj' := VmData.ne_statics_of hobj
  simp only [covers] at hx
  cases b with
  | true => simp [findHandler.go, hx, h0, q1, q2, hcell, hobj', hz1', hz2', hb', VmOp.dirties, VmOp.acts]
  | false => simp [findHandler.go, hx, h0, q1, q2, hcell, hobj', hz1', hz2', hb', VmOp.dirties, VmOp.acts]
/-- the rows of a table that the exception passes, and the one that takes it -/
def zt_way (own : String) (cls : String) (pc : Nat) (s : State) (args : Array Value) (pre : List ExceptionTableEntry) (x : ExceptionTableEntry) : Prop :=
  (∀ y ∈ pre, covers y pc = true ∧ y.catchType ≠ 0 ∧ ∃ nm, (Cond.classLink own y.catchType nm).before args s = true ∧ va_Nc cls nm s) ∧ covers x pc = true ∧ x.catchType ≠ 0 ∧ (Cond.classLink own x.catchType cls).before args s = true ∧ va_Nw (.castable cls cls) s
theorem zt_through {e : Env} {s : State} {f : JFrame} {a : Addr} {cell : Cell} {own cls : String} {args : Array Value} (hpl : e.platform.magicAccessors = ({} : Platform).magicAccessors) (hown : s.vm.findClass own = some f.method.cls) (hcls : s.vm.findClass cls = some cell.cls) (hobj : cell.vm.isStatics = false) (x : ExceptionTableEntry) (rest : List ExceptionTableEntry) :
    ∀ (pre : List ExceptionTableEntry) (S : State), s.WarmedH S.vm → S.heap[a]? = some cell → zt_way own cls f.pc s args pre x →
      ∃ vm', s.WarmedH vm' ∧ ∀ (Q : Handler → Pre) (E : CtlPost) (d : Bool) (acts : List Action), wp (findHandler.go f a (pre ++ x :: rest)) Q E e d acts S ↔ Q (.found x.handlerPc) d acts (S.setVm vm') := by
  obtain ⟨z0, hz0, -⟩ := Vm.findClass_spec hcls
  intro pre
  induction pre with
  | nil =>
    intro S hW hcell hw
    obtain ⟨-, hx, h0, hl, hca⟩ := hw
    obtain ⟨k, hk, hcl⟩ := Cond.classLink_spec hown hl e.platform hpl
    cases hcls.symm.trans hk
    obtain ⟨dk, _, _, kt, hd, _, _, _, _, hkt, _, hopen⟩ := hcl.here
    obtain ⟨z0', hz0', -⟩ := hW.alike.2.2 _ _ hz0
    obtain ⟨c1, t1, f1, f2, f3⟩ := Cond.castable_spec (va_Nw.use (A := args) rfl hca)
    cases hcls.symm.trans f1
    cases hcls.symm.trans f2
    exact ⟨_, hW.noted hd hopen (State.rightAt_cls hcl), fun Q E d acts => by
      rw [List.nil_append, zt_goYes hx h0 (hW.classLinks hcl) hcell hobj ⟨z0', hz0'⟩ ⟨z0', hz0'⟩ true (by rw [hW.alike.assignable]; exact f3), if_pos rfl]⟩
  | cons y ys ih =>
    intro S hW hcell hw
    obtain ⟨hp, hx, h0, hl, hca⟩ := hw
    obtain ⟨hy, hy0, nm, hyl, cA, tA, n1, n2, n3⟩ := hp y List.mem_cons_self
    cases hcls.symm.trans n1
    obtain ⟨k, hk, hcl⟩ := Cond.classLink_spec hown hyl e.platform hpl
    cases n2.symm.trans hk
    obtain ⟨dk, _, _, kt, hd, _, _, _, _, hkt, _, hopen⟩ := hcl.here
    obtain ⟨z0', hz0', -⟩ := hW.alike.2.2 _ _ hz0
    obtain ⟨kt', hkt', -⟩ := hW.alike.2.2 _ _ hkt
    obtain ⟨vm', hW', hq⟩ := ih (S.setVm (S.vm.noted f.method.cls y.catchType (.cls tA))) (hW.noted hd hopen (State.rightAt_cls hcl)) hcell ⟨fun z hz => hp z (List.mem_cons_of_mem _ hz), hx, h0, hl, hca⟩
    exact ⟨vm', hW', fun Q E d acts => by
      rw [List.cons_append, zt_goYes hy hy0 (hW.classLinks hcl) hcell hobj ⟨z0', hz0'⟩ ⟨kt', hkt'⟩ false (by rw [hW.alike.assignable]; exact n3), if_neg (by decide)]
      exact hq Q E d acts⟩
theorem zt_caught {tb : Tables} {e : Env} {s target : State} {g : JFrame} {c : Code} {below : List Frame} {a : Addr} (h : At s g.method c below) {pc : Nat} {vm' : Vm}
    (hfind : ∀ (Q : Handler → Pre) (E : CtlPost) (d : Bool) (acts : List Action), wp (findHandler g a) Q E e d acts ((s.setTop g).pushFrame (.throwing a)) ↔ Q (.found pc) d acts (((s.setTop g).pushFrame (.throwing a)).setVm vm'))
    (hrest : Steps tb e below ((s.setVm vm').setTop { g with pc := pc, stack := [.ref a] }) target) : Steps tb e below ((s.setTop g).pushFrame (.throwing a)) target := by
  obtain ⟨hgo, hw⟩ := h.throwing a
  refine Steps.head hgo hw ?_
  have hfr := frames_entered (g := g) h.top (.throwing a)
  have hst : ∀ r, (stepThrowing e ((s.setTop g).pushFrame (.throwing a)) a (.java g :: r)).1 = (((s.setTop g).pushFrame (.throwing a)).setVm vm').setFrames (.java { g with pc := pc, stack := [.ref a] } :: r) := by
    intro r
    simp only [stepThrowing, searchFrame, vmDo]
    generalize hr : Sem.go _ e false [] _ = res
    obtain ⟨as, rfl, -⟩ := Sem.eq_ok_of hr (a := Handler.found pc) (s' := ((s.setTop g).pushFrame (.throwing a)).setVm vm') (acts' := []) (by simp [hfind _ _ _ _])
    rfl
  rw [stepThread_throwing hfr, hst]
  obtain ⟨g₀, hg⟩ := Option.isSome_iff_exists.mp h.top
  obtain ⟨r, hr⟩ := State.topJava?_eq_some.mp hg
  have hr' : (s.setVm vm').frames = .java g₀ :: r := hr
  have e1 : (((s.setTop g).pushFrame (.throwing a)).setVm vm').setFrames (.java { g with pc := pc, stack := [.ref a] } :: s.frames.tail) = (s.setVm vm').setTop { g with pc := pc, stack := [.ref a] } := by
    rw [State.setTop_of_frames _ hr', State.pushFrame, State.setTop_of_frames _ hr, State.setFrames_setFrames]
    show ((s.setVm vm').setFrames _).setFrames _ = _
    rw [State.setFrames_setFrames, hr]
    rfl
  rw [e1]
  exact hrest
section ZTC
variable {p : Program} {l : Launch} {e : Env} {R : Room} {s : State} {m : MethodId} {args : Array Value} {below : List Frame} {meth : Method} {c : Code} {H : Heap} {locs : List Loc} {cells slots : Nat} {Q : State → Prop}
variable {E : zc_E} {G : zg_G} {y : MethodName} {ccY cc : ByteArray} {maxLY nL n index pc b : Nat} {retY : Option FieldType} {rmY : Room} {postY : Option Value → zg_G → Prop} {thrY : String → Prop} {own C : String} {As rest st0 : List Value} {ls : Array Slot} {hnd : String → Nat}
set_option maxHeartbeats 2000000 in
theorem zt_callV (S : CallFix p m c cc nL s args zw own) (hM : zT l E y ccY maxLY retY rmY (.ref b :: As) G postY thrY) (cw : CallW R s args own C index y ccY maxLY retY (zws y ccY maxLY retY) rmY rmY.cells rmY.slots n) (hp : PreV s H C b (va_Pc (.ref b :: As) (zB E G)) As)
    (hn : As.length = n) (hsize : ls.size = nL) (hst : st0 = As.reverse ++ .ref b :: rest) (hW8 : (rest.map fun v => v.category).sum ≤ 8) (hdg : decode cc pc = .ok (.invokevirtual index, 3)) (hf : cells + rmY.cells ≤ R.cells ∧ slots + rmY.slots ≤ R.slots) (hS : zg_S (zc_b E) s.heap H locs)
    (hway : ∀ cls, thrY cls → ∃ (pre : List ExceptionTableEntry) (x : ExceptionTableEntry) (tl : List ExceptionTableEntry), c.exceptionTable.toList = pre ++ x :: tl ∧ zt_way own cls pc s args pre x ∧ x.handlerPc = hnd cls)
    (kret : ∀ (v : Option Value) (G' : zg_G) (H1 : Heap) (locs1 : List Loc), postY v G' → zP E G' H1 → zg_S (zc_b E) s.heap H1 locs1 → W p l e R s m args below meth c H1 locs1 (cells + rmY.cells) (slots + rmY.slots) Q (F0 m (pc + 3) ls (v.toList ++ rest)))
    (kthr : ∀ (cls : String) (xa : Nat) (H1 : Heap) (locs1 : List Loc), thrY cls → zP E G H1 → zg_S (zc_b E) s.heap H1 locs1 → W p l e R s m args below meth c H1 locs1 (cells + rmY.cells) (slots + rmY.slots) Q (F0 m (hnd cls) ls [.ref xa])) :
    W p l e R s m args below meth c H locs cells slots Q (F0 m pc ls st0) := by
  obtain ⟨⟨hrc, hrs, hfr, hlo, hws, hcw, hcode, hini, hy, hlen, hl⟩, hin, hse⟩ := cw
  obtain ⟨hx, hb, hml, ho, hts⟩ := S
  obtain ⟨hblind, ⟨cellB, hcB, hoB, hclB⟩, hPc⟩ := hp
  intro T hT X
  have hpl : e.platform.magicAccessors = ({} : Platform).magicAccessors := by rw [X.admits.platform]
  obtain ⟨mk, methM, hnamed, hmethM, hstM, habM⟩ := Cond.instanceMethod_spec hin
  obtain ⟨methM', cM, hmethM', -, -, -, -, -, -, hsigM⟩ := Cond.code_spec hnamed hcode
  cases hmethM.symm.trans hmethM'
  obtain ⟨c2, r2, m2, q1, q2, q3, q4, kP, hkP, hkPi⟩ := Cond.selects_spec hse
  cases hclB.symm.trans q1
  cases (State.methodFound?_of_named hnamed hy).symm.trans q2
  cases hnamed.symm.trans q3
  have hselP : selectMethod e.platform s.vm cellB.cls mk = .method mk := by rw [Launch.admits_selectMethod X.admits]; exact q4
  obtain ⟨vm₁, X₁, hstep₁⟩ := X.invokevirtual hx ho hl hnamed hmethM hstM hkP hkPi hy (a := b) (cell := cellB) (by rw [hT]; exact hcB) (VmData.ne_statics_of hoB) hselP hmethM habM hkP hkPi (g := F0 m pc ls st0) rfl (argsL := As) (rest := rest) (hn.trans (hlen _ hsigM)) hst (by rw [hb]; exact hdg)
  have hP1 : va_Pc (.ref b :: As) (zB E G) (Value.ref b :: As).toArray (T.setVm vm₁) := hPc (T.setVm vm₁) hT X₁.warmed
  have hnm1 : (T.setVm vm₁).methodNamed? y = some mk := X₁.named hnamed
  obtain ⟨methY, cY, hmY, hcY, -, hlY, -⟩ := Cond.code_spec hnm1 (hws _ hcw (Value.ref b :: As).toArray (T.setVm vm₁) X₁.warmed)
  obtain ⟨kY, hkY, -⟩ := className_of_methodNamed hnm1
  have hini1 : (Cond.initialized y.cls).before (Value.ref b :: As).toArray (T.setVm vm₁) = true := word_at X₁.warmed (Or.inl (by first | rfl | simp [Cond.onTables, Cond.keeps, Cond.steady])) hini
  have hinitY : kY.init = .initialized := Cond.initialized_spec (findClass_of_methodNamed hnm1) hkY hini1
  have hdg1 : decode c.code (F0 m pc ls rest).pc = .ok (.invokevirtual index, 3) := by rw [hb]; exact hdg
  have happ : (headSpec (zws y ccY maxLY retY) rmY).appliesLoose y e.platform ((T.setVm vm₁).calling (F0 m pc ls rest) mk (Value.ref b :: As).toArray) = true :=
    Spec.appliesLoose_calling (g := F0 m pc ls rest) X₁.here hdg1 hnm1 hkY hinitY
      (X₁.room_calling (g := F0 m pc ls rest) (R' := rmY) (hsize.trans hml.symm) hmY hcY hfr (by rw [hlY]; show 2 * 0 + (rest.map fun v => v.category).sum + (maxLY + 11) + rmY.locals ≤ R.locals; omega) hf.1 hf.2) (atoms_intro fun w hw => hws w hw _ _ X₁.warmed)
  obtain ⟨mid, hmid⟩ := X₁.here.above
  have hfr2 : ((T.setVm vm₁).setTop (F0 m pc ls rest)).frames = (.java (F0 m pc ls rest) :: mid) ++ below := by rw [State.frames_setTop' _ X₁.here.top, hmid]; rfl
  obtain ⟨o, s₂, hsteps, -, hend, hq⟩ := Steps.callFree hM p X₁.admits X₁.cas X₁.clock (acts := []) hfr2 happ (hblind _ _ (F0 m pc ls rest) mk hP1) trivial
  have hq' : zTQ E G rmY postY thrY (Value.ref b :: As).toArray ((T.setVm vm₁).calling (F0 m pc ls rest) mk (Value.ref b :: As).toArray) o s₂ := hq
  rw [State.frames_setTop' _ X₁.here.top, X₁.tail] at hend
  have goS : ∀ (T' : State) (L : List Loc), T'.heap = s₂.heap → va_F (zA E) ((T.setVm vm₁).calling (F0 m pc ls rest) mk (Value.ref b :: As).toArray) s₂ → (∀ q ∈ L, zA E q.base) → zg_S (zc_b E) s.heap T'.heap (locs ++ L) := by
    intro T' L hh hF hL
    have hF1 : H.size ≤ s₂.heap.size := by rw [← hT]; exact hF.1
    have hF2 : ∀ q, q < H.size → ¬ zc_b E ≤ q → s₂.heap[q]? = H[q]? := by rw [← hT]; exact hF.2
    refine ⟨by rw [hh]; exact Nat.le_trans hS.1 hF1, fun q h1 h2 => ?_, fun q hq => ?_⟩
    · rw [hh, hF2 q (Nat.lt_of_lt_of_le h1 hS.1) h2]
      exact hS.2.1 q h1 h2
    · rcases List.mem_append.mp hq with h | h
      · exact hS.2.2 q h
      · exact hL q h
  rcases hq' with ⟨v, G', rfl, hpv, hG', hF, L, hfe, hL⟩ | ⟨xa, cls, ce, rfl, hth, hce, hcv, hcc, hG', hF, hWt, L, hsm, hL⟩
  · obtain ⟨-, hW₂, hsame⟩ := hfe
    obtain ⟨T', X', -, -, ht⟩ := X₁.outOf (g := F0 m pc ls rest) rfl hdg1 hend hW₂ hsame
    have hh : T'.heap = s₂.heap := by rw [ht]; simp [State.setTop, State.modifyTopJava]
    obtain ⟨t2, a1, b1⟩ := kret v G' T'.heap (locs ++ L) hpv (by rw [hh]; exact hG') (goS T' L hh hF hL) T' rfl X'
    exact ⟨t2, hstep₁ _ (fun acts => by rw [doInvoke_state]; exact hsteps.trans (by rw [ht]; exact a1)), b1⟩
  · obtain ⟨T', X', -, -, ht⟩ := X₁.outOfThrown (g := F0 m pc ls rest) rfl hend hWt hsm
    have hh : T'.heap = s₂.heap := by rw [ht]; simp [State.pushFrame, State.setFrames, State.setTop, State.modifyTopJava]
    obtain ⟨pre, x, tl, hsplit, hway1, hhp⟩ := hway cls hth
    have hccs : s.vm.findClass cls = some ce.cls := by rw [← X₁.warmed.alike.findClass]; exact hcc
    obtain ⟨vm', hW', hfind⟩ := zt_through (e := e) (s := s) (f := F0 m pc ls rest) (a := xa) (cell := ce) (args := args) hpl ho hccs hcv x tl pre ((T'.setTop (F0 m pc ls rest)).pushFrame (.throwing xa)) X'.warmed (by rw [← ht]; exact hce) hway1
    have X'' := X'.noted hW'
    obtain ⟨t2, a1, b1⟩ := kthr cls xa T'.heap (locs ++ L) hth (by rw [hh]; exact hG') (goS T' L hh hF hL) (T'.setVm vm') rfl X''
    refine ⟨t2, hstep₁ _ (fun acts => ?_), b1⟩
    rw [doInvoke_state]
    refine hsteps.trans ?_
    rw [ht]
    refine zt_caught (g := F0 m pc ls rest) (pc := x.handlerPc) (vm' := vm') X'.here (fun Q E d acts => ?_) (by rw [hhp]; exact a1)
    rw [W.findHandler_eq (meth := meth) (code := c) X'.method' X'.code, hsplit]
    exact hfind Q E d acts
end ZTC
