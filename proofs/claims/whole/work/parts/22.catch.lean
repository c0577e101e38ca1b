/-! CATCHING: a call of a method that may throw, in a method with handlers -/
def zt_E (h : Nat × Nat × Nat × Nat) : ExceptionTableEntry := ⟨h.1, h.2.1, h.2.2.1, h.2.2.2⟩
theorem zt_goYes {Q : Handler → Pre} {E : CtlPost} {e : Env} {d : Bool} {acts : List Action} {S : State} {f : JFrame} {a : Addr} {x : ExceptionTableEntry} {t : List ExceptionTableEntry} {k : ClassId} {cell : Cell} (hx : covers x f.pc = true) (h0 : x.catchType ≠ 0)
    (hl : S.vm.ClassLinks e.platform f.method.cls x.catchType k) (hcell : S.heap[a]? = some cell) (hobj : cell.vm.isStatics = false) (hk1 : ∃ z, S.vm.classes[cell.cls]? = some z) (hk2 : ∃ z, S.vm.classes[k]? = some z) (b : Bool) (hb : S.vm.assignable cell.cls k = b) :
    wp (findHandler.go f a (x :: t)) Q E e d acts S ↔ if b = true then Q (.found x.handlerPc) d acts (S.setVm (S.vm.noted f.method.cls x.catchType (.cls k))) else wp (findHandler.go f a t) Q E e d acts (S.setVm (S.vm.noted f.method.cls x.catchType (.cls k))) := by
  have hal : S.vm.Alike (S.vm.noted f.method.cls x.catchType (.cls k)) := (Vm.Alike.refl S.vm).noted _ _ _
  obtain ⟨z1, hz1⟩ := hk1
  obtain ⟨z2, hz2⟩ := hk2
  obtain ⟨z1', hz1', -⟩ := hal.2.2 _ _ hz1
  obtain ⟨z2', hz2', -⟩ := hal.2.2 _ _ hz2
  have hb' : (S.vm.noted f.method.cls x.catchType (.cls k)).assignable cell.cls k = b := by rw [hal.assignable]; exact hb
  obtain ⟨q1, q2⟩ := (resolveClass_links e.toSetting hl).op (op := VmOp.resolveClass f.method.cls x.catchType) rfl
  have hobj' := VmData.ne_statics_of hobj
  simp only [covers] at hx
  cases b with
  | true => simp [findHandler.go, hx, h0, q1, q2, hcell, hobj', hz1', hz2', hb', VmOp.dirties, VmOp.acts]
  | false => simp [findHandler.go, hx, h0, q1, q2, hcell, hobj', hz1', hz2', hb', VmOp.dirties, VmOp.acts]
/-- the rows of a table that the exception passes, and the one that takes it -/
def zt_way (own : String) (cls : String) (pc : Nat) (s : State) (args : Array Value) (pre : List ExceptionTableEntry) (x : ExceptionTableEntry) : Prop :=
  (∀ y ∈ pre, covers y pc = true ∧ y.catchType ≠ 0 ∧ ∃ nm, (Cond.classLink own y.catchType nm).before args s = true ∧ va_Nc cls nm s) ∧ covers x pc = true ∧ x.catchType ≠ 0 ∧ (Cond.classLink own x.catchType cls).before args s = true ∧ va_Nw (.castable cls cls) s
theorem zt_through {e : Env} {s : State} {f : JFrame} {a : Addr} {cell : Cell} {own cls : String} {args : Array Value} (hpl : e.platform.magicAccessors = ({} : Platform).magicAccessors) (hown : s.vm.findClass own = some f.method.cls) (hcls : s.vm.findClass cls = some cell.cls) (hobj : cell.vm.isStatics = false) (x : ExceptionTableEntry) (rest : List ExceptionTableEntry) :
    ∀ (pre : List ExceptionTableEntry) (S : State), s.WarmedH S.vm → S.heap[a]? = some cell → zt_way own cls f.pc s args pre x →
      ∃ vm', s.WarmedH vm' ∧ ∀ (Q : Handler → Pre) (E : CtlPost) (d : Bool) (acts : List Action), wp (findHandler.go f a (pre ++ x :: rest)) Q E e d acts S ↔ Q (.found x.handlerPc) d acts (S.setVm vm') := by
  obtain ⟨z0, hz0, -⟩ := Vm.findClass_spec hcls
  intro pre
  induction pre with
  | nil =>
    intro S hW hcell hw
    obtain ⟨-, hx, h0, hl, hca⟩ := hw
    obtain ⟨k, hk, hcl⟩ := Cond.classLink_spec hown hl e.platform hpl
    cases hcls.symm.trans hk
    obtain ⟨dk, _, _, kt, hd, _, _, _, _, hkt, _, hopen⟩ := hcl.here
    obtain ⟨z0', hz0', -⟩ := hW.alike.2.2 _ _ hz0
    obtain ⟨c1, t1, f1, f2, f3⟩ := Cond.castable_spec (va_Nw.use (A := args) rfl hca)
    cases hcls.symm.trans f1
    cases hcls.symm.trans f2
    exact ⟨_, hW.noted hd hopen (State.rightAt_cls hcl), fun Q E d acts => by
      rw [List.nil_append, zt_goYes hx h0 (hW.classLinks hcl) hcell hobj ⟨z0', hz0'⟩ ⟨z0', hz0'⟩ true (by rw [hW.alike.assignable]; exact f3), if_pos rfl]⟩
  | cons y ys ih =>
    intro S hW hcell hw
    obtain ⟨hp, hx, h0, hl, hca⟩ := hw
    obtain ⟨hy, hy0, nm, hyl, cA, tA, n1, n2, n3⟩ := hp y List.mem_cons_self
    cases hcls.symm.trans n1
    obtain ⟨k, hk, hcl⟩ := Cond.classLink_spec hown hyl e.platform hpl
    cases n2.symm.trans hk
    obtain ⟨dk, _, _, kt, hd, _, _, _, _, hkt, _, hopen⟩ := hcl.here
    obtain ⟨z0', hz0', -⟩ := hW.alike.2.2 _ _ hz0
    obtain ⟨kt', hkt', -⟩ := hW.alike.2.2 _ _ hkt
    obtain ⟨vm', hW', hq⟩ := ih (S.setVm (S.vm.noted f.method.cls y.catchType (.cls tA))) (hW.noted hd hopen (State.rightAt_cls hcl)) hcell ⟨fun z hz => hp z (List.mem_cons_of_mem _ hz), hx, h0, hl, hca⟩
    exact ⟨vm', hW', fun Q E d acts => by
      rw [List.cons_append, zt_goYes hy hy0 (hW.classLinks hcl) hcell hobj ⟨z0', hz0'⟩ ⟨kt', hkt'⟩ false (by rw [hW.alike.assignable]; exact n3), if_neg (by decide)]
      exact hq Q E d acts⟩
