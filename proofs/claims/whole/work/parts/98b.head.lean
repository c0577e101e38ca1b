theorem w_38 : (.instantiable "ZoneAnswers" 3 : Cond) ∈ zw := zw_at 38 (by decide +kernel) (by decide +kernel)
theorem w_1246 : (.instantiable "ZoneAnswersModel" 21 : Cond) ∈ zw := zw_at 1246 (by decide +kernel) (by decide +kernel)
theorem w_1604 : (.arrayClass .long : Cond) ∈ zw := zw_at 1604 (by decide +kernel) (by decide +kernel)
/-! THE CLAIM OUT OF ONE WALK OF THE LAW'S BODY. Your part is whole_start (and what it stands on); all else here is the same for every law, but numbers. -/
def R_law : String := "ZoneAnswersLaw"
def lw_P (b : Addr) (xs : List Int32) (args : Array Value) (s : State) : Prop := args = #[.ref b] ∧ s.IntsAt b xs ∧ xs.length ≤ 3072 ∧ (Jvm.Cond.and given_1 narrow_1).before args s = true
def lw_Q (_ : Array Value) (s : State) (o : Outcome) (t : State) : Prop := o = .returned (some (.int 1)) ∧ Framed s o t [] 601024 7293034
def lw_Z (below : List Frame) (a : Array Value) (s : State) : State → Prop := fun t => ∃ o, t.status = .running ∧ Ended t below o ∧ lw_Q a s o t
/-- the law's own end, with 1 on the stack, nothing written that was there before, its room as the claim has it -/
theorem lw_ret {p : Program} {l : Launch} {e : Env} {s : State} {m : MethodId} {below : List Frame} {meth : Method} {c : Code} {b : Nat} (hx : p.tables.exec = Jvm.exec) (hb : c.code = code) (hr : meth.sig.returnType = ret) (hlocks : meth.locks = false) {pc : Nat} {H : Heap} {ls : Array Slot} (hdg : decode code pc = .ok (.ireturn, 1)) : W p l e room_1 s m #[Value.ref b] below meth c H [] 601024 7293034 (lw_Z below #[Value.ref b] s) (F0 m pc ls [.int 1]) := by
  intro T hT X
  obtain ⟨fs, hret, hrun, hended, hW, hframe⟩ := X.leave (v := some (.int 1)) (hlocks := hlocks) (fun h => by rw [hr] at h; cases h)
  have hmeth' : T.vm.method? m = some meth := X.method'
  refine ⟨T.setFrames fs, ?_, .returned (some (.int 1)), hrun, hended, rfl, ⟨_, rfl⟩, hW, hframe⟩
  jvm_step X.here [X.here.top, hx, hb, hdg, hmeth', hr, ret, narrow_b1]
  (try refine ⟨rfl, ?_⟩); (try refine ⟨rfl, ?_⟩)
  first | (intro acts; rw [hret _ acts rfl rfl rfl]) | rw [hret _ _ rfl rfl rfl]
  exact Steps.refl _
/-- what holds at the law's entry: the machine, the code, the tables' words (any of lw_tbl by 'hts w (by decide +kernel)'), the script of L ints xs at the cell b, what the Statement gives of the start (any of its parts by flat_of_before) -/
def lw_At (p : Program) (s : State) (m : MethodId) (meth : Method) (c : Code) (b L : Nat) (xs : Nat → Int32) : Prop :=
  p.tables.exec = Jvm.exec ∧ c.code = code ∧ meth.sig.returnType = ret ∧ c.maxLocals = 7 ∧ s.vm.findClass R_law = some m.cls ∧ (∀ w ∈ lw_tbl, w.before #[Value.ref b] s = true) ∧ va_X b L xs s s.heap ∧ b < s.heap.size ∧ meth.locks = false ∧ (Jvm.Cond.and given_1 narrow_1).before #[Value.ref b] s = true
theorem zs_arr {s : State} {args : Array Value} {ty : FieldType} (h : (Cond.arrayClass ty).before args s = true) : ∃ cA : ClassId, ArrOfT s cA ty ∧ s.vm.findClass ("[" ++ ty.toString) = some cA := by
  obtain ⟨c, k, comp, h1, h2, h3⟩ := Cond.arrayClass_spec h
  exact ⟨c, fun n z => ⟨fun k h => (by cases h), k, h2, comp, h3⟩, h1⟩
theorem zs_obj {s : State} {C : String} (h : va_AO C s) : ∃ cA : ClassId, ArrOfT s cA (.object C) ∧ va_RA s cA (.object C) := by
  obtain ⟨comp, c, k, h1, h2, h3, h4, h5⟩ := Cond.arrayOver_spec h
  exact ⟨c, fun n z => ⟨fun k h => (by cases h), k, h3, comp, h4⟩, k, comp, h3, h4, h1, h5⟩
theorem zs_ls {s : State} {args : Array Value} {C n d : String} {A : Nat → Prop} (hl : (Cond.laysStatic C n d).before args s = true) (hr : (Cond.isRef (.static C n d)).before args s = true) (hA : ∀ a : Nat, a < s.heap.size → ¬ A a) : zLS C n d A s s.heap := by
  obtain ⟨c, k, i, f, a, cell, h1, h2, h3, h4, h5, h6, h7, h8, h9⟩ := Cond.laysStatic_spec hl
  obtain ⟨v, e1, e2⟩ := Cond.isRef_spec hr
  obtain ⟨-, a', cell', ha', hcell', -, hslot⟩ := Term.static_spec h2 e1
  cases h4.symm.trans ha'
  cases h5.symm.trans hcell'
  exact ⟨c, k, i, f, a, cell, v, e2, h1, h2, h3, h4, h5, h6, h7, h8, h9, hslot, hA a (Array.getElem?_eq_some_iff.mp h5).1⟩
theorem zs_len {s : State} {args : Array Value} {t : Term} {z : Int32} (h : (Cond.eq t (.int z)).before args s = true) : t.eval args s none [] s = some (.int z) := by
  cases hv : t.eval args s none [] s with
  | none => simp [Cond.before, Cond.holds, Cond.value, hv] at h
  | some w =>
    have hz : (Term.int z).eval args s none [] s = some (.int z) := rfl
    simp only [Cond.before, Cond.holds, Cond.value, hv, hz] at h
    cases w <;> simp_all
theorem zs_bb {s : State} (h : zAA s) : ∃ cA : ClassId, ArrOfT s cA (.array .byte) ∧ va_RA s cA (.array .byte) := by
  obtain ⟨comp, c, k, h1, h2, h3, h4, h5⟩ := arrayOverA_spec h
  exact ⟨c, fun n z => ⟨fun k h => (by cases h), k, h3, comp, h4⟩, h5⟩
set_option maxRecDepth 100000 in
theorem zs_start {p : Program} {s : State} {m : MethodId} {meth : Method} {c : Code} {sc L : Nat} {xs : Nat → Int32} (C0 : lw_At p s m meth c sc L xs) : ∃ E : zc_E, zc_b E = s.heap.size ∧ zK E s ∧ zN zn s ∧ zQ E s s.heap := by
  obtain ⟨-, -, -, -, -, hts, -, -, -, hgv⟩ := C0
  have hz : ∀ w ∈ zw, w.before #[Value.ref sc] s = true := fun w hw => hts w (List.mem_filter.mp hw).1
  have hA : ∀ a : Nat, a < s.heap.size → ¬ (fun q : Nat => s.heap.size ≤ q) a := fun a h => Nat.not_le.mpr h
  obtain ⟨c0, i0, k0⟩ := u_known (C := "java/util/ArrayList") (T := T_AL) (N := 3) (n := 3) hz zi_AL (hz _ w_66)
  obtain ⟨c1, i1, k1⟩ := u_known (C := "ZoneAnswers$Answer") (T := T_An) (N := 6) (n := 6) hz zi_An (hz _ w_667)
  obtain ⟨c2, i2, k2⟩ := u_known (C := "ZoneAnswers$Datum") (T := T_Da) (N := 2) (n := 2) hz zi_Da (hz _ w_134)
  obtain ⟨c3, i3, k3⟩ := u_known (C := "ZoneAnswers$Name") (T := T_Na) (N := 2) (n := 2) hz zi_Na (hz _ w_108)
  obtain ⟨c4, i4, k4⟩ := u_known (C := "ZoneAnswers$Owner") (T := T_Ow) (N := 3) (n := 3) hz zi_Ow (hz _ w_197)
  obtain ⟨c5, i5, k5⟩ := u_known (C := "ZoneAnswers$Rrset") (T := T_Rr) (N := 3) (n := 3) hz zi_Rr (hz _ w_609)
  obtain ⟨c6, i6, k6⟩ := u_known (C := "ZoneAnswers$Section") (T := T_Se) (N := 1) (n := 1) hz zi_Se (hz _ w_673)
  obtain ⟨c7, i7, k7⟩ := u_known (C := "ZoneAnswers$Tape") (T := T_Ta) (N := 2) (n := 2) hz zi_Ta (hz _ w_46)
  obtain ⟨c8, i8, k8⟩ := u_known (C := "ZoneAnswers$Told") (T := T_To) (N := 4) (n := 4) hz zi_To (hz _ w_1039)
  obtain ⟨c9, i9, k9⟩ := u_known (C := "ZoneAnswers$Zone") (T := T_Zo) (N := 5) (n := 5) hz zi_Zo (hz _ w_60)
  obtain ⟨c10, i10, k10⟩ := u_known (C := "ZoneAnswers") (T := T_ZA) (N := 3) (n := 3) hz zi_ZA (hz _ w_38)
  obtain ⟨c11, i11, k11⟩ := u_known (C := "ZoneAnswersModel") (T := T_Mo) (N := 21) (n := 21) hz zi_Mo (hz _ w_1246)
  obtain ⟨c12, i12, k12⟩ := u_known (C := "ZoneAnswersModel$Rec") (T := T_Re) (N := 5) (n := 5) hz zi_Re (hz _ w_1260)
  obtain ⟨a0, ha0, hn0⟩ := zs_arr (hz _ w_58)
  obtain ⟨a1, ha1, hn1⟩ := zs_arr (hz _ w_1196)
  obtain ⟨a2, ha2, hn2⟩ := zs_arr (hz _ w_1604)
  have o3 : va_AO "java/lang/Object" s := va_AO.of (hts (.arrayOver (.object "java/lang/Object")) (List.mem_append_right _ (List.mem_of_getElem? (l := tables_1) (i := 597) (by decide +kernel))))
  have o4 : va_AO "ZoneAnswersModel$Rec" s := va_AO.of (hts (.arrayOver (.object "ZoneAnswersModel$Rec")) (List.mem_append_right _ (List.mem_of_getElem? (l := tables_1) (i := 1253) (by decide +kernel))))
  have o5 : zAA s := zAt_use (A := #[Value.ref sc]) (hts (.arrayOver (.array .byte)) (List.mem_append_right _ (List.mem_of_getElem? (l := tables_1) (i := 1255) (by decide +kernel))))
  obtain ⟨a3, ha3, hn3⟩ := zs_obj o3
  obtain ⟨a4, ha4, hn4⟩ := zs_obj o4
  obtain ⟨a5, ha5, hn5⟩ := zs_bb o5
  have hs := flat_of_before _ hgv
  obtain ⟨t0, ht0, hT0⟩ := va_Tof (args := #[Value.ref sc]) (s := s) (tm := .static "java/util/ArrayList" "DEFAULTCAPACITY_EMPTY_ELEMENTDATA" "[Ljava/lang/Object;") (ty := .object "java/lang/Object") (N := 0) (f := fun _ => .null) (A := fun q : Nat => s.heap.size ≤ q) (by decide) (hs _ (by decide +kernel)) (zs_len (hs (.eq (.length (.static "java/util/ArrayList" "DEFAULTCAPACITY_EMPTY_ELEMENTDATA" "[Ljava/lang/Object;")) (.int 0)) (by decide +kernel))) (fun j hj => absurd hj (Nat.not_lt_zero j)) hA
  obtain ⟨mi, hmi⟩ := va_Mi.of (C := "[Ljava/lang/Object;") (hs (.isRef (.mirror "[Ljava/lang/Object;")) (by decide +kernel))
  have hzx : ∀ q ∈ zxp, va_Nc q.1 q.2 s := by
    intro q hq
    have hq2 : Cond.not (.castable q.1 q.2) ∈ flatC (Jvm.Cond.and given_1 narrow_1) := by
      revert q
      decide +kernel
    exact va_Nc.of (hs _ hq2)
  refine ⟨((fun k => [c0, c1, c2, c3, c4, c5, c6, c7, c8, c9, c10, c11, c12].getD k c0, fun k => [i0, i1, i2, i3, i4, i5, i6, i7, i8, i9, i10, i11, i12].getD k i0), fun k => [a0, a1, a2, a3, a4, a5].getD k a0, s.heap.size, fun k => if k = 0 then t0 else mi), rfl, ⟨?_, ?_⟩, ?_, ?_⟩
  · intro k q hq
    have hk : k < 13 := (List.getElem?_eq_some_iff.mp hq).1
    rcases (show k = 0 ∨ k = 1 ∨ k = 2 ∨ k = 3 ∨ k = 4 ∨ k = 5 ∨ k = 6 ∨ k = 7 ∨ k = 8 ∨ k = 9 ∨ k = 10 ∨ k = 11 ∨ k = 12 by omega) with rfl | rfl | rfl | rfl | rfl | rfl | rfl | rfl | rfl | rfl | rfl | rfl | rfl
    · cases hq; exact k0
    · cases hq; exact k1
    · cases hq; exact k2
    · cases hq; exact k3
    · cases hq; exact k4
    · cases hq; exact k5
    · cases hq; exact k6
    · cases hq; exact k7
    · cases hq; exact k8
    · cases hq; exact k9
    · cases hq; exact k10
    · cases hq; exact k11
    · cases hq; exact k12
  · intro k q hq
    have hk : k < 6 := (List.getElem?_eq_some_iff.mp hq).1
    rcases (show k = 0 ∨ k = 1 ∨ k = 2 ∨ k = 3 ∨ k = 4 ∨ k = 5 by omega) with rfl | rfl | rfl | rfl | rfl | rfl
    · cases hq; exact ⟨ha0, hn0⟩
    · cases hq; exact ⟨ha1, hn1⟩
    · cases hq; exact ⟨ha2, hn2⟩
    · cases hq; exact ⟨ha3, hn3⟩
    · cases hq; exact ⟨ha4, hn4⟩
    · cases hq; exact ⟨ha5, hn5⟩
  · exact fun w hw => ⟨(List.mem_filter.mp hw).2, va_Nw.of (zn_tab (List.mem_filter.mp hw).2) (hts w (List.mem_append_right _ (List.mem_filter.mp hw).1))⟩
  · exact ⟨va_Zof (hts (.laysStatic "java/util/ArrayList" "DEFAULTCAPACITY_EMPTY_ELEMENTDATA" "[Ljava/lang/Object;") (List.mem_append_right _ (List.mem_of_getElem? (l := tables_1) (i := 78) (by decide +kernel)))) (hz _ w_6) ht0 hA, hT0, hmi, o3, o4, va_Dc.of (hts (.declares ⟨"java/lang/Object", "getClass", "()Ljava/lang/Class;"⟩) (List.mem_append_right _ (List.mem_of_getElem? (l := tables_1) (i := 1620) (by decide +kernel)))), va_nm_byte (show va_RA s a0 .byte from hn0), va_nm_int (show va_RA s a1 .int from hn1), va_nmO hn3 rfl, zs_ls (hts (.laysStatic "java/lang/Throwable" "UNASSIGNED_STACK" "[Ljava/lang/StackTraceElement;") (List.mem_append_right _ (List.mem_of_getElem? (l := tables_1) (i := 255) (by decide +kernel)))) (hs _ (by decide +kernel)) hA, zs_ls (hts (.laysStatic "java/lang/Throwable" "SUPPRESSED_SENTINEL" "Ljava/util/List;") (List.mem_append_right _ (List.mem_of_getElem? (l := tables_1) (i := 257) (by decide +kernel)))) (hs _ (by decide +kernel)) hA, hzx, o5⟩
