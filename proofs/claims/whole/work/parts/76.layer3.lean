/-! ROWS OF ROWS: byte[][] -/
theorem zasg (vm : Vm) (c : ClassId) : vm.assignable c c = true := by
  unfold Vm.assignable
  rw [show (256 : Nat) = 255 + 1 from rfl, Vm.assignableAux, beq_self_eq_true, Bool.true_or]
section ZLR3
variable {p : Program} {l : Launch} {e : Env} {R : Room} {s : State} {m : MethodId} {args : Array Value} {below : List Frame} {meth : Method} {c : Code} {H : Heap} {locs : List Loc} {cells slots : Nat} {Q : State → Prop}
variable {cc : ByteArray} {pc : Nat} {ls : Array Slot} {rest : List Value} {D : va_G} {cl : List vw_C} {a base : Nat} {G : zg_G} {tys : List (ClassId × FieldType)} {H0 : Heap}
theorem zg_aldA (hexec : p.tables.exec = Jvm.exec) (hb : c.code = cc) (hK : va_K D cl tys s) (hG : zg_P D cl base G H) (t0 : Nat) {cA : ClassId} {t : FieldType} {n : Nat} {f : Nat → Option Nat} (ha : G a = some (.inl (cA, n, .inr (.inr (.inr (.inr f)))))) (ht : tys[t0]? = some (cA, .array t)) {i : Int32} (hin : vp_in i n) (hdg : decode cc pc = .ok (.aaload, 1))
    (kk : W p l e R s m args below meth c H locs cells slots Q (F0 m (pc + 1) ls (va_rf (f i.toNatClampNeg) :: rest))) : W p l e R s m args below meth c H locs cells slots Q (F0 m pc ls (.int i :: .ref a :: rest)) := by
  obtain ⟨q0, h0⟩ := hG.at ha
  have hlt : i.toNatClampNeg < n := Nat.not_le.mp fun q => hin (Or.inr q)
  exact W.aald (v := va_rf (f i.toNatClampNeg)) (ty := .array t) hexec hb (hG.toP q0 _ h0) ((hK.2 t0 _ ht).1 n (fun j => va_rf (f j))) rfl (fun q => by cases q) (by show ¬ (i < 0 ∨ (arrV _ _ _).slots.size ≤ _); rw [arrV_size]; exact hin) (by show (arrV _ _ _).slots[_]? = _; rw [arrV_read _ _ hlt]) rfl rfl hdg kk
theorem zg_astA (hexec : p.tables.exec = Jvm.exec) (hb : c.code = cc) (hK : va_K D cl tys s) (hG : zg_P D cl base G H) (hS : zg_S base H0 H locs) (t0 : Nat) {cA cV : ClassId} {n v nx : Nat} {fx : Nat → Int32} {t : FieldType} {f : Nat → Option Nat} (ha : G a = some (.inl (cA, n, .inr (.inr (.inr (.inr f)))))) (ht : tys[t0]? = some (cA, .array t)) (hover : (Cond.arrayOver (.array t)).before args s = true) (hv : G v = some (.inl (cV, nx, .inl fx))) (hcv : s.vm.findClass (FieldType.array t).toString = some cV) {i : Int32} (hin : vp_in i n) (hdg : decode cc pc = .ok (.aastore, 1))
    (kk : ∀ (H1 : Heap) (locs1 : List Loc), zg_P D cl base (zg_up G a (.inl (cA, n, .inr (.inr (.inr (.inr (va_up f i.toNatClampNeg (some v)))))))) H1 → zg_S base H0 H1 locs1 → W p l e R s m args below meth c H1 locs1 cells slots Q (F0 m (pc + 1) ls rest)) : W p l e R s m args below meth c H locs cells slots Q (F0 m pc ls (.ref v :: .int i :: .ref a :: rest)) := by
  have hlt : i.toNatClampNeg < n := Nat.not_le.mp fun q => hin (Or.inr q)
  have h0 : ¬ i < 0 := fun q => hin (Or.inl q)
  obtain ⟨comp, c9, k9, h1, h2, h3, h4, h5⟩ := arrayOverA_spec hover
  have e5 : s.vm.findClass ("[" ++ (FieldType.array t).toString) = some cA := (hK.2 t0 (cA, .array t) ht).2
  cases h5.symm.trans e5
  cases h1.symm.trans hcv
  obtain ⟨kC, hkC, -⟩ := Vm.findClass_spec hcv
  obtain ⟨q0, g0⟩ := hG.at ha
  obtain ⟨q1, g1⟩ := hG.at hv
  refine W.aast (cv := vp_cell cV (nx, .inl fx)) (kv := kC) hexec hb (hG.toP q0 _ g0) (fun q h => by cases h) (fun h => by cases h) h3 h4 rfl hkC ⟨h0, by show _ < (arrV _ _ _).slots.size; rw [arrV_size]; exact hlt⟩ (hG.toP q1 _ g1) (fun q h => by cases h) hkC (zasg s.vm cV) rfl rfl hdg fun H1 e z oq => ?_
  refine kk H1 _ (hG.ofSet g0 (hG.toP.set hG.toD g0 ?_ oq)) (hS.put z oq (hG.toD.2 q0 _ g0))
  show H1[a]? = some (vp_cell _ _)
  rw [e]
  rw [vp_cell_q, vp_cell_q, arrV_store]
  congr 2
  funext q
  by_cases hq : q = i.toNatClampNeg
  · subst hq
    simp [updV, va_up, va_rf]
  · simp [updV, va_up, hq]
theorem zg_aastN0 {T : State} (X : Stand p l e R s m args below meth c T locs cells slots) (hexec : p.tables.exec = Jvm.exec) {a : Addr} {cell : Cell} {t : FieldType} {j : Int32} (hcell : T.heap[a]? = some cell) (harr : s.isArrayOf cell (.array t)) (hknown : cell.vm ≠ .unknown)
    (hin : ¬ (j < 0 ∨ cell.slots.size ≤ j.toNatClampNeg))
    {g : JFrame} (hg : g.method = m) {rest : List Value} (hstack : g.stack = .null :: .int j :: .ref a :: rest) (hdg : decode c.code g.pc = .ok (.aastore, 1)) :
    Stand p l e R s m args below meth c (T.setCell a (cell.setSlot j.toNatClampNeg .null)) (locs ++ [⟨a, j.toNatClampNeg⟩]) cells slots ∧
      ∀ target, Steps p.tables e below ((T.setCell a (cell.setSlot j.toNatClampNeg .null)).setTop { g with pc := g.pc + 1, stack := rest }) target → Steps p.tables e below (T.setTop g) target := by
  have hT := State.isArrayOf_alike X.warmed.alike harr
  have hfit : T.fitsSlot cell.cls cell.vm j.toNatClampNeg .null = true := by
    obtain ⟨hobj, k, hk, comp, hkind⟩ := hT
    cases hvm : cell.vm <;> first | exact absurd hvm (hobj _) | simp [State.fitsSlot, State.slotType?, hk, hkind, fits]
  refine ⟨X.stored hcell _ _, fun target hrest => ?_⟩
  subst hg
  jvm_step X.here [hexec, hdg]
  refine aastore.wp_of_null (c := cell) (t := .array t) X.here.top hstack hcell hT hin hknown (Nat.not_le.mp fun q => hin (Or.inr q)) hfit ?_
  intro acts
  rw [afterInstr_ok]
  exact hrest
theorem zg_astAN (hexec : p.tables.exec = Jvm.exec) (hb : c.code = cc) (hK : va_K D cl tys s) (hG : zg_P D cl base G H) (hS : zg_S base H0 H locs) (t0 : Nat) {cA : ClassId} {n : Nat} {t : FieldType} {f : Nat → Option Nat} (ha : G a = some (.inl (cA, n, .inr (.inr (.inr (.inr f)))))) (ht : tys[t0]? = some (cA, .array t)) {i : Int32} (hin : vp_in i n) (hdg : decode cc pc = .ok (.aastore, 1))
    (kk : ∀ (H1 : Heap) (locs1 : List Loc), zg_P D cl base (zg_up G a (.inl (cA, n, .inr (.inr (.inr (.inr (va_up f i.toNatClampNeg none))))))) H1 → zg_S base H0 H1 locs1 → W p l e R s m args below meth c H1 locs1 cells slots Q (F0 m (pc + 1) ls rest)) : W p l e R s m args below meth c H locs cells slots Q (F0 m pc ls (.null :: .int i :: .ref a :: rest)) := by
  obtain ⟨q0, g0⟩ := hG.at ha
  have hc : H[a]? = some (vp_cell cA (n, .inr (.inr (.inr (.inr f))))) := hG.toP q0 _ g0
  intro T hT X
  have hT' : T.heap[a]? = some (vp_cell cA (n, .inr (.inr (.inr (.inr f))))) := by rw [hT]; exact hc
  obtain ⟨X', st⟩ := zg_aastN0 (t := t) (g := F0 m pc ls (.null :: .int i :: .ref a :: rest)) X hexec hT' ((hK.2 t0 _ ht).1 n (fun j => va_rf (f j))) (fun h => by cases h) (by show ¬ (i < 0 ∨ (arrV _ _ _).slots.size ≤ _); rw [arrV_size]; exact hin) rfl (rest := rest) rfl (by rw [hb]; exact hdg)
  have hlt : a < T.heap.size := (Array.getElem?_eq_some_iff.mp hT').1
  have hz : (T.setCell a ((vp_cell cA (n, .inr (.inr (.inr (.inr f))))).setSlot i.toNatClampNeg .null)).heap.size = H.size := by rw [size_setCell, hT]
  have ho : ∀ q, q ≠ a → (T.setCell a ((vp_cell cA (n, .inr (.inr (.inr (.inr f))))).setSlot i.toNatClampNeg .null)).heap[q]? = H[q]? := fun q hq => by rw [heapAt_setCell_ne _ (Ne.symm hq), hT]
  obtain ⟨t', a1, b1⟩ := kk _ _ (hG.ofSet g0 (hG.toP.set hG.toD g0 (by
      show (T.setCell a _).heap[a]? = some (vp_cell _ _)
      rw [heapAt_setCell_self _ hlt, vp_cell_q, vp_cell_q, arrV_store]
      congr 2
      funext q
      by_cases hq : q = i.toNatClampNeg
      · subst hq
        simp [updV, va_up, va_rf]
      · simp [updV, va_up, hq]) ho)) (hS.put hz ho (hG.toD.2 q0 _ g0)) (T.setCell a _) rfl X'
  exact ⟨t', st t' a1, b1⟩
theorem zg_astAO (hexec : p.tables.exec = Jvm.exec) (hb : c.code = cc) (hK : va_K D cl tys s) (hG : zg_P D cl base G H) (hS : zg_S base H0 H locs) (t0 : Nat) {cA cV : ClassId} {n : Nat} {t : FieldType} {f : Nat → Option Nat} {o : Option Nat} (ha : G a = some (.inl (cA, n, .inr (.inr (.inr (.inr f)))))) (ht : tys[t0]? = some (cA, .array t)) (hover : (Cond.arrayOver (.array t)).before args s = true) (hv : ∀ v, o = some v → ∃ (nx : Nat) (fx : Nat → Int32), G v = some (.inl (cV, nx, .inl fx))) (hcv : s.vm.findClass (FieldType.array t).toString = some cV) {i : Int32} (hin : vp_in i n) (hdg : decode cc pc = .ok (.aastore, 1))
    (kk : ∀ (H1 : Heap) (locs1 : List Loc), zg_P D cl base (zg_up G a (.inl (cA, n, .inr (.inr (.inr (.inr (va_up f i.toNatClampNeg o))))))) H1 → zg_S base H0 H1 locs1 → W p l e R s m args below meth c H1 locs1 cells slots Q (F0 m (pc + 1) ls rest)) : W p l e R s m args below meth c H locs cells slots Q (F0 m pc ls (va_rf o :: .int i :: .ref a :: rest)) := by
  cases o with
  | none => exact zg_astAN hexec hb hK hG hS t0 ha ht hin hdg kk
  | some v =>
    obtain ⟨nx, fx, h⟩ := hv v rfl
    exact zg_astA hexec hb hK hG hS t0 ha ht hover h hcv hin hdg kk
end ZLR3
theorem zfB {E : zc_E} {s : State} {H : Heap} (hQ : zQ E s H) : s.vm.findClass (FieldType.array .byte).toString = some (E.2.1 0) := by rw [zeB]; exact hQ.2.2.2.2.2.2.1
