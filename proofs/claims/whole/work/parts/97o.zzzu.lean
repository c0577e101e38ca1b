/-! THE REFERENCE: a record's target, and its records with other targets -/
abbrev zRk : Type := Nat × Nat × Nat × np_N × Int32 × Int32 × List Int32
def rK (e : zRt) : zRk := (rA e, rN e, rD e, rM e, rT e, rU e, rB e)
/-- the same but for the targets -/
def rsm (rs rs2 : List zRt) : Prop := rs2.map rK = rs.map rK
theorem rsm.rf {rs : List zRt} : rsm rs rs := rfl
theorem rsm.tr {rs rs2 rs3 : List zRt} (h : rsm rs rs2) (h2 : rsm rs2 rs3) : rsm rs rs3 := Eq.trans h2 h
theorem rsm.len {rs rs2 : List zRt} (h : rsm rs rs2) : rs2.length = rs.length := by have := congrArg List.length h; rw [List.length_map, List.length_map] at this; exact this
theorem rsm.at {rs rs2 : List zRt} (h : rsm rs rs2) {i : Nat} (hi : i < rs.length) : rK (re rs2 i) = rK (re rs i) := by
  have hl := h.len
  have q : (rs2.map rK)[i]? = (rs.map rK)[i]? := congrArg (fun z : List zRk => z[i]?) h
  rw [List.getElem?_map, List.getElem?_map, List.getElem?_eq_getElem (by omega), List.getElem?_eq_getElem hi] at q
  rw [re_at (by omega), re_at hi]
  exact Option.some.inj q
theorem rK_un {e e2 : zRt} (h : rK e2 = rK e) : rA e2 = rA e ∧ rN e2 = rN e ∧ rD e2 = rD e ∧ rM e2 = rM e ∧ rT e2 = rT e ∧ rU e2 = rU e ∧ rB e2 = rB e := by
  unfold rK at h
  simp only [Prod.mk.injEq] at h
  exact h
theorem rsm.V {rs rs2 : List zRt} (h : rsm rs rs2) : rVf rs2 = rVf rs := by
  have key : ∀ l : List zRt, ∀ x t, rVf l x t = ((l.map rK).filter (fun e => decide (e.2.2.2.1 = x ∧ e.2.2.2.2.1 = t))).map (fun e => (e.2.2.2.2.2.1, e.2.2.2.2.2.2)) := fun l x t => by
    rw [List.filter_map, List.map_map]; rfl
  funext x t
  rw [key, key, h]
theorem rsm.mem {rs rs2 : List zRt} (h : rsm rs rs2) {e : zRt} (he : e ∈ rs2) : ∃ e0 ∈ rs, rK e = rK e0 := by
  have : rK e ∈ rs2.map rK := List.mem_map.mpr ⟨e, he, rfl⟩
  rw [h] at this
  obtain ⟨e0, h0, h1⟩ := List.mem_map.mp this
  exact ⟨e0, h0, h1.symm⟩
theorem rsm.sy {rs rs2 : List zRt} (h : rsm rs rs2) : rsm rs2 rs := Eq.symm h
theorem rGd.m {lo : np_N} {rs rs2 : List zRt} (hg : rGd lo rs) (h : rsm rs rs2) : rGd lo rs2 := by
  have hl := h.len
  obtain ⟨g1, g2, g3, g4, g5, g6, g7⟩ := hg
  obtain ⟨-, -, -, k4, k5, k6, k7⟩ := rK_un (h.at g1)
  refine ⟨by omega, by rw [k4]; exact g2, by rw [k5]; exact g3, by rw [k7]; exact g4, by rw [k6]; exact g5, fun i h0 hi => ?_, fun e he => ?_⟩
  · rw [(rK_un (h.at (show i < rs.length by omega))).2.2.2.2.1]; exact g6 i h0 (by omega)
  · obtain ⟨e0, he0, ek⟩ := h.mem he
    obtain ⟨-, -, -, m4, m5, m6, m7⟩ := rK_un ek
    rw [m4, m5, m7]; exact g7 e0 he0
/-- the records change their targets alone -/
theorem rSt.rs {E : zc_E} {G : zg_G} {ro : zRo} {a c1 c2 : Nat} {lo : np_N} {rs : List zRt} {W : zW} {px : List Int32} {qp : Prop} {nq : Nat × Int32 × np_N × zWs} {th co se : Int32} {tp : List Int32} {v19 v20 : Value} {rs2 : List zRt} {G2 : zg_G} {r2 : zRo} (hs : rSt E G ro a c1 c2 lo rs W px qp nq th tp co se v19 v20) (h : rsm rs rs2) (hf : zfr ro (fun r => r = (21, 0)) G r2 G2) (hr : ∀ m4, rRs E G ro m4 rs → rRs E G2 r2 m4 rs2) : rSt E G2 r2 a c1 c2 lo rs2 W px qp nq th tp co se v19 v20 := by
  obtain ⟨k, e0, e1, e2, b1, b2, ⟨fm, b3, b3'⟩, b4, b5, b6, b7, ws, an, pl, ff, fp, p1, p2, p3, p4, p5, p6, p7, p8, ⟨x1, x2⟩, ⟨y1, y2, y3⟩, p11, p12, p13, p14⟩ := hs
  have q1 := hf _ _ b1 (by rw [b2]; simp)
  have q2 := hf _ _ b3 (by rw [b3'.2.2]; simp)
  have q3 := hf _ _ x1 (by rw [x2.2.2.2.2]; simp)
  have q4 := hf _ _ y1 (by rw [y3]; simp)
  refine ⟨k, e0, e1, e2, by rw [h.len]; exact q1.1, q1.2.trans b2, ⟨fm, q2.1, b3'.1, b3'.2.1, q2.2.trans b3'.2.2⟩, b4, b5.fr hf (by simp), hr _ b6, b7.m h, ws, an, pl, ff, fp, p1, p2, p3, p4, p5, p6.fr hf (by simp) (fun i _ _ => by simp), p7, fun i hi => (p8 i hi).fr hf (by simp), ⟨q3.1, x2.1, x2.2.1, x2.2.2.1, x2.2.2.2.1, q3.2.trans x2.2.2.2.2⟩, ⟨q4.1, y2, q4.2.trans y3⟩, fun hq i hi h1 => ?_, p12, fun i hi => ?_, p14⟩
  · obtain ⟨e, he, w1, w2⟩ := p11 hq i hi h1
    obtain ⟨e9, he9, ek⟩ := h.sy.mem he
    obtain ⟨-, -, m3, -, m5, -⟩ := rK_un ek
    exact ⟨e9, he9, by rw [w1, m3], by rw [← m5]; exact w2⟩
  · rw [h.V]; exact p13 i hi
def rTgt (e : zRt) (v : Value) : zRt := (e.1, e.2.1, e.2.2.1, v, e.2.2.2.2)
theorem rTgt_K (e : zRt) (v : Value) : rK (rTgt e v) = rK e := rfl
theorem re_set {rs : List zRt} {i j : Nat} {e : zRt} (hi : i < rs.length) : re (rs.set i e) j = if j = i then e else re rs j := by
  unfold re
  rw [List.getD_eq_getElem?_getD, List.getElem?_set]
  by_cases z : j = i
  · subst z; rw [if_pos rfl, if_pos rfl, if_pos hi]; rfl
  · rw [if_neg (fun q => z q.symm), if_neg z, List.getD_eq_getElem?_getD]
theorem rsm_set {rs : List zRt} {j : Nat} (hj : j < rs.length) (v : Value) : rsm rs (rs.set j (rTgt (re rs j) v)) := by
  unfold rsm
  refine List.ext_getElem? (fun i => ?_)
  rw [List.getElem?_map, List.getElem?_map, List.getElem?_set]
  by_cases z : j = i
  · subst z; rw [if_pos rfl, if_pos hj, List.getElem?_eq_getElem hj, Option.map_some, Option.map_some, rTgt_K, re_at hj]
  · rw [if_neg z]
/-- what the targets still to come take -/
def rNu1 (e : zRt) : Nat := match rV e with
  | .null => (rB e).length + 1
  | _ => 0
def rNu (rs : List zRt) : Nat := (rs.map rNu1).sum
def rNc1 (e : zRt) : Nat := match rV e with
  | .null => 1
  | _ => 0
/-- how many targets are still to come -/
def rNc (rs : List zRt) : Nat := (rs.map rNc1).sum
theorem rNc_len : ∀ rs : List zRt, rNc rs ≤ rs.length
  | [] => Nat.le_refl _
  | e :: r => by
    have := rNc_len r
    have h1 : rNc1 e ≤ 1 := by unfold rNc1; split <;> omega
    show (rNc1 e :: r.map rNc1).sum ≤ r.length + 1
    rw [List.sum_cons]
    unfold rNc at this
    omega
theorem sum_set {l : List Nat} {j v : Nat} (hj : j < l.length) : (l.set j v).sum + l.getD j 0 = l.sum + v := by
  induction l generalizing j with
  | nil => exact absurd hj (Nat.not_lt_zero _)
  | cons a l ih =>
    cases j with
    | zero => show (v :: l).sum + a = (a :: l).sum + v; rw [List.sum_cons, List.sum_cons]; omega
    | succ j =>
      have := ih (j := j) (by simpa using hj)
      show (a :: l.set j v).sum + l.getD j 0 = (a :: l).sum + v
      rw [List.sum_cons, List.sum_cons]; omega
theorem rNu_set {rs : List zRt} {j q : Nat} (hj : j < rs.length) : rNu (rs.set j (rTgt (re rs j) (.ref q))) + rNu1 (re rs j) = rNu rs := by
  unfold rNu
  rw [List.map_set]
  have h := sum_set (l := rs.map rNu1) (j := j) (v := rNu1 (rTgt (re rs j) (.ref q))) (by rw [List.length_map]; exact hj)
  have e1 : rNu1 (rTgt (re rs j) (.ref q)) = 0 := rfl
  have e2 : (rs.map rNu1).getD j 0 = rNu1 (re rs j) := by
    rw [List.getD_eq_getElem?_getD, List.getElem?_map, List.getElem?_eq_getElem hj, re_at hj]; rfl
  rw [e1, e2] at h
  rw [e1]; omega
theorem rNc_set {rs : List zRt} {j q : Nat} (hj : j < rs.length) : rNc (rs.set j (rTgt (re rs j) (.ref q))) + rNc1 (re rs j) = rNc rs := by
  unfold rNc
  rw [List.map_set]
  have h := sum_set (l := rs.map rNc1) (j := j) (v := rNc1 (rTgt (re rs j) (.ref q))) (by rw [List.length_map]; exact hj)
  have e1 : rNc1 (rTgt (re rs j) (.ref q)) = 0 := rfl
  have e2 : (rs.map rNc1).getD j 0 = rNc1 (re rs j) := by
    rw [List.getD_eq_getElem?_getD, List.getElem?_map, List.getElem?_eq_getElem hj, re_at hj]; rfl
  rw [e1, e2] at h
  rw [e1]; omega
theorem nodup_ix {rs : List zRt} {f : zRt → Nat} (h : (rs.map f).Nodup) {i j : Nat} (hi : i < rs.length) (hj : j < rs.length) (e : f (re rs i) = f (re rs j)) : i = j := by
  have hp := List.pairwise_iff_getElem.mp h
  rcases Nat.lt_trichotomy i j with z | z | z
  · have q := hp i j (by rw [List.length_map]; exact hi) (by rw [List.length_map]; exact hj) z
    rw [List.getElem_map, List.getElem_map, ← re_at hi, ← re_at hj] at q
    exact absurd e q
  · exact z
  · have q := hp j i (by rw [List.length_map]; exact hj) (by rw [List.length_map]; exact hi) z
    rw [List.getElem_map, List.getElem_map, ← re_at hi, ← re_at hj] at q
    exact absurd e.symm q
/-- a record gets its target -/
theorem rRs.tgt {E : zc_E} {G G1 : zg_G} {ro : zRo} {m4 j q : Nat} {rs : List zRt} (h : rRs E G ro m4 rs) (hj : j < rs.length) (hx : zx z0 G G1) (hq : G q = none) (hq1 : zBy E G1 q ((rB (re rs j)).drop (voff (rT (re rs j))))) (h6 : rT (re rs j) ≠ 6) : rRs E (zg_up G1 (rA (re rs j)) (.inr (12, [.ref (rN (re rs j)), .ref (rD (re rs j)), .ref q, .int (rT (re rs j)), .int (rU (re rs j))]))) (zrn ro q (0, 0)) m4 (rs.set j (rTgt (re rs j) (.ref q))) ∧ zfr ro (fun r => r = (21, 0)) G (zrn ro q (0, 0)) (zg_up G1 (rA (re rs j)) (.inr (12, [.ref (rN (re rs j)), .ref (rD (re rs j)), .ref q, .int (rT (re rs j)), .int (rU (re rs j))]))) := by
  obtain ⟨⟨⟨f, a1, a2⟩, a3, a4⟩, b1, b2, b3, b4⟩ := id h
  obtain ⟨c1, c2, c3, c4⟩ := b4 _ (re_mem hj)
  have hrj := (a4 _ (re_mem hj)).1
  have hf : zfr ro (fun r => r = (21, 0)) G (zrn ro q (0, 0)) (zg_up G1 (rA (re rs j)) (.inr (12, [.ref (rN (re rs j)), .ref (rD (re rs j)), .ref q, .int (rT (re rs j)), .int (rU (re rs j))]))) := fun z e hz hk => by
    have n1 : z ≠ rA (re rs j) := fun w => hk (by rw [w]; exact c1)
    exact ⟨by rw [zg_up_ne n1]; exact hx.o hz, zrn_ne (zg_fr hq hz)⟩
  have nq : q ≠ rA (re rs j) := fun w => by rw [w, hrj] at hq; cases hq
  refine ⟨⟨⟨⟨f, (hf _ _ a1 (by rw [b1]; simp)).1, fun i hi => ?_⟩, by rw [List.length_set]; exact a3, fun e he => ?_⟩, (hf _ _ a1 (by rw [b1]; simp)).2.trans b1, ?_, ?_, fun e he => ?_⟩, hf⟩
  · rw [List.length_set] at hi
    rw [a2 i hi, re_set hj]
    by_cases z : i = j
    · rw [if_pos z, z]; rfl
    · rw [if_neg z]
  · obtain ⟨i, hi, rfl⟩ := re_ix he
    rw [List.length_set] at hi
    rw [re_set hj]
    by_cases z : i = j
    · rw [if_pos z]
      obtain ⟨-, ⟨fn, d2, d3⟩, d4⟩ := a4 _ (re_mem hj)
      exact ⟨zg_up_self _ _ _, ⟨fn, (hf _ _ d2 (by rw [c2]; simp)).1, d3⟩, (d4.fr c3 hf (by simp)).1⟩
    · rw [if_neg z]
      obtain ⟨d1, ⟨fn, d2, d3⟩, d4⟩ := a4 _ (re_mem hi)
      obtain ⟨m1, m2, m3, -⟩ := b4 _ (re_mem hi)
      have ne : rA (re rs i) ≠ rA (re rs j) := fun w => z (nodup_ix b2 hi hj w)
      exact ⟨by rw [zg_up_ne ne]; exact hx.o d1, ⟨fn, (hf _ _ d2 (by rw [m2]; simp)).1, d3⟩, (d4.fr m3 hf (by simp)).1⟩
  · have e : (rs.set j (rTgt (re rs j) (.ref q))).map rA = rs.map rA := by
      have := congrArg (List.map (fun k : zRk => k.1)) (rsm_set hj (.ref q))
      rw [List.map_map, List.map_map] at this
      exact this
    rw [e]; exact b2
  · have e : (rs.set j (rTgt (re rs j) (.ref q))).map rD = rs.map rD := by
      have := congrArg (List.map (fun k : zRk => k.2.2.1)) (rsm_set hj (.ref q))
      rw [List.map_map, List.map_map] at this
      exact this
    rw [e]; exact b3
  · obtain ⟨i, hi, rfl⟩ := re_ix he
    rw [List.length_set] at hi
    rw [re_set hj]
    have hro : ∀ z e, G z = some e → zrn ro q (0, 0) z = ro z := fun z e hz => zrn_ne (zg_fr hq hz)
    by_cases z : i = j
    · rw [if_pos z]
      obtain ⟨-, ⟨fn, d2, d3⟩, ⟨fd, d4, d5⟩⟩ := a4 _ (re_mem hj)
      refine ⟨(hro _ _ hrj).trans c1, (hro _ _ d2).trans c2, (hro _ _ d4).trans c3, Or.inr ⟨q, rfl, ?_, zrn_self _ _ _, h6⟩⟩
      obtain ⟨g, g1, g2⟩ := hq1
      exact ⟨g, by rw [zg_up_ne nq]; exact g1, g2⟩
    · rw [if_neg z]
      obtain ⟨d1, ⟨fn, d2, d3⟩, ⟨fd, d4, d5⟩⟩ := a4 _ (re_mem hi)
      obtain ⟨m1, m2, m3, m4⟩ := b4 _ (re_mem hi)
      refine ⟨(hro _ _ d1).trans m1, (hro _ _ d2).trans m2, (hro _ _ d4).trans m3, ?_⟩
      rcases m4 with m4 | ⟨z9, w1, w2, w3, w4⟩
      · exact Or.inl m4
      · have q3 := w2.fr w3 hf (by simp)
        exact Or.inr ⟨z9, w1, q3.1, q3.2, w4⟩
theorem rNm_by {E : zc_E} {G : zg_G} {ro : zRo} {q : Nat} {t : Int32} {b : List Int32} (h : zBy E G q (b.drop (voff t))) (hr : ro q = (0, 0)) (hd : rdt t b) (ht : t = 2 ∨ t = 15 ∨ t = 33) : rNm E G ro q (vtg t b) := by
  obtain ⟨ls, e1, e2, e3⟩ := hd (by rcases ht with e | e | e <;> rw [e] <;> simp)
  have ev : vtg t b = ls := vnm_y e1 e2
  rw [ev]
  obtain ⟨f, h1, h2, h3⟩ := h
  rw [← e1] at h1 h2
  rw [np_enc_len] at h1 h2
  exact ⟨f, h1, h2, e2, h3, hr⟩
theorem w_1267 : (.fieldLink "ZoneAnswersModel" 281 "ZoneAnswersModel$Rec" "target" "[B" : Cond) ∈ zw := zw_at 1267 (by decide +kernel) (by decide +kernel)
abbrev c_Mo_target : ByteArray := prog_12_method_49_code
abbrev y_Mo_target : MethodName := ⟨"ZoneAnswersModel", "target", "([BI)[B"⟩
theorem d_Mo_target_0 : decode c_Mo_target 0 = .ok (.iconst 0, 1) := by decide +kernel
theorem d_Mo_target_1 : decode c_Mo_target 1 = .ok (.istore_n 3, 1) := by decide +kernel
theorem d_Mo_target_2 : decode c_Mo_target 2 = .ok (.aload_n 0, 1) := by decide +kernel
theorem d_Mo_target_3 : decode c_Mo_target 3 = .ok (.getfield 19, 3) := by decide +kernel
theorem d_Mo_target_6 : decode c_Mo_target 6 = .ok (.iload_n 3, 1) := by decide +kernel
theorem d_Mo_target_7 : decode c_Mo_target 7 = .ok (.aaload, 1) := by decide +kernel
theorem d_Mo_target_8 : decode c_Mo_target 8 = .ok (.getfield 71, 3) := by decide +kernel
theorem d_Mo_target_11 : decode c_Mo_target 11 = .ok (.aload_n 1, 1) := by decide +kernel
theorem d_Mo_target_12 : decode c_Mo_target 12 = .ok (.if_acmp .eq 9, 3) := by decide +kernel
theorem d_Mo_target_15 : decode c_Mo_target 15 = .ok (.iinc 3 1, 3) := by decide +kernel
theorem d_Mo_target_18 : decode c_Mo_target 18 = .ok (.goto (-16), 3) := by decide +kernel
theorem d_Mo_target_21 : decode c_Mo_target 21 = .ok (.aload_n 0, 1) := by decide +kernel
theorem d_Mo_target_22 : decode c_Mo_target 22 = .ok (.getfield 19, 3) := by decide +kernel
theorem d_Mo_target_25 : decode c_Mo_target 25 = .ok (.iload_n 3, 1) := by decide +kernel
theorem d_Mo_target_26 : decode c_Mo_target 26 = .ok (.aaload, 1) := by decide +kernel
theorem d_Mo_target_27 : decode c_Mo_target 27 = .ok (.getfield 281, 3) := by decide +kernel
theorem d_Mo_target_30 : decode c_Mo_target 30 = .ok (.ifnonnull 19, 3) := by decide +kernel
theorem d_Mo_target_33 : decode c_Mo_target 33 = .ok (.aload_n 0, 1) := by decide +kernel
theorem d_Mo_target_34 : decode c_Mo_target 34 = .ok (.getfield 19, 3) := by decide +kernel
theorem d_Mo_target_37 : decode c_Mo_target 37 = .ok (.iload_n 3, 1) := by decide +kernel
theorem d_Mo_target_38 : decode c_Mo_target 38 = .ok (.aaload, 1) := by decide +kernel
theorem d_Mo_target_39 : decode c_Mo_target 39 = .ok (.aload_n 1, 1) := by decide +kernel
theorem d_Mo_target_40 : decode c_Mo_target 40 = .ok (.iload_n 2, 1) := by decide +kernel
theorem d_Mo_target_41 : decode c_Mo_target 41 = .ok (.aload_n 1, 1) := by decide +kernel
theorem d_Mo_target_42 : decode c_Mo_target 42 = .ok (.arraylength, 1) := by decide +kernel
theorem d_Mo_target_43 : decode c_Mo_target 43 = .ok (.invokestatic 188, 3) := by decide +kernel
theorem d_Mo_target_46 : decode c_Mo_target 46 = .ok (.putfield 281, 3) := by decide +kernel
theorem d_Mo_target_49 : decode c_Mo_target 49 = .ok (.aload_n 0, 1) := by decide +kernel
theorem d_Mo_target_50 : decode c_Mo_target 50 = .ok (.getfield 19, 3) := by decide +kernel
theorem d_Mo_target_53 : decode c_Mo_target 53 = .ok (.iload_n 3, 1) := by decide +kernel
theorem d_Mo_target_54 : decode c_Mo_target 54 = .ok (.aaload, 1) := by decide +kernel
theorem d_Mo_target_55 : decode c_Mo_target 55 = .ok (.getfield 281, 3) := by decide +kernel
theorem d_Mo_target_58 : decode c_Mo_target 58 = .ok (.areturn, 1) := by decide +kernel
abbrev rm_Mo_target (c0 n0 : Nat) : Room := { frames := 3, cells := c0, slots := n0, locals := 60 }
set_option maxHeartbeats 4000000 in
set_option maxRecDepth 100000 in
/-- target(data, at), of the reference -/
theorem t_Mo_target (l : Launch) (E : zc_E) (G : zg_G) (a c1 c2 : Nat) (ro : zRo) (lo : np_N) (rs : List zRt) (Wz : zW) (px : List Int32) (qp : Prop) (nq : Nat × Int32 × np_N × zWs) (th co se : Int32) (tp : List Int32) (v19 v20 : Value) (hst : rSt E G ro a c1 c2 lo rs Wz px qp nq th tp co se v19 v20) (j : Nat) (hj : j < rs.length) (o9 : Nat) (ho9 : voff (rT (re rs j)) = o9) (ht9 : rT (re rs j) = 2 ∨ rT (re rs j) = 15 ∨ rT (re rs j) = 33) : zMq l E y_Mo_target c_Mo_target 4 (some (.array .byte)) (rm_Mo_target (rNc1 (re rs j)) (rNu1 (re rs j))) [.ref a, .ref (rD (re rs j)), .int (nI o9)] G (fun (r : Option Nat) (G2 : zg_G) => ∃ r2 rs2 q, r = some q ∧ rSt E G2 r2 a c1 c2 lo rs2 Wz px qp nq th tp co se v19 v20 ∧ rsm rs rs2 ∧ rNm E G2 r2 q (vtg (rT (re rs j)) (rB (re rs j))) ∧ zfr ro zKr G r2 G2 ∧ rNu rs2 + rNu1 (re rs j) = rNu rs ∧ rNc rs2 + rNc1 (re rs j) = rNc rs) := by
  refine zMq.of (by decide) (Nat.le_of_ble_eq_true rfl) ?_
  intro p e s m args below meth c Q hZ hG hret ls hl
  obtain ⟨hx, hb, hr, hts, hown, hlocks, hml, hnm, hbase, hK, hN, hQ⟩ := hZ
  have hl : lv_has ls 4 [(0, .ref a), (1, .ref (rD (re rs j))), (2, .int (nI o9))] := hl
  have hS : zg_S (zc_b E) s.heap s.heap [] := va_S.rf
  obtain ⟨h, eh0, eh1, eh2, hc⟩ := id hst
  obtain ⟨ra, rb, ⟨fm, rt1, rt2, rt3, rt4⟩, rtl, ⟨fo, rn1, rn2, rn3, rn4, rn5⟩, rr, rg, ras⟩ := id hc
  rw [eh0] at ra
  obtain ⟨⟨fr, rm4, hfr⟩, hn2, hRs⟩ := id rr.1
  obtain ⟨hr1, ⟨nf, hr2, hr3, hr4, hr5⟩, df, hr6, hr7, hr8⟩ := hRs _ (re_mem hj)
  have hgd := hst.gd
  have hdj := hgd.2.2.2.2.2.2 _ (re_mem hj)
  have hrj := rr.2.2.2.2 _ (re_mem hj)
  have hob : o9 ≤ (rB (re rs j)).length := by obtain ⟨ls, -, -, e3⟩ := hdj.2.2.2.2.2.2.1 (by rcases ht9 with e | e | e <;> rw [e] <;> simp); rw [← ho9]; exact e3
  have hlb := hdj.2.2.2.2.2.1
  have h6j : rT (re rs j) ≠ 6 := by rcases ht9 with e | e | e <;> rw [e] <;> decide
  have hx0 : zx (fun q => q = rA (re rs j)) G G := zx.rf
  rcases hrj.2.2.2 with hvn | ⟨tq, hvs, htb, htr, -⟩
  · rw [hvn] at hr1
    have hnu : rNu1 (re rs j) = (rB (re rs j)).length + 1 := by unfold rNu1; rw [hvn]
    have hnc : rNc1 (re rs j) = 1 := by unfold rNc1; rw [hvn]
    refine lv_iconst (v := 0) hx hb d_Mo_target_0 (by decide) ?_
    refine zi_as (y := nI 0) (nI_0.symm) ?_
    refine lv_istore_n (lv' := [(3, .int (nI 0)), (0, .ref a), (1, .ref (rD (re rs j))), (2, .int (nI o9))]) hx hb d_Mo_target_1 rfl hl (by decide) rfl (fun ls hl => ?_)
    have loop2 : ∀ (N : Nat) (k : Nat) (H : Heap) (locs : List Loc), (j - k) < N → (k ≤ j) → zP E G H → zg_S (zc_b E) s.heap H locs → ∀ (ls : Array Slot), lv_has ls 4 [(0, .ref a), (1, .ref (rD (re rs j))), (2, .int (nI o9)), (3, .int (nI k))] → W p l e (rm_Mo_target (rNc1 (re rs j)) (rNu1 (re rs j))) s m args below meth c H locs 0 0 Q (F0 m 2 ls []) := by
      intro N
      induction N with
      | zero =>
        intro k H locs hlt
        exact absurd hlt (Nat.not_lt_zero _)
      | succ N ih =>
        intro k H locs hlt hkl hG hS ls hl
        have hkr : k < rs.length := by omega
        obtain ⟨hk1, -, dfk, hk6, -⟩ := hRs _ (re_mem hkr)
        refine lv_aload_n hx hb d_Mo_target_2 rfl (lv_at hl 0 rfl) ?_
        refine zg_get (ci := 11) (C := "ZoneAnswersModel") (T := T_Mo) (N := 21) hx hb hts zi_Mo hown hK hG ra rfl 4 (by decide) (hts _ w_1285) (fun _ h9 => h9) rfl d_Mo_target_3 ?_
        refine lv_iload_n hx hb d_Mo_target_6 rfl (lv_at hl 3 rfl) ?_
        refine zg_aldq hx hb hK hG 4 rm4 rfl (vp_in_nI (by omega) (by omega)) d_Mo_target_7 ?_
        refine zr_as (y := fr k) (by rw [zi_n _ (by omega)]) ?_
        refine zr_some (a := rA (re rs k)) (hfr k hkr) ?_
        refine zg_get (ci := 12) (C := "ZoneAnswersModel$Rec") (T := T_Re) (N := 5) hx hb hts zi_Re hown hK hG hk1 rfl 1 (by decide) (hts _ w_1266) (fun _ h9 => h9) rfl d_Mo_target_8 ?_
        refine lv_aload_n hx hb d_Mo_target_11 rfl (lv_at hl 1 rfl) ?_
        refine lv_acmp_eq (rx := (some (rD (re rs k)))) (ry := (some (rD (re rs j)))) (tgt := 21) hx hb d_Mo_target_12 (by decide) (fun c12 => ?_) (fun c12 => ?_)
        · have hkj : k = j := nodup_ix rr.2.2.2.1 hkr hj (Option.some.inj c12)
          refine lv_aload_n hx hb d_Mo_target_21 rfl (lv_at hl 0 rfl) ?_
          refine zg_get (ci := 11) (C := "ZoneAnswersModel") (T := T_Mo) (N := 21) hx hb hts zi_Mo hown hK hG ra rfl 4 (by decide) (hts _ w_1285) (fun _ h9 => h9) rfl d_Mo_target_22 ?_
          refine lv_iload_n hx hb d_Mo_target_25 rfl (lv_at hl 3 rfl) ?_
          refine zg_aldq hx hb hK hG 4 rm4 rfl (vp_in_nI (by omega) (by omega)) d_Mo_target_26 ?_
          refine zr_as (y := fr k) (by rw [zi_n _ (by omega)]) ?_
          refine zr_some (a := rA (re rs j)) (by rw [hkj]; exact hfr j hj) ?_
          refine zg_get (ci := 12) (C := "ZoneAnswersModel$Rec") (T := T_Re) (N := 5) hx hb hts zi_Re hown hK hG hr1 rfl 2 (by decide) (hts _ w_1267) (fun _ h9 => h9) rfl d_Mo_target_27 ?_
          refine lv_ifnonnullN hx hb d_Mo_target_30 ?_
          refine lv_aload_n hx hb d_Mo_target_33 rfl (lv_at hl 0 rfl) ?_
          refine zg_get (ci := 11) (C := "ZoneAnswersModel") (T := T_Mo) (N := 21) hx hb hts zi_Mo hown hK hG ra rfl 4 (by decide) (hts _ w_1285) (fun _ h9 => h9) rfl d_Mo_target_34 ?_
          refine lv_iload_n hx hb d_Mo_target_37 rfl (lv_at hl 3 rfl) ?_
          refine zg_aldq hx hb hK hG 4 rm4 rfl (vp_in_nI (by omega) (by omega)) d_Mo_target_38 ?_
          refine zr_as (y := fr k) (by rw [zi_n _ (by omega)]) ?_
          refine zr_some (a := rA (re rs j)) (by rw [hkj]; exact hfr j hj) ?_
          refine lv_aload_n hx hb d_Mo_target_39 rfl (lv_at hl 1 rfl) ?_
          refine lv_iload_n hx hb d_Mo_target_40 rfl (lv_at hl 2 rfl) ?_
          refine lv_aload_n hx hb d_Mo_target_41 rfl (lv_at hl 1 rfl) ?_
          refine zg_alen hx hb hK hG 0 hr6 rfl (v := nI ((rB (re rs j)).length)) rfl d_Mo_target_42 ?_
          have hGo43 := hG
          refine zk_q (va_runS (As := [.ref (rD (re rs j)), .int (nI o9), .int (nI ((rB (re rs j)).length))]) (rest := [.ref (rA (re rs j))]) ⟨hx, hb, hml, hown, hts⟩ (t_Ns_cut l E G (rD (re rs j)) (rB (re rs j)).length df hr6 hr8 (by omega) o9 (rB (re rs j)).length hob (Nat.le_refl _)) (zcS 3 hts w_1391 w_1373 w_33 w_1374 (by decide +kernel) ⟨Nat.le_of_ble_eq_true rfl, Nat.le_of_ble_eq_true rfl⟩) (zc_pre hbase hK hN hQ hG hS) rfl rfl hl.1 rfl (lv_room (Nat.le_of_ble_eq_true rfl)) d_Mo_target_43 ⟨(by dsimp only; omega), (by dsimp only; omega)⟩) hS (fun r43 G43 H locs hp43 hG hS => ?_)
          obtain ⟨q9, f9, er9, nq9, hxc9, hq9, hft9, hcp9⟩ := hp43
          refine zr_some (a := q9) er9 ?_
          have hby9 : zBy E G43 q9 ((rB (re rs j)).drop (voff (rT (re rs j)))) := ⟨f9, by rw [List.length_drop, ho9]; exact hq9, fun i hi => by rw [List.length_drop, ho9] at hi; rw [hcp9 i hi, hr7 _ (by omega), List.getD_eq_getElem?_getD, List.getD_eq_getElem?_getD, List.getElem?_drop, ho9], hft9⟩
          obtain ⟨hrs9, hfr9⟩ := rRs.tgt rr hj hxc9 nq9 hby9 h6j
          have k1 : G43 a = some (.inr (11, [.int th, .ref (h 1), .int (nI tp.length), .ref (h 3), .ref (h 4), .int (nI rs.length), .ref (h 6), .ref (h 7), .ref (h 8), .ref (h 9), .ref (h 10), .ref (h 11), .ref (h 12), .int (nI (wln Wz)), .int co, .ref (h 15), .int (nI (rPw Wz + px.length)), .int se, .ref (h 18), v19, v20])) := hxc9.o ra
          have ne_q9_a : a ≠ q9 := zg_fr nq9 ra
          have k2 : G43 (h 4) = some (.inl (E.2.1 4, 2000, .inr (.inr (.inr (.inr fr))))) := hxc9.o rm4
          have ne_q9_h_4 : h 4 ≠ q9 := zg_fr nq9 rm4
          have k3 : G43 (h 3) = some (.inl (E.2.1 0, np_len lo, .inl fo)) := hxc9.o rn1
          have ne_q9_h_3 : h 3 ≠ q9 := zg_fr nq9 rn1
          have k4 : G43 (h 1) = some (.inl (E.2.1 0, 65536, .inl fm)) := hxc9.o rt1
          have ne_q9_h_1 : h 1 ≠ q9 := zg_fr nq9 rt1
          have k5 : G43 (rA (re rs j)) = some (.inr (12, [.ref (rN (re rs j)), .ref (rD (re rs j)), .null, .int (rT (re rs j)), .int (rU (re rs j))])) := hxc9.o hr1
          have ne_q9_rA__re_rs_j_ : rA (re rs j) ≠ q9 := zg_fr nq9 hr1
          have k6 : G43 (rD (re rs j)) = some (.inl (E.2.1 0, (rB (re rs j)).length, .inl df)) := hxc9.o hr6
          have ne_q9_rD__re_rs_j_ : rD (re rs j) ≠ q9 := zg_fr nq9 hr6
          have hx7 : zx (fun q => q = rA (re rs j)) G G43 := hx0.tr (hxc9.w (fun _ z => z.elim))
          refine zg_put (ci := 12) (v := .ref q9) (ty := .array .byte) (C := "ZoneAnswersModel$Rec") (T := T_Re) (N := 5) hx hb hts zi_Re t_Re t_Re_ok n_Re hown hK hG hS k5 rfl 2 (by decide) (hts _ w_1267) (fun _ h9 => h9) rfl (by decide +kernel) rfl rfl (Nat.le_of_ble_eq_true rfl) d_Mo_target_46 (fun H locs hG hS => ?_)
          obtain ⟨G8, eG8⟩ : ∃ z : zg_G, z = zg_up G43 (rA (re rs j)) (.inr (12, [.ref (rN (re rs j)), .ref (rD (re rs j)), .ref q9, .int (rT (re rs j)), .int (rU (re rs j))])) := ⟨_, rfl⟩
          have hG : zP E G8 H := by rw [eG8]; exact hG
          have hx9 : zx (fun q => q = rA (re rs j)) G G8 := hx7.tr (by rw [eG8]; exact zx.up (rfl))
          have k10 : G8 a = some (.inr (11, [.int th, .ref (h 1), .int (nI tp.length), .ref (h 3), .ref (h 4), .int (nI rs.length), .ref (h 6), .ref (h 7), .ref (h 8), .ref (h 9), .ref (h 10), .ref (h 11), .ref (h 12), .int (nI (wln Wz)), .int co, .ref (h 15), .int (nI (rPw Wz + px.length)), .int se, .ref (h 18), v19, v20])) := by rw [eG8, zg_up_ne (zg_ne k1 k5 (by intro h; simp at h))]; exact k1
          have k11 : G8 (h 4) = some (.inl (E.2.1 4, 2000, .inr (.inr (.inr (.inr fr))))) := by rw [eG8, zg_up_ne (zg_ne k2 k5 (by intro h; simp at h))]; exact k2
          have k12 : G8 (h 3) = some (.inl (E.2.1 0, np_len lo, .inl fo)) := by rw [eG8, zg_up_ne (zg_ne k3 k5 (by intro h; simp at h))]; exact k3
          have k13 : G8 (h 1) = some (.inl (E.2.1 0, 65536, .inl fm)) := by rw [eG8, zg_up_ne (zg_ne k4 k5 (by intro h; simp at h))]; exact k4
          have k14 : G8 (rA (re rs j)) = some (.inr (12, [.ref (rN (re rs j)), .ref (rD (re rs j)), .ref q9, .int (rT (re rs j)), .int (rU (re rs j))])) := by rw [eG8]; exact zg_up_self _ _ _
          have k15 : G8 (rD (re rs j)) = some (.inl (E.2.1 0, (rB (re rs j)).length, .inl df)) := by rw [eG8, zg_up_ne (zg_ne k6 k5 (by intro h; simp at h))]; exact k6
          have k16 : G8 q9 = some (.inl (E.2.1 0, (rB (re rs j)).length - o9, .inl f9)) := by rw [eG8, zg_up_ne (Ne.symm ne_q9_rA__re_rs_j_)]; exact hq9
          refine lv_aload_n hx hb d_Mo_target_49 rfl (lv_at hl 0 rfl) ?_
          refine zg_get (ci := 11) (C := "ZoneAnswersModel") (T := T_Mo) (N := 21) hx hb hts zi_Mo hown hK hG k10 rfl 4 (by decide) (hts _ w_1285) (fun _ h9 => h9) rfl d_Mo_target_50 ?_
          refine lv_iload_n hx hb d_Mo_target_53 rfl (lv_at hl 3 rfl) ?_
          refine zg_aldq hx hb hK hG 4 k11 rfl (vp_in_nI (by omega) (by omega)) d_Mo_target_54 ?_
          refine zr_as (y := fr k) (by rw [zi_n _ (by omega)]) ?_
          refine zr_some (a := rA (re rs j)) (by rw [hkj]; exact hfr j hj) ?_
          refine zg_get (ci := 12) (C := "ZoneAnswersModel$Rec") (T := T_Re) (N := 5) hx hb hts zi_Re hown hK hG k14 rfl 2 (by decide) (hts _ w_1267) (fun _ h9 => h9) rfl d_Mo_target_55 ?_
          have hnq9 : q9 ≠ rA (re rs j) := fun w => by rw [w, hr1] at nq9; cases nq9
          have eGf := eG8
          rw [eG8] at hG
          exact hret (some q9) _ _ _ _ _ _ _ _ hr (Or.inr ⟨_, rfl⟩) (⟨zrn ro q9 (0, 0), rs.set j (rTgt (re rs j) (.ref q9)), q9, rfl, by exact hst.rs (rsm_set hj _) hfr9 (fun m4 hm => (hm.tgt hj hxc9 nq9 hby9 h6j).1), rsm_set hj _, rNm_by (ro := zrn ro q9 (0, 0)) (by obtain ⟨f8, z1, z2⟩ := hby9; exact ⟨f8, by rw [zg_up_ne hnq9]; exact z1, z2⟩) (zrn_self _ _ _) hdj.2.2.2.2.2.2.1 ht9, hfr9.w (fun _ z => by rw [z]; exact Or.inr rfl), rNu_set hj, rNc_set hj⟩) hG hS (by dsimp only; omega) (by dsimp only; omega) d_Mo_target_58
        · have hkl2 : k + 1 ≤ j := by rcases Nat.lt_or_ge k j with z | z; omega; exact absurd (by rw [show k = j by omega]) c12
          refine lv_iinc (v := nI (k + 1)) (lv' := [(3, .int (nI (k + 1))), (0, .ref a), (1, .ref (rD (re rs j))), (2, .int (nI o9))]) hx hb d_Mo_target_15 hl (k := 3) rfl (nI_add k 1) (by decide) rfl (fun ls hl => ?_)
          refine lv_goto (tgt := 2) hx hb d_Mo_target_18 (by decide) ?_
          exact ih (k + 1) _ _ (by omega) (hkl2) hG hS ls (lv_sub hl [1, 2, 3, 0] rfl)
    exact loop2 _ 0 _ _ (Nat.lt_succ_self _) (Nat.zero_le _) hG hS ls (lv_sub hl [1, 2, 3, 0] rfl)
  · rw [hvs] at hr1
    have hnu : rNu1 (re rs j) = 0 := by unfold rNu1; rw [hvs]
    have hnc : rNc1 (re rs j) = 0 := by unfold rNc1; rw [hvs]
    refine lv_iconst (v := 0) hx hb d_Mo_target_0 (by decide) ?_
    refine zi_as (y := nI 0) (nI_0.symm) ?_
    refine lv_istore_n (lv' := [(3, .int (nI 0)), (0, .ref a), (1, .ref (rD (re rs j))), (2, .int (nI o9))]) hx hb d_Mo_target_1 rfl hl (by decide) rfl (fun ls hl => ?_)
    have loop2 : ∀ (N : Nat) (k : Nat) (H : Heap) (locs : List Loc), (j - k) < N → (k ≤ j) → zP E G H → zg_S (zc_b E) s.heap H locs → ∀ (ls : Array Slot), lv_has ls 4 [(0, .ref a), (1, .ref (rD (re rs j))), (2, .int (nI o9)), (3, .int (nI k))] → W p l e (rm_Mo_target (rNc1 (re rs j)) (rNu1 (re rs j))) s m args below meth c H locs 0 0 Q (F0 m 2 ls []) := by
      intro N
      induction N with
      | zero =>
        intro k H locs hlt
        exact absurd hlt (Nat.not_lt_zero _)
      | succ N ih =>
        intro k H locs hlt hkl hG hS ls hl
        have hkr : k < rs.length := by omega
        obtain ⟨hk1, -, dfk, hk6, -⟩ := hRs _ (re_mem hkr)
        refine lv_aload_n hx hb d_Mo_target_2 rfl (lv_at hl 0 rfl) ?_
        refine zg_get (ci := 11) (C := "ZoneAnswersModel") (T := T_Mo) (N := 21) hx hb hts zi_Mo hown hK hG ra rfl 4 (by decide) (hts _ w_1285) (fun _ h9 => h9) rfl d_Mo_target_3 ?_
        refine lv_iload_n hx hb d_Mo_target_6 rfl (lv_at hl 3 rfl) ?_
        refine zg_aldq hx hb hK hG 4 rm4 rfl (vp_in_nI (by omega) (by omega)) d_Mo_target_7 ?_
        refine zr_as (y := fr k) (by rw [zi_n _ (by omega)]) ?_
        refine zr_some (a := rA (re rs k)) (hfr k hkr) ?_
        refine zg_get (ci := 12) (C := "ZoneAnswersModel$Rec") (T := T_Re) (N := 5) hx hb hts zi_Re hown hK hG hk1 rfl 1 (by decide) (hts _ w_1266) (fun _ h9 => h9) rfl d_Mo_target_8 ?_
        refine lv_aload_n hx hb d_Mo_target_11 rfl (lv_at hl 1 rfl) ?_
        refine lv_acmp_eq (rx := (some (rD (re rs k)))) (ry := (some (rD (re rs j)))) (tgt := 21) hx hb d_Mo_target_12 (by decide) (fun c12 => ?_) (fun c12 => ?_)
        · have hkj : k = j := nodup_ix rr.2.2.2.1 hkr hj (Option.some.inj c12)
          refine lv_aload_n hx hb d_Mo_target_21 rfl (lv_at hl 0 rfl) ?_
          refine zg_get (ci := 11) (C := "ZoneAnswersModel") (T := T_Mo) (N := 21) hx hb hts zi_Mo hown hK hG ra rfl 4 (by decide) (hts _ w_1285) (fun _ h9 => h9) rfl d_Mo_target_22 ?_
          refine lv_iload_n hx hb d_Mo_target_25 rfl (lv_at hl 3 rfl) ?_
          refine zg_aldq hx hb hK hG 4 rm4 rfl (vp_in_nI (by omega) (by omega)) d_Mo_target_26 ?_
          refine zr_as (y := fr k) (by rw [zi_n _ (by omega)]) ?_
          refine zr_some (a := rA (re rs j)) (by rw [hkj]; exact hfr j hj) ?_
          refine zg_get (ci := 12) (C := "ZoneAnswersModel$Rec") (T := T_Re) (N := 5) hx hb hts zi_Re hown hK hG hr1 rfl 2 (by decide) (hts _ w_1267) (fun _ h9 => h9) rfl d_Mo_target_27 ?_
          refine lv_ifnonnull (tgt := 49) hx hb d_Mo_target_30 (by decide) ?_
          refine lv_aload_n hx hb d_Mo_target_49 rfl (lv_at hl 0 rfl) ?_
          refine zg_get (ci := 11) (C := "ZoneAnswersModel") (T := T_Mo) (N := 21) hx hb hts zi_Mo hown hK hG ra rfl 4 (by decide) (hts _ w_1285) (fun _ h9 => h9) rfl d_Mo_target_50 ?_
          refine lv_iload_n hx hb d_Mo_target_53 rfl (lv_at hl 3 rfl) ?_
          refine zg_aldq hx hb hK hG 4 rm4 rfl (vp_in_nI (by omega) (by omega)) d_Mo_target_54 ?_
          refine zr_as (y := fr k) (by rw [zi_n _ (by omega)]) ?_
          refine zr_some (a := rA (re rs j)) (by rw [hkj]; exact hfr j hj) ?_
          refine zg_get (ci := 12) (C := "ZoneAnswersModel$Rec") (T := T_Re) (N := 5) hx hb hts zi_Re hown hK hG hr1 rfl 2 (by decide) (hts _ w_1267) (fun _ h9 => h9) rfl d_Mo_target_55 ?_
          exact hret (some tq) _ _ _ _ _ _ _ _ hr (Or.inr ⟨_, rfl⟩) (⟨ro, rs, tq, rfl, hst, rsm.rf, rNm_by htb htr hdj.2.2.2.2.2.2.1 ht9, zfr.rf, by rw [hnu]; rfl, by rw [hnc]; rfl⟩) hG hS (Nat.zero_le _) (Nat.zero_le _) d_Mo_target_58
        · have hkl2 : k + 1 ≤ j := by rcases Nat.lt_or_ge k j with z | z; omega; exact absurd (by rw [show k = j by omega]) c12
          refine lv_iinc (v := nI (k + 1)) (lv' := [(3, .int (nI (k + 1))), (0, .ref a), (1, .ref (rD (re rs j))), (2, .int (nI o9))]) hx hb d_Mo_target_15 hl (k := 3) rfl (nI_add k 1) (by decide) rfl (fun ls hl => ?_)
          refine lv_goto (tgt := 2) hx hb d_Mo_target_18 (by decide) ?_
          exact ih (k + 1) _ _ (by omega) (hkl2) hG hS ls (lv_sub hl [1, 2, 3, 0] rfl)
    exact loop2 _ 0 _ _ (Nat.lt_succ_self _) (Nat.zero_le _) hG hS ls (lv_sub hl [1, 2, 3, 0] rfl)
