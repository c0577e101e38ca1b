theorem fm_cg {α β : Type} {f g : α → List β} {xs : List α} (h : ∀ x ∈ xs, f x = g x) : xs.flatMap f = xs.flatMap g := by
  induction xs with
  | nil => rfl
  | cons a xs ih => rw [List.flatMap_cons, List.flatMap_cons, h a List.mem_cons_self, ih (fun x hx => h x (List.mem_cons_of_mem _ hx))]
theorem fm_tk {α β : Type} {f : α → List β} {xs : List α} {i : Nat} {a : α} (h : xs[i]? = some a) : (xs.take (i + 1)).flatMap f = (xs.take i).flatMap f ++ f a := by
  rw [List.take_add_one, h, List.flatMap_append]
  show _ ++ (f a ++ []) = _
  rw [List.append_nil]
theorem fm_pre {α β : Type} {f : α → List β} {xs : List α} {n : Nat} : (xs.take n).flatMap f <+: xs.flatMap f := by
  have e : xs.flatMap f = (xs.take n).flatMap f ++ (xs.drop n).flatMap f := by rw [← List.flatMap_append, List.take_append_drop]
  rw [e]; exact List.prefix_append _ _
theorem w1_w1 (W : zW) (A B : List aV) : w1 (w1 W A) B = w1 W (A ++ B) := by unfold w1; dsimp only; rw [List.append_assoc]
theorem w1_pre {W : zW} {A B : List aV} (h : A <+: B) : zLe (w1 W A) (w1 W B) := ⟨List.prefix_append_right_inj _ |>.mpr h, List.prefix_rfl, List.prefix_rfl⟩
/-- the rows that the type asks for, of one set -/
def zfm (ty : Int32) (x : np_N) (s : zSt) : List aV := if ty = 255 ∨ ty = sT s then (sX s).map (fun d => (x, sT s, sU s, d.2.1)) else []
theorem zfm_y {ty : Int32} {x : np_N} {s : zSt} (h : ty = 255 ∨ ty = sT s) : zfm ty x s = (sX s).map (fun d => (x, sT s, sU s, d.2.1)) := if_pos h
theorem zfm_n {ty : Int32} {x : np_N} {s : zSt} (h1 : ¬ ty = 255) (h2 : ¬ ty = sT s) : zfm ty x s = [] := if_neg (fun z => z.elim h1 h2)
theorem vtl1_o {os : List zOt} {top : np_N} (h : zGZ os top) {i : Nat} (hi : i < os.length) (W : zW) (x : np_N) (ty : Int32) : w1 W ((oX (oe os i)).flatMap (zfm ty x)) = vtl1 (zV os) W x (oM (oe os i)) ty := by
  unfold vtl1
  congr 1
  have hr : ∀ s ∈ oX (oe os i), vrw (zV os) x (oM (oe os i)) (sT s) = (sX s).map (fun d => (x, sT s, sU s, d.2.1)) := fun s hs => by
    obtain ⟨j, hj, rfl⟩ := oS_ix hs
    exact vrw_s h.1 hi hj
  by_cases z : ty = 255
  · rw [if_pos z, vts_y (h.ts hi), List.flatMap_map]
    refine fm_cg (fun s hs => ?_)
    rw [zfm_y (Or.inl z), nI_cl2 (Int32.le_trans (by decide) ((h.2.2.2.2.1 i hi).2.2.2 s hs).1), hr s hs]
  · rw [if_neg z]
    unfold vrw zV
    rw [zgt_at h.1.1 hi rfl, List.map_map, List.map_flatMap]
    refine fm_cg (fun s hs => ?_)
    unfold zgS
    by_cases w : sT s = ty
    · rw [zfm_y (Or.inr w.symm), if_pos w, List.map_map, ← w]; rfl
    · rw [zfm_n z (fun q => w q.symm), if_neg w]; rfl
theorem vtl_x {V : zVt} {top x f : np_N} {sec : Bool} {W : zW} {t : Int32} (h : f = x) : vtl V top sec W x f t = zif (¬ vD V f ∨ (¬ t = 255 ∧ V f t = [])) (vpr V top sec (vst V top (vtl1 V W x f t)) (vat V top f)) (vtl1 V W x f t) := if_pos h
theorem vtl_y {V : zVt} {top x f : np_N} {sec : Bool} {W : zW} {t : Int32} (h : ¬ f = x) : vtl V top sec W x f t = vpr V top sec (zif (¬ vD V f ∨ (¬ t = 255 ∧ V f t = [])) (vpr V top sec (vst V top (vtl1 V W x f t)) (vat V top f)) (vtl1 V W x f t)) (vov V top x) := if_neg h
theorem vtl_le1 (V : zVt) (top : np_N) (sec : Bool) (W : zW) (x f : np_N) (t : Int32) : zLe (zif (¬ vD V f ∨ (¬ t = 255 ∧ V f t = [])) (vpr V top sec (vst V top (vtl1 V W x f t)) (vat V top f)) (vtl1 V W x f t)) (vtl V top sec W x f t) := by
  by_cases h : f = x
  · rw [vtl_x h]; exact zLe.rf _
  · rw [vtl_y h]; exact vpr_le V top sec _ _
theorem vtl_le2 (V : zVt) (top : np_N) (sec : Bool) (W : zW) (x f : np_N) (t : Int32) : zLe (vtl1 V W x f t) (zif (¬ vD V f ∨ (¬ t = 255 ∧ V f t = [])) (vpr V top sec (vst V top (vtl1 V W x f t)) (vat V top f)) (vtl1 V W x f t)) := zif_le ((vst_le V top _).tr (vpr_le V top sec _ _)) (zLe.rf _)
theorem vtl_le (V : zVt) (top : np_N) (sec : Bool) (W : zW) (x f : np_N) (t : Int32) : zLe W (vtl V top sec W x f t) := ((zLe.w1 _ _).tr (vtl_le2 V top sec W x f t)).tr (vtl_le1 V top sec W x f t)
theorem vtl1_0 {V : zVt} {W : zW} {x f : np_N} {t : Int32} (h : ¬ vD V f) : vtl1 V W x f t = W := by
  have hv : ∀ u, V f u = [] := fun u => Classical.byContradiction (fun z => h ⟨u, z⟩)
  have hr : ∀ u, vrw V x f u = [] := fun u => by unfold vrw; rw [hv u]; rfl
  unfold vtl1
  split
  · rw [show (vts V f).flatMap (fun u => vrw V x f (nI u)) = (vts V f).flatMap (fun _ => ([] : List aV)) from fm_cg (fun u _ => hr _), show (vts V f).flatMap (fun _ => ([] : List aV)) = [] from ?_, w1_nil]
    generalize vts V f = L
    induction L with
    | nil => rfl
    | cons a L ih => rw [List.flatMap_cons, ih]; rfl
  · rw [hr, w1_nil]
theorem w_208 : (.fieldLink "ZoneAnswers$Answer" 141 "ZoneAnswers$Owner" "sets" "Ljava/util/ArrayList;" : Cond) ∈ zw := zw_at 208 (by decide +kernel) (by decide +kernel)
theorem w_619 : (.fieldLink "ZoneAnswers$Answer" 145 "ZoneAnswers$Rrset" "type" "I" : Cond) ∈ zw := zw_at 619 (by decide +kernel) (by decide +kernel)
theorem w_688 : (.fieldLink "ZoneAnswers$Answer" 31 "ZoneAnswers$Answer" "type" "I" : Cond) ∈ zw := zw_at 688 (by decide +kernel) (by decide +kernel)
theorem w_1027 : (.methodLink "ZoneAnswers$Answer" 61 ⟨"ZoneAnswers$Name", "isSame", "(LZoneAnswers$Name;)Z"⟩ : Cond) ∈ zw := zw_at 1027 (by decide +kernel) (by decide +kernel)
theorem w_1177 : (.methodLink "ZoneAnswers$Answer" 144 ⟨"java/util/ArrayList", "size", "()I"⟩ : Cond) ∈ zw := zw_at 1177 (by decide +kernel) (by decide +kernel)
theorem w_1178 : (.classLink "ZoneAnswers$Answer" 95 "ZoneAnswers$Rrset" : Cond) ∈ zw := zw_at 1178 (by decide +kernel) (by decide +kernel)
abbrev c_An_tell : ByteArray := prog_2_method_7_code
abbrev y_An_tell : MethodName := ⟨"ZoneAnswers$Answer", "tell", "(LZoneAnswers$Name;LZoneAnswers$Name;LZoneAnswers$Owner;)V"⟩
theorem d_An_tell_0 : decode c_An_tell 0 = .ok (.aload_n 3, 1) := by decide +kernel
theorem d_An_tell_1 : decode c_An_tell 1 = .ok (.ifnull 75, 3) := by decide +kernel
theorem d_An_tell_4 : decode c_An_tell 4 = .ok (.iconst 0, 1) := by decide +kernel
theorem d_An_tell_5 : decode c_An_tell 5 = .ok (.istore 4, 2) := by decide +kernel
theorem d_An_tell_7 : decode c_An_tell 7 = .ok (.iload 4, 2) := by decide +kernel
theorem d_An_tell_9 : decode c_An_tell 9 = .ok (.aload_n 3, 1) := by decide +kernel
theorem d_An_tell_10 : decode c_An_tell 10 = .ok (.getfield 141, 3) := by decide +kernel
theorem d_An_tell_13 : decode c_An_tell 13 = .ok (.invokevirtual 144, 3) := by decide +kernel
theorem d_An_tell_16 : decode c_An_tell 16 = .ok (.if_icmp .ge 60, 3) := by decide +kernel
theorem d_An_tell_19 : decode c_An_tell 19 = .ok (.aload_n 3, 1) := by decide +kernel
theorem d_An_tell_20 : decode c_An_tell 20 = .ok (.getfield 141, 3) := by decide +kernel
theorem d_An_tell_23 : decode c_An_tell 23 = .ok (.iload 4, 2) := by decide +kernel
theorem d_An_tell_25 : decode c_An_tell 25 = .ok (.invokevirtual 124, 3) := by decide +kernel
theorem d_An_tell_28 : decode c_An_tell 28 = .ok (.checkcast 95, 3) := by decide +kernel
theorem d_An_tell_31 : decode c_An_tell 31 = .ok (.astore 5, 2) := by decide +kernel
theorem d_An_tell_33 : decode c_An_tell 33 = .ok (.aload_n 0, 1) := by decide +kernel
theorem d_An_tell_34 : decode c_An_tell 34 = .ok (.getfield 31, 3) := by decide +kernel
theorem d_An_tell_37 : decode c_An_tell 37 = .ok (.sipush 255, 3) := by decide +kernel
theorem d_An_tell_40 : decode c_An_tell 40 = .ok (.if_icmp .eq 15, 3) := by decide +kernel
theorem d_An_tell_43 : decode c_An_tell 43 = .ok (.aload_n 0, 1) := by decide +kernel
theorem d_An_tell_44 : decode c_An_tell 44 = .ok (.getfield 31, 3) := by decide +kernel
theorem d_An_tell_47 : decode c_An_tell 47 = .ok (.aload 5, 2) := by decide +kernel
theorem d_An_tell_49 : decode c_An_tell 49 = .ok (.getfield 145, 3) := by decide +kernel
theorem d_An_tell_52 : decode c_An_tell 52 = .ok (.if_icmp .ne 18, 3) := by decide +kernel
theorem d_An_tell_55 : decode c_An_tell 55 = .ok (.aload_n 0, 1) := by decide +kernel
theorem d_An_tell_56 : decode c_An_tell 56 = .ok (.getfield 18, 3) := by decide +kernel
theorem d_An_tell_59 : decode c_An_tell 59 = .ok (.aload_n 1, 1) := by decide +kernel
theorem d_An_tell_60 : decode c_An_tell 60 = .ok (.aload 5, 2) := by decide +kernel
theorem d_An_tell_62 : decode c_An_tell 62 = .ok (.aload 5, 2) := by decide +kernel
theorem d_An_tell_64 : decode c_An_tell 64 = .ok (.getfield 94, 3) := by decide +kernel
theorem d_An_tell_67 : decode c_An_tell 67 = .ok (.invokevirtual 99, 3) := by decide +kernel
theorem d_An_tell_70 : decode c_An_tell 70 = .ok (.iinc 4 1, 3) := by decide +kernel
theorem d_An_tell_73 : decode c_An_tell 73 = .ok (.goto (-66), 3) := by decide +kernel
theorem d_An_tell_76 : decode c_An_tell 76 = .ok (.aload_n 3, 1) := by decide +kernel
theorem d_An_tell_77 : decode c_An_tell 77 = .ok (.ifnull 24, 3) := by decide +kernel
theorem d_An_tell_80 : decode c_An_tell 80 = .ok (.aload_n 0, 1) := by decide +kernel
theorem d_An_tell_81 : decode c_An_tell 81 = .ok (.getfield 31, 3) := by decide +kernel
theorem d_An_tell_84 : decode c_An_tell 84 = .ok (.sipush 255, 3) := by decide +kernel
theorem d_An_tell_87 : decode c_An_tell 87 = .ok (.if_icmp .eq 18, 3) := by decide +kernel
theorem d_An_tell_90 : decode c_An_tell 90 = .ok (.aload_n 3, 1) := by decide +kernel
theorem d_An_tell_91 : decode c_An_tell 91 = .ok (.aload_n 0, 1) := by decide +kernel
theorem d_An_tell_92 : decode c_An_tell 92 = .ok (.getfield 31, 3) := by decide +kernel
theorem d_An_tell_95 : decode c_An_tell 95 = .ok (.invokevirtual 86, 3) := by decide +kernel
theorem d_An_tell_98 : decode c_An_tell 98 = .ok (.ifnonnull 7, 3) := by decide +kernel
theorem d_An_tell_101 : decode c_An_tell 101 = .ok (.iconst 1, 1) := by decide +kernel
theorem d_An_tell_102 : decode c_An_tell 102 = .ok (.goto 4, 3) := by decide +kernel
theorem d_An_tell_105 : decode c_An_tell 105 = .ok (.iconst 0, 1) := by decide +kernel
theorem d_An_tell_106 : decode c_An_tell 106 = .ok (.istore 4, 2) := by decide +kernel
theorem d_An_tell_108 : decode c_An_tell 108 = .ok (.iload 4, 2) := by decide +kernel
theorem d_An_tell_110 : decode c_An_tell 110 = .ok (.ifCond .eq 19, 3) := by decide +kernel
theorem d_An_tell_113 : decode c_An_tell 113 = .ok (.aload_n 0, 1) := by decide +kernel
theorem d_An_tell_114 : decode c_An_tell 114 = .ok (.invokevirtual 138, 3) := by decide +kernel
theorem d_An_tell_117 : decode c_An_tell 117 = .ok (.aload_n 0, 1) := by decide +kernel
theorem d_An_tell_118 : decode c_An_tell 118 = .ok (.aload_n 0, 1) := by decide +kernel
theorem d_An_tell_119 : decode c_An_tell 119 = .ok (.getfield 9, 3) := by decide +kernel
theorem d_An_tell_122 : decode c_An_tell 122 = .ok (.aload_n 2, 1) := by decide +kernel
theorem d_An_tell_123 : decode c_An_tell 123 = .ok (.invokevirtual 113, 3) := by decide +kernel
theorem d_An_tell_126 : decode c_An_tell 126 = .ok (.invokevirtual 106, 3) := by decide +kernel
theorem d_An_tell_129 : decode c_An_tell 129 = .ok (.aload_n 2, 1) := by decide +kernel
theorem d_An_tell_130 : decode c_An_tell 130 = .ok (.aload_n 1, 1) := by decide +kernel
theorem d_An_tell_131 : decode c_An_tell 131 = .ok (.invokevirtual 61, 3) := by decide +kernel
theorem d_An_tell_134 : decode c_An_tell 134 = .ok (.ifCond .ne 15, 3) := by decide +kernel
theorem d_An_tell_137 : decode c_An_tell 137 = .ok (.aload_n 0, 1) := by decide +kernel
theorem d_An_tell_138 : decode c_An_tell 138 = .ok (.aload_n 0, 1) := by decide +kernel
theorem d_An_tell_139 : decode c_An_tell 139 = .ok (.getfield 9, 3) := by decide +kernel
theorem d_An_tell_142 : decode c_An_tell 142 = .ok (.aload_n 1, 1) := by decide +kernel
theorem d_An_tell_143 : decode c_An_tell 143 = .ok (.invokevirtual 103, 3) := by decide +kernel
theorem d_An_tell_146 : decode c_An_tell 146 = .ok (.invokevirtual 106, 3) := by decide +kernel
theorem d_An_tell_149 : decode c_An_tell 149 = .ok (.return_, 1) := by decide +kernel
abbrev rm_An_tell (c9 s9 : Nat) : Room := { frames := 12, cells := c9, slots := s9, locals := 420 }
set_option maxHeartbeats 4000000 in
set_option maxRecDepth 100000 in
/-- Answer.tell(name, found, owner) -/
theorem t_An_tell (l : Launch) (E : zc_E) (G : zg_G) (k : Nat → Nat) (ro : zRo) (rc ty se : Int32) (os : List zOt) (top : np_N) (d1 d2 d3 : Nat) (t1 t2 t3 : List zTt) (hCx : zCx E G ro k rc ty se os top d1 d2 d3 t1 t2 t3) (hGZ : zGZ os top) (hdw : zdw os) (hzn : znr os < 2000) (a1 : Nat) (ls1 : np_N) (hNm1 : zNR E G ro a1 ls1) (a2 : Nat) (ls2 : np_N) (hNm2 : zNR E G ro a2 ls2) (hx1 : ¬ ls2 = ls1 → zl top ls1) (oi : Nat) (hoi : oi < os.length) (ho2 : oM (oe os oi) = ls2) (hB9 : zB9 (vtl (zV os) top (zscu se) (zWt t1 t2 t3) ls1 ls2 ty)) : zMv l E y_An_tell c_An_tell 6 (rm_An_tell (zPc (vtl (zV os) top (zscu se) (zWt t1 t2 t3) ls1 ls2 ty) - zPc (zWt t1 t2 t3)) (zPh os k (vtl (zV os) top (zscu se) (zWt t1 t2 t3) ls1 ls2 ty) - zPh os k (zWt t1 t2 t3))) [.ref (k 0), .ref a1, .ref a2, .ref (oA (oe os oi))] G (fun (G2 : zg_G) => ∃ ro2 e1 e2 e3 u1 u2 u3, zCx E G2 ro2 k rc ty se os top e1 e2 e3 u1 u2 u3 ∧ zfr ro zKa G ro2 G2 ∧ zWt u1 u2 u3 = vtl (zV os) top (zscu se) (zWt t1 t2 t3) ls1 ls2 ty) := by
  refine zMv.of (by decide) (Nat.le_of_ble_eq_true rfl) ?_
  intro p e s m args below meth c Q hZ hG hret ls hl
  obtain ⟨hx, hb, hr, hts, hown, hlocks, hml, hnm, hbase, hK, hN, hQ⟩ := hZ
  have hl : lv_has ls 6 [(0, .ref (k 0)), (1, .ref a1), (2, .ref a2), (3, .ref (oA (oe os oi)))] := hl
  have hS : zg_S (zc_b E) s.heap s.heap [] := va_S.rf
  obtain ⟨⟨hz1, hz2, hz3, hz4, hz5, soa, u9, hz6, hz7, hz8, hz9, hzA⟩, ⟨ha1, ha2, hs1, hs2, hs3⟩, hT1⟩ := id hCx
  obtain ⟨bo, fo, hno1, hno2, hno3, hno4, hno5, -⟩ := id hz4
  have hne : 0 < os.length := hGZ.2.2.1
  have hsz := hGZ.1.sz
  have hol : os.length ≤ 2000 := by have := hsz.1; omega
  have hso := hGZ.1.1
  have hE00 : G (E.2.2.2 0) = none := hQ.out hG
  have hl0 := zWt_l t1 t2 t3
  obtain ⟨b_a1, f_a1, hq1_a1, hq2_a1, hq3_a1, hq4_a1, hq5_a1, -⟩ := id hNm1
  obtain ⟨b_a2, f_a2, hq1_a2, hq2_a2, hq3_a2, hq4_a2, hq5_a2, -⟩ := id hNm2
  have hleA : zLe (vtl1 (zV os) (zWt t1 t2 t3) ls1 ls2 ty) (zif (¬ vD (zV os) ls2 ∨ (¬ ty = 255 ∧ zV os ls2 ty = [])) (vpr (zV os) top (zscu se) (vst (zV os) top (vtl1 (zV os) (zWt t1 t2 t3) ls1 ls2 ty)) (vat (zV os) top ls2)) (vtl1 (zV os) (zWt t1 t2 t3) ls1 ls2 ty)) := vtl_le2 (zV os) top (zscu se) _ _ _ _
  have hleF : zLe (zif (¬ vD (zV os) ls2 ∨ (¬ ty = 255 ∧ zV os ls2 ty = [])) (vpr (zV os) top (zscu se) (vst (zV os) top (vtl1 (zV os) (zWt t1 t2 t3) ls1 ls2 ty)) (vat (zV os) top ls2)) (vtl1 (zV os) (zWt t1 t2 t3) ls1 ls2 ty)) (vtl (zV os) top (zscu se) (zWt t1 t2 t3) ls1 ls2 ty) := vtl_le1 (zV os) top (zscu se) _ _ _ _
  have hle0 : zLe (zWt t1 t2 t3) (vtl1 (zV os) (zWt t1 t2 t3) ls1 ls2 ty) := zLe.w1 _ _
  have hpahleA := zPh_le (os := os) (k := k) hleA
  have hpdhleA := zPc_le hleA
  have hpahleF := zPh_le (os := os) (k := k) hleF
  have hpdhleF := zPc_le hleF
  have hpahle0 := zPh_le (os := os) (k := k) hle0
  have hpdhle0 := zPc_le hle0
  have hA1e : w1 (zWt t1 t2 t3) ((oX (oe os oi)).flatMap (zfm ty ls1)) = vtl1 (zV os) (zWt t1 t2 t3) ls1 ls2 ty := by rw [← ho2]; exact vtl1_o hGZ hoi _ _ _
  have hfi2 := zGZ.fi hGZ hoi
  rw [ho2] at hfi2
  have hszo := (hsz.2 oi hoi).1
  refine lv_aload_n hx hb d_An_tell_0 rfl (lv_at hl 3 rfl) ?_
  refine lv_ifnull hx hb d_An_tell_1 ?_
  refine lv_iconst (v := 0) hx hb d_An_tell_4 (by decide) ?_
  refine zi_as (y := nI 0) (nI_0.symm) ?_
  refine lv_istore (lv' := [(4, .int (nI 0)), (0, .ref (k 0)), (1, .ref a1), (2, .ref a2), (3, .ref (oA (oe os oi)))]) hx hb d_An_tell_5 hl (by decide) rfl (fun ls hl => ?_)
  have loop7 : ∀ (N : Nat) (Gv : zg_G) (i : Nat) (ro8 : zRo) (d18 : Nat) (d28 : Nat) (d38 : Nat) (t18 : List zTt) (t28 : List zTt) (t38 : List zTt) (H : Heap) (locs : List Loc), ((oX (oe os oi)).length - i) < N → (i ≤ (oX (oe os oi)).length) → (zCx E Gv ro8 k rc ty se os top d18 d28 d38 t18 t28 t38) → (zfr ro zKa G ro8 Gv) → (zWt t18 t28 t38 = w1 (zWt t1 t2 t3) (((oX (oe os oi)).take i).flatMap (zfm ty ls1))) → zP E Gv H → zg_S (zc_b E) s.heap H locs → ∀ (ls : Array Slot), lv_has ls 6 [(0, .ref (k 0)), (1, .ref a1), (2, .ref a2), (3, .ref (oA (oe os oi))), (4, .int (nI i))] → W p l e (rm_An_tell (zPc (vtl (zV os) top (zscu se) (zWt t1 t2 t3) ls1 ls2 ty) - zPc (zWt t1 t2 t3)) (zPh os k (vtl (zV os) top (zscu se) (zWt t1 t2 t3) ls1 ls2 ty) - zPh os k (zWt t1 t2 t3))) s m args below meth c H locs (zPc (w1 (zWt t1 t2 t3) (((oX (oe os oi)).take i).flatMap (zfm ty ls1))) - zPc (zWt t1 t2 t3)) (zPh os k (w1 (zWt t1 t2 t3) (((oX (oe os oi)).take i).flatMap (zfm ty ls1))) - zPh os k (zWt t1 t2 t3)) Q (F0 m 7 ls []) := by
    intro N
    induction N with
    | zero =>
      intro Gv i ro8 d18 d28 d38 t18 t28 t38 H locs hlt
      exact absurd hlt (Nat.not_lt_zero _)
    | succ N ih =>
      intro Gv i ro8 d18 d28 d38 t18 t28 t38 H locs hlt hi hC8 hf8 hW8 hG hS ls hl
      obtain ⟨⟨hz18, hz28, hz38, hz48, hz58, soa8, u98, hz68, hz78, hz88, hz98, hzA8⟩, ⟨ha18, ha28, hs18, hs28, hs38⟩, hT18⟩ := id hC8
      obtain ⟨bo8, fo8, hno18, hno28, hno38, hno48, hno58, -⟩ := id hz48
      have hE8 : Gv (E.2.2.2 0) = none := hQ.out hG
      have hN_a18 := hNm1.fr hf8 zKa_0
      have hN_a28 := hNm2.fr hf8 zKa_0
      obtain ⟨b_a18, f_a18, hq1_a18, hq2_a18, hq3_a18, hq4_a18, hq5_a18, -⟩ := id hN_a18
      obtain ⟨b_a28, f_a28, hq1_a28, hq2_a28, hq3_a28, hq4_a28, hq5_a28, -⟩ := id hN_a28
      have how8 := hz38.2 _ (oe_mem hoi)
      obtain ⟨⟨⟨kl8, hal8⟩, -⟩, -⟩ := id how8.2.2.2.1
      rw [List.length_map] at hal8
      have hle8 : zLe (zWt t1 t2 t3) (w1 (zWt t1 t2 t3) (((oX (oe os oi)).take i).flatMap (zfm ty ls1))) := zLe.w1 _ _
      have hle8b : zLe (w1 (zWt t1 t2 t3) (((oX (oe os oi)).take i).flatMap (zfm ty ls1))) (vtl1 (zV os) (zWt t1 t2 t3) ls1 ls2 ty) := by rw [← hA1e]; exact w1_pre fm_pre
      have hpa8 := zPh_le (os := os) (k := k) hle8
      have hpd8 := zPc_le hle8
      have hpa8b := zPh_le (os := os) (k := k) hle8b
      have hpd8b := zPc_le hle8b
      have hl8 := zWt_l t18 t28 t38
      refine lv_iload hx hb d_An_tell_7 (lv_at hl 4 rfl) ?_
      refine lv_aload_n hx hb d_An_tell_9 rfl (lv_at hl 3 rfl) ?_
      refine zg_get (ci := 4) (C := "ZoneAnswers$Owner") (T := T_Ow) (N := 3) hx hb hts zi_Ow hown hK hG how8.1 rfl 1 (by decide) (hts _ w_208) (fun _ h9 => h9) rfl d_An_tell_10 ?_
      refine zk_i (va_runV (As := []) (rest := [.int (nI i)]) ⟨hx, hb, hml, hown, hts⟩ (t_AL_size l E Gv (oL (oe os oi)) (.ref (oD (oe os oi))) (nI ((oX (oe os oi)).length)) kl8 hal8) (zcV 0 hts w_1177 w_160 w_161 w_6 w_162 (by decide +kernel) ⟨Nat.le_of_ble_eq_true rfl, Nat.le_of_ble_eq_true rfl⟩) (zc_preV hbase hK hN hQ hG hS hal8 rfl) rfl rfl hl.1 rfl (lv_room (Nat.le_of_ble_eq_true rfl)) d_An_tell_13 ⟨(by dsimp only; omega), (by dsimp only; omega)⟩) hS (fun r13 G13 H locs hp13 hG hS => ?_)
      have hG : zP E Gv H := hp13.2 ▸ hG
      refine zi_as (y := nI ((oX (oe os oi)).length)) hp13.1 ?_
      refine lv_icmp_ge (tgt := 76) hx hb d_An_tell_16 (by decide) (fun c16 => ?_) (fun c16 => ?_)
      · have b16 : ((oX (oe os oi)).length) ≤ i := (nI_leI (a := ((oX (oe os oi)).length)) (b := i) (by omega) (by omega)).mp c16
        have hWA : zWt t18 t28 t38 = vtl1 (zV os) (zWt t1 t2 t3) ls1 ls2 ty := by rw [hW8, show i = (oX (oe os oi)).length by omega, List.take_length, hA1e]
        have hei : w1 (zWt t1 t2 t3) (((oX (oe os oi)).take i).flatMap (zfm ty ls1)) = vtl1 (zV os) (zWt t1 t2 t3) ls1 ls2 ty := by rw [← hW8, hWA]
        rw [hei] at hpa8 hpd8
        refine lv_aload_n hx hb d_An_tell_76 rfl (lv_at hl 3 rfl) ?_
        refine lv_ifnull hx hb d_An_tell_77 ?_
        refine lv_aload_n hx hb d_An_tell_80 rfl (lv_at hl 0 rfl) ?_
        refine zg_get (ci := 1) (C := "ZoneAnswers$Answer") (T := T_An) (N := 6) hx hb hts zi_An hown hK hG ha18 rfl 4 (by decide) (hts _ w_688) (fun _ h9 => h9) rfl d_An_tell_81 ?_
        refine lv_sipush (v := 255) hx hb d_An_tell_84 (by decide) ?_
        refine lv_icmp_eq (tgt := 105) hx hb d_An_tell_87 (by decide) (fun c87 => ?_) (fun c87 => ?_)
        · have hcn : ¬ (¬ vD (zV os) ls2 ∨ (¬ ty = 255 ∧ zV os ls2 ty = [])) := fun z => z.elim (fun q => q (ho2 ▸ vD_of hGZ.1 hoi)) (fun q => q.1 c87)
          refine lv_iconst (v := 0) hx hb d_An_tell_105 (by decide) ?_
          refine lv_istore (lv' := [(4, .int 0), (0, .ref (k 0)), (1, .ref a1), (2, .ref a2), (3, .ref (oA (oe os oi)))]) hx hb d_An_tell_106 hl (by decide) rfl (fun ls hl => ?_)
          refine lv_iload hx hb d_An_tell_108 (lv_at hl 0 rfl) ?_
          refine lv_if_eq (tgt := 129) hx hb d_An_tell_110 (by decide) (fun c110 => ?_) (fun c110 => ?_)
          · have b110 : 0 = 0 := (nI_eq (a := 0) (b := 0) (by omega) (by omega)).mp c110
            refine lv_aload_n hx hb d_An_tell_129 rfl (lv_at hl 3 rfl) ?_
            refine lv_aload_n hx hb d_An_tell_130 rfl (lv_at hl 2 rfl) ?_
            have hWN : zWt t18 t28 t38 = zif (¬ vD (zV os) ls2 ∨ (¬ ty = 255 ∧ zV os ls2 ty = [])) (vpr (zV os) top (zscu se) (vst (zV os) top (vtl1 (zV os) (zWt t1 t2 t3) ls1 ls2 ty)) (vat (zV os) top ls2)) (vtl1 (zV os) (zWt t1 t2 t3) ls1 ls2 ty) := by rw [hWA, zif_n hcn]
            refine zk_i (va_runV (As := [.ref a1]) (rest := []) ⟨hx, hb, hml, hown, hts⟩ (t_Na_isSame l E Gv a2 b_a28 ls2 f_a28 hq1_a28 hq2_a28 hq3_a28 hq4_a28 a1 b_a18 ls1 f_a18 hq1_a18 hq2_a18 hq3_a18 hq4_a18) (zcV 1 hts w_1027 w_194 w_195 w_7 w_196 (by decide +kernel) ⟨Nat.le_of_ble_eq_true rfl, Nat.le_of_ble_eq_true rfl⟩) (zc_preV hbase hK hN hQ hG hS hq1_a28 rfl) rfl rfl hl.1 rfl (lv_room (Nat.le_of_ble_eq_true rfl)) d_An_tell_131 ⟨(by dsimp only; omega), (by dsimp only; omega)⟩) hS (fun r131 G131 H locs hp131 hG hS => ?_)
            have hG : zP E Gv H := hp131.2 ▸ hG
            refine lv_if_ne (tgt := 149) hx hb d_An_tell_134 (by decide) (fun c134 => ?_) (fun c134 => ?_)
            · have hsm := hp131.1.nz c134
              exact hret _ _ _ _ _ _ _ (⟨ro8, d18, d28, d38, t18, t28, t38, hC8, hf8, by rw [hWN, ← vtl_x hsm]⟩) hG hS (by dsimp only; omega) (by dsimp only; omega) d_An_tell_149
            · have hns := hp131.1.z c134
              have hfi1 : nk_d (zky (oM (oe os 0))) (zky ls1) < 0 := by rw [hGZ.2.2.2.1]; exact hx1 hns
              refine lv_aload_n hx hb d_An_tell_137 rfl (lv_at hl 1 rfl) ?_
              refine lv_aload_n hx hb d_An_tell_138 rfl (lv_at hl 1 rfl) ?_
              refine zg_get (ci := 1) (C := "ZoneAnswers$Answer") (T := T_An) (N := 6) hx hb hts zi_An hown hK hG ha18 rfl 0 (by decide) (hts _ w_684) (fun _ h9 => h9) rfl d_An_tell_139 ?_
              refine lv_aload_n hx hb d_An_tell_142 rfl (lv_at hl 2 rfl) ?_
              have hGo143 := hG
              refine zk_i (va_runV (As := [.ref a1]) (rest := [.ref (k 0)]) ⟨hx, hb, hml, hown, hts⟩ (t_Zo_linkOver l E Gv (k 1) (k 11) (k 12) (k 13) (k 14) rc hz18 ro8 (k 15) os hz38 hne hol hso a1 b_a18 ls1 f_a18 hq1_a18 hq2_a18 hq3_a18 hq4_a18 hq5_a18 hfi1) (zcV 1 hts w_1169 w_1170 w_1171 w_3 w_1172 (by decide +kernel) ⟨Nat.le_of_ble_eq_true rfl, Nat.le_of_ble_eq_true rfl⟩) (zc_preV hbase hK hN hQ hG hS hz18 rfl) rfl rfl hl.1 rfl (lv_room (Nat.le_of_ble_eq_true rfl)) d_An_tell_143 ⟨(by dsimp only; omega), (by dsimp only; omega)⟩) hS (fun r143 G143 H locs hp143 hG hS => ?_)
              obtain ⟨⟨kp143, kp0143, kp1143, kp2143, kp3143, j143, hj1143, hj2143, hj3143, ej143⟩, eg143⟩ := hp143
              have hG : zP E Gv H := eg143 ▸ hG
              have hov143 : vov (zV os) top ls1 = oM (oe os j143) := hGZ.ov ⟨kp1143, kp2143, kp3143⟩ (by omega) hj2143 (fun i h1 h2 => hj3143 i h1 (by omega))
              have hjl143 : j143 < os.length := by omega
              refine zi_as (y := nI j143) ej143 ?_
              have hq146 := t_An_prove l E Gv k ro8 rc ty se os top d18 d28 d38 t18 t28 t38 hC8 hGZ hdw hzn j143 hjl143 (by rw [hWN]; exact by rw [← hov143, ← vtl_y hns]; exact hB9)
              rw [hWN] at hq146
              rw [← hov143, ← vtl_y hns] at hq146
              have hGo146 := hG
              refine zk_v (va_runV (As := [.int (nI j143)]) (rest := []) ⟨hx, hb, hml, hown, hts⟩ (hq146) (zcV 1 hts w_1077 w_1079 wp_17 w_28 w_1080 (by decide +kernel) ⟨Nat.le_of_ble_eq_true rfl, Nat.le_of_ble_eq_true rfl⟩) (zc_preV hbase hK hN hQ hG hS ha18 rfl) rfl rfl hl.1 rfl (lv_room (Nat.le_of_ble_eq_true rfl)) d_An_tell_146 ⟨(by dsimp only; omega), (by dsimp only; omega)⟩) hS (fun G146 H locs hp146 hG hS => ?_)
              obtain ⟨ro_146, d1_146, d2_146, d3_146, t1_146, t2_146, t3_146, hC_146, hf0_146, hW0_146⟩ := hp146
              have hf_146 : zfr ro zKa G ro_146 G146 := hf8.tr hf0_146
              have hW_146 : zWt t1_146 t2_146 t3_146 = vtl (zV os) top (zscu se) (zWt t1 t2 t3) ls1 ls2 ty := hW0_146
              have hE_146 : G146 (E.2.2.2 0) = none := hQ.out hG
              obtain ⟨⟨hz1_146, hz2_146, hz3_146, hz4_146, hz5_146, soa_146, u9_146, hz6_146, hz7_146, hz8_146, hz9_146, hzA_146⟩, ⟨ha1_146, ha2_146, hs1_146, hs2_146, hs3_146⟩, hT1_146⟩ := id hC_146
              obtain ⟨bo_146, fo_146, hno1_146, hno2_146, hno3_146, hno4_146, hno5_146, -⟩ := id hz4_146
              have hN_a1_146 : zNR E G146 ro_146 a1 ls1 := hNm1.fr hf_146 zKa_0
              obtain ⟨b_a1_146, f_a1_146, hq1_a1_146, hq2_a1_146, hq3_a1_146, hq4_a1_146, hq5_a1_146, -⟩ := id hN_a1_146
              have hN_a2_146 : zNR E G146 ro_146 a2 ls2 := hNm2.fr hf_146 zKa_0
              obtain ⟨b_a2_146, f_a2_146, hq1_a2_146, hq2_a2_146, hq3_a2_146, hq4_a2_146, hq5_a2_146, -⟩ := id hN_a2_146
              have hl_146 := zWt_l t1_146 t2_146 t3_146
              exact hret _ _ _ _ _ _ _ (⟨ro_146, d1_146, d2_146, d3_146, t1_146, t2_146, t3_146, hC_146, hf_146, hW_146⟩) hG hS (by dsimp only; omega) (by dsimp only; omega) d_An_tell_149
          · have b110 : ¬ 0 = 0 := fun q => c110 ((nI_eq (a := 0) (b := 0) (by omega) (by omega)).mpr q)
            exact absurd rfl b110
        · refine lv_aload_n hx hb d_An_tell_90 rfl (lv_at hl 3 rfl) ?_
          refine lv_aload_n hx hb d_An_tell_91 rfl (lv_at hl 0 rfl) ?_
          refine zg_get (ci := 1) (C := "ZoneAnswers$Answer") (T := T_An) (N := 6) hx hb hts zi_An hown hK hG ha18 rfl 4 (by decide) (hts _ w_688) (fun _ h9 => h9) rfl d_An_tell_92 ?_
          have hGo95 := hG
          refine zk_q (va_runV (As := [.int ty]) (rest := []) ⟨hx, hb, hml, hown, hts⟩ (t_Ow_find_t l how8 (hGZ.1.2 oi hoi).2.1 ty) (zcV 1 hts w_1032 w_654 w_655 w_12 w_656 (by decide +kernel) ⟨Nat.le_of_ble_eq_true rfl, Nat.le_of_ble_eq_true rfl⟩) (zc_preV hbase hK hN hQ hG hS how8.1 rfl) rfl rfl hl.1 rfl (lv_room (Nat.le_of_ble_eq_true rfl)) d_An_tell_95 ⟨(by dsimp only; omega), (by dsimp only; omega)⟩) hS (fun r95 G95 H locs hp95 hG hS => ?_)
          rcases hp95 with ⟨⟨jf, hjf1, hjf2, hjf3, er95⟩ | ⟨hjfn, er95⟩, eg95⟩
          · have hG : zP E Gv H := eg95 ▸ hG
            refine zr_some (a := sA (oS (oe os oi) jf)) er95 ?_
            have hcn : ¬ (¬ vD (zV os) ls2 ∨ (¬ ty = 255 ∧ zV os ls2 ty = [])) := fun z => z.elim (fun q => q (ho2 ▸ vD_of hGZ.1 hoi)) (fun q => (zV_ne hGZ.1 hoi).mpr ⟨jf, hjf1, hjf2⟩ (by rw [ho2]; exact q.2))
            refine lv_ifnonnull (tgt := 105) hx hb d_An_tell_98 (by decide) ?_
            refine lv_iconst (v := 0) hx hb d_An_tell_105 (by decide) ?_
            refine lv_istore (lv' := [(4, .int 0), (0, .ref (k 0)), (1, .ref a1), (2, .ref a2), (3, .ref (oA (oe os oi)))]) hx hb d_An_tell_106 hl (by decide) rfl (fun ls hl => ?_)
            refine lv_iload hx hb d_An_tell_108 (lv_at hl 0 rfl) ?_
            refine lv_if_eq (tgt := 129) hx hb d_An_tell_110 (by decide) (fun c110 => ?_) (fun c110 => ?_)
            · have b110 : 0 = 0 := (nI_eq (a := 0) (b := 0) (by omega) (by omega)).mp c110
              refine lv_aload_n hx hb d_An_tell_129 rfl (lv_at hl 3 rfl) ?_
              refine lv_aload_n hx hb d_An_tell_130 rfl (lv_at hl 2 rfl) ?_
              have hWN : zWt t18 t28 t38 = zif (¬ vD (zV os) ls2 ∨ (¬ ty = 255 ∧ zV os ls2 ty = [])) (vpr (zV os) top (zscu se) (vst (zV os) top (vtl1 (zV os) (zWt t1 t2 t3) ls1 ls2 ty)) (vat (zV os) top ls2)) (vtl1 (zV os) (zWt t1 t2 t3) ls1 ls2 ty) := by rw [hWA, zif_n hcn]
              refine zk_i (va_runV (As := [.ref a1]) (rest := []) ⟨hx, hb, hml, hown, hts⟩ (t_Na_isSame l E Gv a2 b_a28 ls2 f_a28 hq1_a28 hq2_a28 hq3_a28 hq4_a28 a1 b_a18 ls1 f_a18 hq1_a18 hq2_a18 hq3_a18 hq4_a18) (zcV 1 hts w_1027 w_194 w_195 w_7 w_196 (by decide +kernel) ⟨Nat.le_of_ble_eq_true rfl, Nat.le_of_ble_eq_true rfl⟩) (zc_preV hbase hK hN hQ hG hS hq1_a28 rfl) rfl rfl hl.1 rfl (lv_room (Nat.le_of_ble_eq_true rfl)) d_An_tell_131 ⟨(by dsimp only; omega), (by dsimp only; omega)⟩) hS (fun r131 G131 H locs hp131 hG hS => ?_)
              have hG : zP E Gv H := hp131.2 ▸ hG
              refine lv_if_ne (tgt := 149) hx hb d_An_tell_134 (by decide) (fun c134 => ?_) (fun c134 => ?_)
              · have hsm := hp131.1.nz c134
                exact hret _ _ _ _ _ _ _ (⟨ro8, d18, d28, d38, t18, t28, t38, hC8, hf8, by rw [hWN, ← vtl_x hsm]⟩) hG hS (by dsimp only; omega) (by dsimp only; omega) d_An_tell_149
              · have hns := hp131.1.z c134
                have hfi1 : nk_d (zky (oM (oe os 0))) (zky ls1) < 0 := by rw [hGZ.2.2.2.1]; exact hx1 hns
                refine lv_aload_n hx hb d_An_tell_137 rfl (lv_at hl 1 rfl) ?_
                refine lv_aload_n hx hb d_An_tell_138 rfl (lv_at hl 1 rfl) ?_
                refine zg_get (ci := 1) (C := "ZoneAnswers$Answer") (T := T_An) (N := 6) hx hb hts zi_An hown hK hG ha18 rfl 0 (by decide) (hts _ w_684) (fun _ h9 => h9) rfl d_An_tell_139 ?_
                refine lv_aload_n hx hb d_An_tell_142 rfl (lv_at hl 2 rfl) ?_
                have hGo143 := hG
                refine zk_i (va_runV (As := [.ref a1]) (rest := [.ref (k 0)]) ⟨hx, hb, hml, hown, hts⟩ (t_Zo_linkOver l E Gv (k 1) (k 11) (k 12) (k 13) (k 14) rc hz18 ro8 (k 15) os hz38 hne hol hso a1 b_a18 ls1 f_a18 hq1_a18 hq2_a18 hq3_a18 hq4_a18 hq5_a18 hfi1) (zcV 1 hts w_1169 w_1170 w_1171 w_3 w_1172 (by decide +kernel) ⟨Nat.le_of_ble_eq_true rfl, Nat.le_of_ble_eq_true rfl⟩) (zc_preV hbase hK hN hQ hG hS hz18 rfl) rfl rfl hl.1 rfl (lv_room (Nat.le_of_ble_eq_true rfl)) d_An_tell_143 ⟨(by dsimp only; omega), (by dsimp only; omega)⟩) hS (fun r143 G143 H locs hp143 hG hS => ?_)
                obtain ⟨⟨kp143, kp0143, kp1143, kp2143, kp3143, j143, hj1143, hj2143, hj3143, ej143⟩, eg143⟩ := hp143
                have hG : zP E Gv H := eg143 ▸ hG
                have hov143 : vov (zV os) top ls1 = oM (oe os j143) := hGZ.ov ⟨kp1143, kp2143, kp3143⟩ (by omega) hj2143 (fun i h1 h2 => hj3143 i h1 (by omega))
                have hjl143 : j143 < os.length := by omega
                refine zi_as (y := nI j143) ej143 ?_
                have hq146 := t_An_prove l E Gv k ro8 rc ty se os top d18 d28 d38 t18 t28 t38 hC8 hGZ hdw hzn j143 hjl143 (by rw [hWN]; exact by rw [← hov143, ← vtl_y hns]; exact hB9)
                rw [hWN] at hq146
                rw [← hov143, ← vtl_y hns] at hq146
                have hGo146 := hG
                refine zk_v (va_runV (As := [.int (nI j143)]) (rest := []) ⟨hx, hb, hml, hown, hts⟩ (hq146) (zcV 1 hts w_1077 w_1079 wp_17 w_28 w_1080 (by decide +kernel) ⟨Nat.le_of_ble_eq_true rfl, Nat.le_of_ble_eq_true rfl⟩) (zc_preV hbase hK hN hQ hG hS ha18 rfl) rfl rfl hl.1 rfl (lv_room (Nat.le_of_ble_eq_true rfl)) d_An_tell_146 ⟨(by dsimp only; omega), (by dsimp only; omega)⟩) hS (fun G146 H locs hp146 hG hS => ?_)
                obtain ⟨ro_146, d1_146, d2_146, d3_146, t1_146, t2_146, t3_146, hC_146, hf0_146, hW0_146⟩ := hp146
                have hf_146 : zfr ro zKa G ro_146 G146 := hf8.tr hf0_146
                have hW_146 : zWt t1_146 t2_146 t3_146 = vtl (zV os) top (zscu se) (zWt t1 t2 t3) ls1 ls2 ty := hW0_146
                have hE_146 : G146 (E.2.2.2 0) = none := hQ.out hG
                obtain ⟨⟨hz1_146, hz2_146, hz3_146, hz4_146, hz5_146, soa_146, u9_146, hz6_146, hz7_146, hz8_146, hz9_146, hzA_146⟩, ⟨ha1_146, ha2_146, hs1_146, hs2_146, hs3_146⟩, hT1_146⟩ := id hC_146
                obtain ⟨bo_146, fo_146, hno1_146, hno2_146, hno3_146, hno4_146, hno5_146, -⟩ := id hz4_146
                have hN_a1_146 : zNR E G146 ro_146 a1 ls1 := hNm1.fr hf_146 zKa_0
                obtain ⟨b_a1_146, f_a1_146, hq1_a1_146, hq2_a1_146, hq3_a1_146, hq4_a1_146, hq5_a1_146, -⟩ := id hN_a1_146
                have hN_a2_146 : zNR E G146 ro_146 a2 ls2 := hNm2.fr hf_146 zKa_0
                obtain ⟨b_a2_146, f_a2_146, hq1_a2_146, hq2_a2_146, hq3_a2_146, hq4_a2_146, hq5_a2_146, -⟩ := id hN_a2_146
                have hl_146 := zWt_l t1_146 t2_146 t3_146
                exact hret _ _ _ _ _ _ _ (⟨ro_146, d1_146, d2_146, d3_146, t1_146, t2_146, t3_146, hC_146, hf_146, hW_146⟩) hG hS (by dsimp only; omega) (by dsimp only; omega) d_An_tell_149
            · have b110 : ¬ 0 = 0 := fun q => c110 ((nI_eq (a := 0) (b := 0) (by omega) (by omega)).mpr q)
              exact absurd rfl b110
          · have hG : zP E Gv H := eg95 ▸ hG
            refine zr_none er95 ?_
            have hcy : (¬ vD (zV os) ls2 ∨ (¬ ty = 255 ∧ zV os ls2 ty = [])) := Or.inr ⟨c87, by rw [← ho2]; exact zV_fd hGZ.1 hoi hjfn⟩
            refine lv_ifnonnullN hx hb d_An_tell_98 ?_
            refine lv_iconst (v := 1) hx hb d_An_tell_101 (by decide) ?_
            refine lv_goto (tgt := 106) hx hb d_An_tell_102 (by decide) ?_
            refine lv_istore (lv' := [(4, .int 1), (0, .ref (k 0)), (1, .ref a1), (2, .ref a2), (3, .ref (oA (oe os oi)))]) hx hb d_An_tell_106 hl (by decide) rfl (fun ls hl => ?_)
            refine lv_iload hx hb d_An_tell_108 (lv_at hl 0 rfl) ?_
            refine lv_if_eq (tgt := 129) hx hb d_An_tell_110 (by decide) (fun c110 => ?_) (fun c110 => ?_)
            · have b110 : 1 = 0 := (nI_eq (a := 1) (b := 0) (by omega) (by omega)).mp c110
              exact absurd b110 (by decide)
            · have b110 : ¬ 1 = 0 := fun q => c110 ((nI_eq (a := 1) (b := 0) (by omega) (by omega)).mpr q)
              refine lv_aload_n hx hb d_An_tell_113 rfl (lv_at hl 1 rfl) ?_
              have hA2e : zif (¬ vD (zV os) ls2 ∨ (¬ ty = 255 ∧ zV os ls2 ty = [])) (vpr (zV os) top (zscu se) (vst (zV os) top (vtl1 (zV os) (zWt t1 t2 t3) ls1 ls2 ty)) (vat (zV os) top ls2)) (vtl1 (zV os) (zWt t1 t2 t3) ls1 ls2 ty) = vpr (zV os) top (zscu se) (vst (zV os) top (vtl1 (zV os) (zWt t1 t2 t3) ls1 ls2 ty)) (vat (zV os) top ls2) := zif_y hcy
              have hleS : zLe (vtl1 (zV os) (zWt t1 t2 t3) ls1 ls2 ty) (vst (zV os) top (vtl1 (zV os) (zWt t1 t2 t3) ls1 ls2 ty)) := vst_le (zV os) top _
              have hleS2 : zLe (vst (zV os) top (vtl1 (zV os) (zWt t1 t2 t3) ls1 ls2 ty)) (zif (¬ vD (zV os) ls2 ∨ (¬ ty = 255 ∧ zV os ls2 ty = [])) (vpr (zV os) top (zscu se) (vst (zV os) top (vtl1 (zV os) (zWt t1 t2 t3) ls1 ls2 ty)) (vat (zV os) top ls2)) (vtl1 (zV os) (zWt t1 t2 t3) ls1 ls2 ty)) := by rw [zif_y hcy]; exact vpr_le (zV os) top (zscu se) _ _
              have hpahleS := zPh_le (os := os) (k := k) hleS
              have hpdhleS := zPc_le hleS
              have hpahleS2 := zPh_le (os := os) (k := k) hleS2
              have hpdhleS2 := zPc_le hleS2
              have hq114 := t_An_addStart l E Gv k ro8 rc ty se os top d18 d28 d38 t18 t28 t38 hC8 hGZ hdw hzn  (by rw [hWA]; exact hB9.le (hleS2.tr hleF))
              rw [hWA] at hq114
              have hGo114 := hG
              refine zk_v (va_runV (As := []) (rest := []) ⟨hx, hb, hml, hown, hts⟩ (hq114) (zcV 0 hts w_1161 w_1163 wp_22 w_28 w_1164 (by decide +kernel) ⟨Nat.le_of_ble_eq_true rfl, Nat.le_of_ble_eq_true rfl⟩) (zc_preV hbase hK hN hQ hG hS ha18 rfl) rfl rfl hl.1 rfl (lv_room (Nat.le_of_ble_eq_true rfl)) d_An_tell_114 ⟨(by dsimp only; omega), (by dsimp only; omega)⟩) hS (fun G114 H locs hp114 hG hS => ?_)
              obtain ⟨ro_114, d1_114, d2_114, d3_114, t1_114, t2_114, t3_114, hC_114, hf0_114, hW0_114⟩ := hp114
              have hf_114 : zfr ro zKa G ro_114 G114 := hf8.tr hf0_114
              have hW_114 : zWt t1_114 t2_114 t3_114 = vst (zV os) top (vtl1 (zV os) (zWt t1 t2 t3) ls1 ls2 ty) := hW0_114
              have hE_114 : G114 (E.2.2.2 0) = none := hQ.out hG
              obtain ⟨⟨hz1_114, hz2_114, hz3_114, hz4_114, hz5_114, soa_114, u9_114, hz6_114, hz7_114, hz8_114, hz9_114, hzA_114⟩, ⟨ha1_114, ha2_114, hs1_114, hs2_114, hs3_114⟩, hT1_114⟩ := id hC_114
              obtain ⟨bo_114, fo_114, hno1_114, hno2_114, hno3_114, hno4_114, hno5_114, -⟩ := id hz4_114
              have hN_a1_114 : zNR E G114 ro_114 a1 ls1 := hNm1.fr hf_114 zKa_0
              obtain ⟨b_a1_114, f_a1_114, hq1_a1_114, hq2_a1_114, hq3_a1_114, hq4_a1_114, hq5_a1_114, -⟩ := id hN_a1_114
              have hN_a2_114 : zNR E G114 ro_114 a2 ls2 := hNm2.fr hf_114 zKa_0
              obtain ⟨b_a2_114, f_a2_114, hq1_a2_114, hq2_a2_114, hq3_a2_114, hq4_a2_114, hq5_a2_114, -⟩ := id hN_a2_114
              have hl_114 := zWt_l t1_114 t2_114 t3_114
              refine lv_aload_n hx hb d_An_tell_117 rfl (lv_at hl 1 rfl) ?_
              refine lv_aload_n hx hb d_An_tell_118 rfl (lv_at hl 1 rfl) ?_
              refine zg_get (ci := 1) (C := "ZoneAnswers$Answer") (T := T_An) (N := 6) hx hb hts zi_An hown hK hG ha1_114 rfl 0 (by decide) (hts _ w_684) (fun _ h9 => h9) rfl d_An_tell_119 ?_
              refine lv_aload_n hx hb d_An_tell_122 rfl (lv_at hl 3 rfl) ?_
              have hGo123 := hG
              refine zk_i (va_runV (As := [.ref a2]) (rest := [.ref (k 0)]) ⟨hx, hb, hml, hown, hts⟩ (t_Zo_linkAt l E G114 (k 1) (k 11) (k 12) (k 13) (k 14) rc hz1_114 ro_114 (k 15) os hz3_114 hne hol hso a2 b_a2_114 ls2 f_a2_114 hq1_a2_114 hq2_a2_114 hq3_a2_114 hq4_a2_114 hq5_a2_114 hfi2) (zcV 1 hts w_1068 w_1069 w_1070 w_3 w_1071 (by decide +kernel) ⟨Nat.le_of_ble_eq_true rfl, Nat.le_of_ble_eq_true rfl⟩) (zc_preV hbase hK hN hQ hG hS hz1_114 rfl) rfl rfl hl.1 rfl (lv_room (Nat.le_of_ble_eq_true rfl)) d_An_tell_123 ⟨(by dsimp only; omega), (by dsimp only; omega)⟩) hS (fun r123 G123 H locs hp123 hG hS => ?_)
              obtain ⟨⟨kp123, kp1123, kp2123, kp3123, hkc123⟩, eg123⟩ := hp123
              have hG : zP E G114 H := eg123 ▸ hG
              obtain ⟨j123, hjl123, hva123, ej123⟩ : ∃ j, j < os.length ∧ vat (zV os) top ls2 = oM (oe os j) ∧ r123 = nI j := by
                rcases hkc123 with ⟨q1, q2, j, q3, q4, q5, q6⟩ | ⟨q1, q2, j, q3, q4, q5, q6⟩
                · exact ⟨j, by omega, hGZ.at q1 q2 q3 q4 q5, q6⟩
                · refine ⟨j, by omega, ?_, q6⟩
                  have hnd : ¬ vD (zV os) ls2 := fun z => by
                    obtain ⟨i, hi, e⟩ := vD_ix z
                    rcases Nat.lt_trichotomy i kp123 with w | w | w
                    · have := kp2123 i w; rw [e, nk_d_self] at this; omega
                    · exact q2 ⟨by omega, by rw [← w]; exact e⟩
                    · have h9 := kp3123 kp123 (Nat.le_refl _) (by omega); have h8 := hGZ.1.1 kp123 i w hi; rw [e] at h8; exact h9 h8
                  unfold vat; rw [zif_n (fun z => hnd z.1)]
                  exact hGZ.ov ⟨kp1123, kp2123, kp3123⟩ (by omega) q4 (fun i h1 h2 => q5 i h1 (by omega))
              refine zi_as (y := nI j123) ej123 ?_
              have hq126 := t_An_prove l E G114 k ro_114 rc ty se os top d1_114 d2_114 d3_114 t1_114 t2_114 t3_114 hC_114 hGZ hdw hzn j123 hjl123 (by rw [hW_114]; exact by rw [← hva123, ← hA2e]; exact hB9.le hleF)
              rw [hW_114] at hq126
              rw [← hva123, ← hA2e] at hq126
              have hGo126 := hG
              refine zk_v (va_runV (As := [.int (nI j123)]) (rest := []) ⟨hx, hb, hml, hown, hts⟩ (hq126) (zcV 1 hts w_1077 w_1079 wp_17 w_28 w_1080 (by decide +kernel) ⟨Nat.le_of_ble_eq_true rfl, Nat.le_of_ble_eq_true rfl⟩) (zc_preV hbase hK hN hQ hG hS ha1_114 rfl) rfl rfl hl.1 rfl (lv_room (Nat.le_of_ble_eq_true rfl)) d_An_tell_126 ⟨(by dsimp only; omega), (by dsimp only; omega)⟩) hS (fun G126 H locs hp126 hG hS => ?_)
              obtain ⟨ro_126, d1_126, d2_126, d3_126, t1_126, t2_126, t3_126, hC_126, hf0_126, hW0_126⟩ := hp126
              have hf_126 : zfr ro zKa G ro_126 G126 := hf_114.tr hf0_126
              have hW_126 : zWt t1_126 t2_126 t3_126 = zif (¬ vD (zV os) ls2 ∨ (¬ ty = 255 ∧ zV os ls2 ty = [])) (vpr (zV os) top (zscu se) (vst (zV os) top (vtl1 (zV os) (zWt t1 t2 t3) ls1 ls2 ty)) (vat (zV os) top ls2)) (vtl1 (zV os) (zWt t1 t2 t3) ls1 ls2 ty) := hW0_126
              have hE_126 : G126 (E.2.2.2 0) = none := hQ.out hG
              obtain ⟨⟨hz1_126, hz2_126, hz3_126, hz4_126, hz5_126, soa_126, u9_126, hz6_126, hz7_126, hz8_126, hz9_126, hzA_126⟩, ⟨ha1_126, ha2_126, hs1_126, hs2_126, hs3_126⟩, hT1_126⟩ := id hC_126
              obtain ⟨bo_126, fo_126, hno1_126, hno2_126, hno3_126, hno4_126, hno5_126, -⟩ := id hz4_126
              have hN_a1_126 : zNR E G126 ro_126 a1 ls1 := hNm1.fr hf_126 zKa_0
              obtain ⟨b_a1_126, f_a1_126, hq1_a1_126, hq2_a1_126, hq3_a1_126, hq4_a1_126, hq5_a1_126, -⟩ := id hN_a1_126
              have hN_a2_126 : zNR E G126 ro_126 a2 ls2 := hNm2.fr hf_126 zKa_0
              obtain ⟨b_a2_126, f_a2_126, hq1_a2_126, hq2_a2_126, hq3_a2_126, hq4_a2_126, hq5_a2_126, -⟩ := id hN_a2_126
              have hl_126 := zWt_l t1_126 t2_126 t3_126
              refine lv_aload_n hx hb d_An_tell_129 rfl (lv_at hl 3 rfl) ?_
              refine lv_aload_n hx hb d_An_tell_130 rfl (lv_at hl 2 rfl) ?_
              refine zk_i (va_runV (As := [.ref a1]) (rest := []) ⟨hx, hb, hml, hown, hts⟩ (t_Na_isSame l E G126 a2 b_a2_126 ls2 f_a2_126 hq1_a2_126 hq2_a2_126 hq3_a2_126 hq4_a2_126 a1 b_a1_126 ls1 f_a1_126 hq1_a1_126 hq2_a1_126 hq3_a1_126 hq4_a1_126) (zcV 1 hts w_1027 w_194 w_195 w_7 w_196 (by decide +kernel) ⟨Nat.le_of_ble_eq_true rfl, Nat.le_of_ble_eq_true rfl⟩) (zc_preV hbase hK hN hQ hG hS hq1_a2_126 rfl) rfl rfl hl.1 rfl (lv_room (Nat.le_of_ble_eq_true rfl)) d_An_tell_131 ⟨(by dsimp only; omega), (by dsimp only; omega)⟩) hS (fun r131 G131 H locs hp131 hG hS => ?_)
              have hG : zP E G126 H := hp131.2 ▸ hG
              refine lv_if_ne (tgt := 149) hx hb d_An_tell_134 (by decide) (fun c134 => ?_) (fun c134 => ?_)
              · have hsm := hp131.1.nz c134
                exact hret _ _ _ _ _ _ _ (⟨ro_126, d1_126, d2_126, d3_126, t1_126, t2_126, t3_126, hC_126, hf_126, by rw [hW_126, ← vtl_x hsm]⟩) hG hS (by dsimp only; omega) (by dsimp only; omega) d_An_tell_149
              · have hns := hp131.1.z c134
                have hfi1 : nk_d (zky (oM (oe os 0))) (zky ls1) < 0 := by rw [hGZ.2.2.2.1]; exact hx1 hns
                refine lv_aload_n hx hb d_An_tell_137 rfl (lv_at hl 1 rfl) ?_
                refine lv_aload_n hx hb d_An_tell_138 rfl (lv_at hl 1 rfl) ?_
                refine zg_get (ci := 1) (C := "ZoneAnswers$Answer") (T := T_An) (N := 6) hx hb hts zi_An hown hK hG ha1_126 rfl 0 (by decide) (hts _ w_684) (fun _ h9 => h9) rfl d_An_tell_139 ?_
                refine lv_aload_n hx hb d_An_tell_142 rfl (lv_at hl 2 rfl) ?_
                have hGo143 := hG
                refine zk_i (va_runV (As := [.ref a1]) (rest := [.ref (k 0)]) ⟨hx, hb, hml, hown, hts⟩ (t_Zo_linkOver l E G126 (k 1) (k 11) (k 12) (k 13) (k 14) rc hz1_126 ro_126 (k 15) os hz3_126 hne hol hso a1 b_a1_126 ls1 f_a1_126 hq1_a1_126 hq2_a1_126 hq3_a1_126 hq4_a1_126 hq5_a1_126 hfi1) (zcV 1 hts w_1169 w_1170 w_1171 w_3 w_1172 (by decide +kernel) ⟨Nat.le_of_ble_eq_true rfl, Nat.le_of_ble_eq_true rfl⟩) (zc_preV hbase hK hN hQ hG hS hz1_126 rfl) rfl rfl hl.1 rfl (lv_room (Nat.le_of_ble_eq_true rfl)) d_An_tell_143 ⟨(by dsimp only; omega), (by dsimp only; omega)⟩) hS (fun r143 G143 H locs hp143 hG hS => ?_)
                obtain ⟨⟨kp143, kp0143, kp1143, kp2143, kp3143, j143, hj1143, hj2143, hj3143, ej143⟩, eg143⟩ := hp143
                have hG : zP E G126 H := eg143 ▸ hG
                have hov143 : vov (zV os) top ls1 = oM (oe os j143) := hGZ.ov ⟨kp1143, kp2143, kp3143⟩ (by omega) hj2143 (fun i h1 h2 => hj3143 i h1 (by omega))
                have hjl143 : j143 < os.length := by omega
                refine zi_as (y := nI j143) ej143 ?_
                have hq146 := t_An_prove l E G126 k ro_126 rc ty se os top d1_126 d2_126 d3_126 t1_126 t2_126 t3_126 hC_126 hGZ hdw hzn j143 hjl143 (by rw [hW_126]; exact by rw [← hov143, ← vtl_y hns]; exact hB9)
                rw [hW_126] at hq146
                rw [← hov143, ← vtl_y hns] at hq146
                have hGo146 := hG
                refine zk_v (va_runV (As := [.int (nI j143)]) (rest := []) ⟨hx, hb, hml, hown, hts⟩ (hq146) (zcV 1 hts w_1077 w_1079 wp_17 w_28 w_1080 (by decide +kernel) ⟨Nat.le_of_ble_eq_true rfl, Nat.le_of_ble_eq_true rfl⟩) (zc_preV hbase hK hN hQ hG hS ha1_126 rfl) rfl rfl hl.1 rfl (lv_room (Nat.le_of_ble_eq_true rfl)) d_An_tell_146 ⟨(by dsimp only; omega), (by dsimp only; omega)⟩) hS (fun G146 H locs hp146 hG hS => ?_)
                obtain ⟨ro_146, d1_146, d2_146, d3_146, t1_146, t2_146, t3_146, hC_146, hf0_146, hW0_146⟩ := hp146
                have hf_146 : zfr ro zKa G ro_146 G146 := hf_126.tr hf0_146
                have hW_146 : zWt t1_146 t2_146 t3_146 = vtl (zV os) top (zscu se) (zWt t1 t2 t3) ls1 ls2 ty := hW0_146
                have hE_146 : G146 (E.2.2.2 0) = none := hQ.out hG
                obtain ⟨⟨hz1_146, hz2_146, hz3_146, hz4_146, hz5_146, soa_146, u9_146, hz6_146, hz7_146, hz8_146, hz9_146, hzA_146⟩, ⟨ha1_146, ha2_146, hs1_146, hs2_146, hs3_146⟩, hT1_146⟩ := id hC_146
                obtain ⟨bo_146, fo_146, hno1_146, hno2_146, hno3_146, hno4_146, hno5_146, -⟩ := id hz4_146
                have hN_a1_146 : zNR E G146 ro_146 a1 ls1 := hNm1.fr hf_146 zKa_0
                obtain ⟨b_a1_146, f_a1_146, hq1_a1_146, hq2_a1_146, hq3_a1_146, hq4_a1_146, hq5_a1_146, -⟩ := id hN_a1_146
                have hN_a2_146 : zNR E G146 ro_146 a2 ls2 := hNm2.fr hf_146 zKa_0
                obtain ⟨b_a2_146, f_a2_146, hq1_a2_146, hq2_a2_146, hq3_a2_146, hq4_a2_146, hq5_a2_146, -⟩ := id hN_a2_146
                have hl_146 := zWt_l t1_146 t2_146 t3_146
                exact hret _ _ _ _ _ _ _ (⟨ro_146, d1_146, d2_146, d3_146, t1_146, t2_146, t3_146, hC_146, hf_146, hW_146⟩) hG hS (by dsimp only; omega) (by dsimp only; omega) d_An_tell_149
      · have b16 : ¬ ((oX (oe os oi)).length) ≤ i := fun q => c16 ((nI_leI (a := ((oX (oe os oi)).length)) (b := i) (by omega) (by omega)).mpr q)
        have hin : i < (oX (oe os oi)).length := by omega
        refine lv_aload_n hx hb d_An_tell_19 rfl (lv_at hl 3 rfl) ?_
        refine zg_get (ci := 4) (C := "ZoneAnswers$Owner") (T := T_Ow) (N := 3) hx hb hts zi_Ow hown hK hG how8.1 rfl 1 (by decide) (hts _ w_208) (fun _ h9 => h9) rfl d_An_tell_20 ?_
        refine lv_iload hx hb d_An_tell_23 (lv_at hl 4 rfl) ?_
        have hGo25 := hG
        refine zk_q (va_runV (As := [.int (nI i)]) (rest := []) ⟨hx, hb, hml, hown, hts⟩ (t_AL_get_u l how8.2.2.2.1.1 i (by rw [List.length_map]; exact hin)) (zcV 1 hts w_1135 w_164 w_165 w_6 w_166 (by decide +kernel) ⟨Nat.le_of_ble_eq_true rfl, Nat.le_of_ble_eq_true rfl⟩) (zc_preV hbase hK hN hQ hG hS hal8 rfl) rfl rfl hl.1 rfl (lv_room (Nat.le_of_ble_eq_true rfl)) d_An_tell_25 ⟨(by dsimp only; omega), (by dsimp only; omega)⟩) hS (fun r25 G25 H locs hp25 hG hS => ?_)
        have hG : zP E Gv H := hp25.2 ▸ hG
        refine zr_some (a := sA (oS (oe os oi) i)) (hp25.1.trans (oS_m hin)) ?_
        have hxi : (oX (oe os oi))[i]? = some (oS (oe os oi) i) := by rw [List.getElem?_eq_getElem hin, oS_at hin]
        have hWn : w1 (zWt t1 t2 t3) (((oX (oe os oi)).take (i + 1)).flatMap (zfm ty ls1)) = w1 (w1 (zWt t1 t2 t3) (((oX (oe os oi)).take i).flatMap (zfm ty ls1))) (zfm ty ls1 (oS (oe os oi) i)) := by rw [fm_tk hxi, w1_w1]
        have hle9 : zLe (w1 (zWt t1 t2 t3) (((oX (oe os oi)).take (i + 1)).flatMap (zfm ty ls1))) (vtl1 (zV os) (zWt t1 t2 t3) ls1 ls2 ty) := by rw [← hA1e]; exact w1_pre fm_pre
        have hpa9 := zPh_le (os := os) (k := k) hle9
        have hpd9 := zPc_le hle9
        refine zg_castY hx hb hown (hts _ w_1178) hK hG (how8.2.2.2.2 _ (oS_mem hin)).1 rfl (zN.at hN (w := .castable "ZoneAnswers$Rrset" "ZoneAnswers$Rrset") (by decide +kernel)) d_An_tell_28 ?_
        refine lv_astore (lv' := [(5, .ref (sA (oS (oe os oi) i))), (0, .ref (k 0)), (1, .ref a1), (2, .ref a2), (3, .ref (oA (oe os oi))), (4, .int (nI i))]) hx hb d_An_tell_31 hl (by decide) rfl (fun ls hl => ?_)
        refine lv_aload_n hx hb d_An_tell_33 rfl (lv_at hl 1 rfl) ?_
        refine zg_get (ci := 1) (C := "ZoneAnswers$Answer") (T := T_An) (N := 6) hx hb hts zi_An hown hK hG ha18 rfl 4 (by decide) (hts _ w_688) (fun _ h9 => h9) rfl d_An_tell_34 ?_
        refine lv_sipush (v := 255) hx hb d_An_tell_37 (by decide) ?_
        refine lv_icmp_eq (tgt := 55) hx hb d_An_tell_40 (by decide) (fun c40 => ?_) (fun c40 => ?_)
        · refine lv_aload_n hx hb d_An_tell_55 rfl (lv_at hl 1 rfl) ?_
          refine zg_get (ci := 1) (C := "ZoneAnswers$Answer") (T := T_An) (N := 6) hx hb hts zi_An hown hK hG ha18 rfl 1 (by decide) (hts _ w_685) (fun _ h9 => h9) rfl d_An_tell_56 ?_
          refine lv_aload_n hx hb d_An_tell_59 rfl (lv_at hl 2 rfl) ?_
          refine lv_aload hx hb d_An_tell_60 (lv_at hl 0 rfl) ?_
          refine lv_aload hx hb d_An_tell_62 (lv_at hl 0 rfl) ?_
          refine zg_get (ci := 5) (C := "ZoneAnswers$Rrset") (T := T_Rr) (N := 3) hx hb hts zi_Rr hown hK hG (how8.2.2.2.2 _ (oS_mem hin)).1 rfl 1 (by decide) (hts _ w_623) (fun _ h9 => h9) rfl d_An_tell_64 ?_
          have hzf := zfm_y (x := ls1) (s := oS (oe os oi) i) (Or.inl c40)
          rw [hzf] at hWn
          have hzl : ((sX (oS (oe os oi) i)).map (fun d => (ls1, sT (oS (oe os oi) i), sU (oS (oe os oi) i), d.2.1))).length = (sX (oS (oe os oi) i)).length := List.length_map _
          have hph := zPh_1 (os := os) (k := k) (W := w1 (zWt t1 t2 t3) (((oX (oe os oi)).take i).flatMap (zfm ty ls1))) hzl
          have hpc := zPc_1 (W := w1 (zWt t1 t2 t3) (((oX (oe os oi)).take i).flatMap (zfm ty ls1))) hzl
          rw [← hWn] at hph hpc
          have hlen : (w1 (zWt t1 t2 t3) (((oX (oe os oi)).take i).flatMap (zfm ty ls1))).1.length = t18.length := by rw [← hW8]; exact hl8.1
          rw [hlen] at hph
          have hlB : t18.length + (sX (oS (oe os oi) i)).length < 2000 := by have q := (hB9.le ((hle9.tr hleA).tr hleF)).1; rw [hWn] at q; unfold w1 at q; dsimp only at q; rw [List.length_append, hzl] at q; have q2 := hlen; unfold w1 at q2; dsimp only at q2; rw [q2] at q; exact q
          have hiT := hoi
          have hsT := hin
          have hsrT := (hz38.2 _ (oe_mem hiT)).2.2.2.2 _ (oS_mem hsT)
          have hadT := t_Se_addSet l E Gv (k 2) (k 5) d18 1 (k 8) ro8 t18 hs18 a1 ls1 hN_a18 (oA (oe os oi)) (oS (oe os oi) i) hsrT (sU (oS (oe os oi) i)) hlB
          have hGo67 := hG
          refine zk_v (va_runV (As := [.ref a1, .ref (sA (oS (oe os oi) i)), .int (sU (oS (oe os oi) i))]) (rest := []) ⟨hx, hb, hml, hown, hts⟩ (hadT) (zcV 3 hts w_1033 w_1034 w_1035 w_29 w_1036 (by decide +kernel) ⟨Nat.le_of_ble_eq_true rfl, Nat.le_of_ble_eq_true rfl⟩) (zc_preV hbase hK hN hQ hG hS hs18.1.1 rfl) rfl rfl hl.1 rfl (lv_room (Nat.le_of_ble_eq_true rfl)) d_An_tell_67 ⟨(by dsimp only; omega), (by dsimp only; omega)⟩) hS (fun G67 H locs hp67 hG hS => ?_)
          obtain ⟨ro_67, dd_67, ts_67, hES_67, hf0_67, hR0_67⟩ := hp67
          have hE_67q : G67 (E.2.2.2 0) = none := hQ.out hG
          have hC_67 := hC8.s1 (hQ.out hGo67) hE_67q hf0_67 hES_67 (zdt_of hR0_67 (hdw _ (oe_mem hiT) _ (oS_mem hsT)))
          have hf_67 : zfr ro zKa G ro_67 G67 := hf8.tr (hf0_67.w zKs_a)
          have hR_67 := tV_of hR0_67
          have hW_67 : zWt (t18 ++ ts_67) t28 t38 = w1 (w1 (zWt t1 t2 t3) (((oX (oe os oi)).take i).flatMap (zfm ty ls1))) ((sX (oS (oe os oi) i)).map (fun d => (ls1, sT (oS (oe os oi) i), sU (oS (oe os oi) i), d.2.1))) := by rw [zWt_1, hR_67, hW8]; skip
          have hE_67 : G67 (E.2.2.2 0) = none := hQ.out hG
          obtain ⟨⟨hz1_67, hz2_67, hz3_67, hz4_67, hz5_67, soa_67, u9_67, hz6_67, hz7_67, hz8_67, hz9_67, hzA_67⟩, ⟨ha1_67, ha2_67, hs1_67, hs2_67, hs3_67⟩, hT1_67⟩ := id hC_67
          obtain ⟨bo_67, fo_67, hno1_67, hno2_67, hno3_67, hno4_67, hno5_67, -⟩ := id hz4_67
          have hN_a1_67 : zNR E G67 ro_67 a1 ls1 := hNm1.fr hf_67 zKa_0
          obtain ⟨b_a1_67, f_a1_67, hq1_a1_67, hq2_a1_67, hq3_a1_67, hq4_a1_67, hq5_a1_67, -⟩ := id hN_a1_67
          have hN_a2_67 : zNR E G67 ro_67 a2 ls2 := hNm2.fr hf_67 zKa_0
          obtain ⟨b_a2_67, f_a2_67, hq1_a2_67, hq2_a2_67, hq3_a2_67, hq4_a2_67, hq5_a2_67, -⟩ := id hN_a2_67
          have hl_67 := zWt_l (t18 ++ ts_67) t28 t38
          refine lv_iinc (v := nI (i + 1)) (lv' := [(4, .int (nI (i + 1))), (5, .ref (sA (oS (oe os oi) i))), (0, .ref (k 0)), (1, .ref a1), (2, .ref a2), (3, .ref (oA (oe os oi)))]) hx hb d_An_tell_70 hl (k := 5) rfl (nI_add i 1) (by decide) rfl (fun ls hl => ?_)
          refine lv_goto (tgt := 7) hx hb d_An_tell_73 (by decide) ?_
          refine zW_more (cells2 := zPc (w1 (zWt t1 t2 t3) (((oX (oe os oi)).take (i + 1)).flatMap (zfm ty ls1))) - zPc (zWt t1 t2 t3)) (slots2 := zPh os k (w1 (zWt t1 t2 t3) (((oX (oe os oi)).take (i + 1)).flatMap (zfm ty ls1))) - zPh os k (zWt t1 t2 t3)) (by first | (dsimp only; omega) | (rw [hWn, zfm_n c40 c52, w1_nil]; dsimp only; omega)) (by first | (dsimp only; omega) | (rw [hWn, zfm_n c40 c52, w1_nil]; dsimp only; omega)) ?_
          exact ih G67 (i + 1) ro_67 dd_67 d28 d38 (t18 ++ ts_67) t28 t38 _ _ (by omega) (by omega) (hC_67) (hf_67) (by rw [hWn]; exact hW_67) hG hS ls (lv_sub hl [2, 3, 4, 5, 0] rfl)
        · refine lv_aload_n hx hb d_An_tell_43 rfl (lv_at hl 1 rfl) ?_
          refine zg_get (ci := 1) (C := "ZoneAnswers$Answer") (T := T_An) (N := 6) hx hb hts zi_An hown hK hG ha18 rfl 4 (by decide) (hts _ w_688) (fun _ h9 => h9) rfl d_An_tell_44 ?_
          refine lv_aload hx hb d_An_tell_47 (lv_at hl 0 rfl) ?_
          refine zg_get (ci := 5) (C := "ZoneAnswers$Rrset") (T := T_Rr) (N := 3) hx hb hts zi_Rr hown hK hG (how8.2.2.2.2 _ (oS_mem hin)).1 rfl 0 (by decide) (hts _ w_619) (fun _ h9 => h9) rfl d_An_tell_49 ?_
          refine lv_icmp_ne (tgt := 70) hx hb d_An_tell_52 (by decide) (fun c52 => ?_) (fun c52 => ?_)
          · refine lv_iinc (v := nI (i + 1)) (lv' := [(4, .int (nI (i + 1))), (5, .ref (sA (oS (oe os oi) i))), (0, .ref (k 0)), (1, .ref a1), (2, .ref a2), (3, .ref (oA (oe os oi)))]) hx hb d_An_tell_70 hl (k := 5) rfl (nI_add i 1) (by decide) rfl (fun ls hl => ?_)
            refine lv_goto (tgt := 7) hx hb d_An_tell_73 (by decide) ?_
            refine zW_more (cells2 := zPc (w1 (zWt t1 t2 t3) (((oX (oe os oi)).take (i + 1)).flatMap (zfm ty ls1))) - zPc (zWt t1 t2 t3)) (slots2 := zPh os k (w1 (zWt t1 t2 t3) (((oX (oe os oi)).take (i + 1)).flatMap (zfm ty ls1))) - zPh os k (zWt t1 t2 t3)) (by first | (dsimp only; omega) | (rw [hWn, zfm_n c40 c52, w1_nil]; dsimp only; omega)) (by first | (dsimp only; omega) | (rw [hWn, zfm_n c40 c52, w1_nil]; dsimp only; omega)) ?_
            exact ih Gv (i + 1) ro8 d18 d28 d38 t18 t28 t38 _ _ (by omega) (by omega) (hC8) (hf8) (by rw [hWn, zfm_n c40 c52, w1_nil]; exact hW8) hG hS ls (lv_sub hl [2, 3, 4, 5, 0] rfl)
          · refine lv_aload_n hx hb d_An_tell_55 rfl (lv_at hl 1 rfl) ?_
            refine zg_get (ci := 1) (C := "ZoneAnswers$Answer") (T := T_An) (N := 6) hx hb hts zi_An hown hK hG ha18 rfl 1 (by decide) (hts _ w_685) (fun _ h9 => h9) rfl d_An_tell_56 ?_
            refine lv_aload_n hx hb d_An_tell_59 rfl (lv_at hl 2 rfl) ?_
            refine lv_aload hx hb d_An_tell_60 (lv_at hl 0 rfl) ?_
            refine lv_aload hx hb d_An_tell_62 (lv_at hl 0 rfl) ?_
            refine zg_get (ci := 5) (C := "ZoneAnswers$Rrset") (T := T_Rr) (N := 3) hx hb hts zi_Rr hown hK hG (how8.2.2.2.2 _ (oS_mem hin)).1 rfl 1 (by decide) (hts _ w_623) (fun _ h9 => h9) rfl d_An_tell_64 ?_
            have hzf := zfm_y (x := ls1) (s := oS (oe os oi) i) (Or.inr c52)
            rw [hzf] at hWn
            have hzl : ((sX (oS (oe os oi) i)).map (fun d => (ls1, sT (oS (oe os oi) i), sU (oS (oe os oi) i), d.2.1))).length = (sX (oS (oe os oi) i)).length := List.length_map _
            have hph := zPh_1 (os := os) (k := k) (W := w1 (zWt t1 t2 t3) (((oX (oe os oi)).take i).flatMap (zfm ty ls1))) hzl
            have hpc := zPc_1 (W := w1 (zWt t1 t2 t3) (((oX (oe os oi)).take i).flatMap (zfm ty ls1))) hzl
            rw [← hWn] at hph hpc
            have hlen : (w1 (zWt t1 t2 t3) (((oX (oe os oi)).take i).flatMap (zfm ty ls1))).1.length = t18.length := by rw [← hW8]; exact hl8.1
            rw [hlen] at hph
            have hlB : t18.length + (sX (oS (oe os oi) i)).length < 2000 := by have q := (hB9.le ((hle9.tr hleA).tr hleF)).1; rw [hWn] at q; unfold w1 at q; dsimp only at q; rw [List.length_append, hzl] at q; have q2 := hlen; unfold w1 at q2; dsimp only at q2; rw [q2] at q; exact q
            have hiT := hoi
            have hsT := hin
            have hsrT := (hz38.2 _ (oe_mem hiT)).2.2.2.2 _ (oS_mem hsT)
            have hadT := t_Se_addSet l E Gv (k 2) (k 5) d18 1 (k 8) ro8 t18 hs18 a1 ls1 hN_a18 (oA (oe os oi)) (oS (oe os oi) i) hsrT (sU (oS (oe os oi) i)) hlB
            have hGo67 := hG
            refine zk_v (va_runV (As := [.ref a1, .ref (sA (oS (oe os oi) i)), .int (sU (oS (oe os oi) i))]) (rest := []) ⟨hx, hb, hml, hown, hts⟩ (hadT) (zcV 3 hts w_1033 w_1034 w_1035 w_29 w_1036 (by decide +kernel) ⟨Nat.le_of_ble_eq_true rfl, Nat.le_of_ble_eq_true rfl⟩) (zc_preV hbase hK hN hQ hG hS hs18.1.1 rfl) rfl rfl hl.1 rfl (lv_room (Nat.le_of_ble_eq_true rfl)) d_An_tell_67 ⟨(by dsimp only; omega), (by dsimp only; omega)⟩) hS (fun G67 H locs hp67 hG hS => ?_)
            obtain ⟨ro_67, dd_67, ts_67, hES_67, hf0_67, hR0_67⟩ := hp67
            have hE_67q : G67 (E.2.2.2 0) = none := hQ.out hG
            have hC_67 := hC8.s1 (hQ.out hGo67) hE_67q hf0_67 hES_67 (zdt_of hR0_67 (hdw _ (oe_mem hiT) _ (oS_mem hsT)))
            have hf_67 : zfr ro zKa G ro_67 G67 := hf8.tr (hf0_67.w zKs_a)
            have hR_67 := tV_of hR0_67
            have hW_67 : zWt (t18 ++ ts_67) t28 t38 = w1 (w1 (zWt t1 t2 t3) (((oX (oe os oi)).take i).flatMap (zfm ty ls1))) ((sX (oS (oe os oi) i)).map (fun d => (ls1, sT (oS (oe os oi) i), sU (oS (oe os oi) i), d.2.1))) := by rw [zWt_1, hR_67, hW8]; skip
            have hE_67 : G67 (E.2.2.2 0) = none := hQ.out hG
            obtain ⟨⟨hz1_67, hz2_67, hz3_67, hz4_67, hz5_67, soa_67, u9_67, hz6_67, hz7_67, hz8_67, hz9_67, hzA_67⟩, ⟨ha1_67, ha2_67, hs1_67, hs2_67, hs3_67⟩, hT1_67⟩ := id hC_67
            obtain ⟨bo_67, fo_67, hno1_67, hno2_67, hno3_67, hno4_67, hno5_67, -⟩ := id hz4_67
            have hN_a1_67 : zNR E G67 ro_67 a1 ls1 := hNm1.fr hf_67 zKa_0
            obtain ⟨b_a1_67, f_a1_67, hq1_a1_67, hq2_a1_67, hq3_a1_67, hq4_a1_67, hq5_a1_67, -⟩ := id hN_a1_67
            have hN_a2_67 : zNR E G67 ro_67 a2 ls2 := hNm2.fr hf_67 zKa_0
            obtain ⟨b_a2_67, f_a2_67, hq1_a2_67, hq2_a2_67, hq3_a2_67, hq4_a2_67, hq5_a2_67, -⟩ := id hN_a2_67
            have hl_67 := zWt_l (t18 ++ ts_67) t28 t38
            refine lv_iinc (v := nI (i + 1)) (lv' := [(4, .int (nI (i + 1))), (5, .ref (sA (oS (oe os oi) i))), (0, .ref (k 0)), (1, .ref a1), (2, .ref a2), (3, .ref (oA (oe os oi)))]) hx hb d_An_tell_70 hl (k := 5) rfl (nI_add i 1) (by decide) rfl (fun ls hl => ?_)
            refine lv_goto (tgt := 7) hx hb d_An_tell_73 (by decide) ?_
            refine zW_more (cells2 := zPc (w1 (zWt t1 t2 t3) (((oX (oe os oi)).take (i + 1)).flatMap (zfm ty ls1))) - zPc (zWt t1 t2 t3)) (slots2 := zPh os k (w1 (zWt t1 t2 t3) (((oX (oe os oi)).take (i + 1)).flatMap (zfm ty ls1))) - zPh os k (zWt t1 t2 t3)) (by first | (dsimp only; omega) | (rw [hWn, zfm_n c40 c52, w1_nil]; dsimp only; omega)) (by first | (dsimp only; omega) | (rw [hWn, zfm_n c40 c52, w1_nil]; dsimp only; omega)) ?_
            exact ih G67 (i + 1) ro_67 dd_67 d28 d38 (t18 ++ ts_67) t28 t38 _ _ (by omega) (by omega) (hC_67) (hf_67) (by rw [hWn]; exact hW_67) hG hS ls (lv_sub hl [2, 3, 4, 5, 0] rfl)
  refine zW_more (cells2 := zPc (w1 (zWt t1 t2 t3) (((oX (oe os oi)).take 0).flatMap (zfm ty ls1))) - zPc (zWt t1 t2 t3)) (slots2 := zPh os k (w1 (zWt t1 t2 t3) (((oX (oe os oi)).take 0).flatMap (zfm ty ls1))) - zPh os k (zWt t1 t2 t3)) (by omega) (by omega) ?_
  exact loop7 _ G 0 ro d1 d2 d3 t1 t2 t3 _ _ (Nat.lt_succ_self _) (Nat.zero_le _) (hCx) (zfr.rf) ((w1_nil _).symm) hG hS ls (lv_sub hl [1, 2, 3, 4, 0] rfl)
abbrev rm_An_tell_n (c9 s9 : Nat) : Room := { frames := 12, cells := c9, slots := s9, locals := 420 }
set_option maxHeartbeats 4000000 in
set_option maxRecDepth 100000 in
/-- Answer.tell(name, found, null) -/
theorem t_An_tell_n (l : Launch) (E : zc_E) (G : zg_G) (k : Nat → Nat) (ro : zRo) (rc ty se : Int32) (os : List zOt) (top : np_N) (d1 d2 d3 : Nat) (t1 t2 t3 : List zTt) (hCx : zCx E G ro k rc ty se os top d1 d2 d3 t1 t2 t3) (hGZ : zGZ os top) (hdw : zdw os) (hzn : znr os < 2000) (a1 : Nat) (ls1 : np_N) (hNm1 : zNR E G ro a1 ls1) (a2 : Nat) (ls2 : np_N) (hNm2 : zNR E G ro a2 ls2) (hx1 : ¬ ls2 = ls1 → zl top ls1) (hnd : ¬ vD (zV os) ls2) (hfi2 : oM (oe os 0) = ls2 ∨ nk_d (zky (oM (oe os 0))) (zky ls2) < 0) (hB9 : zB9 (vtl (zV os) top (zscu se) (zWt t1 t2 t3) ls1 ls2 ty)) : zMv l E y_An_tell c_An_tell 6 (rm_An_tell_n (zPc (vtl (zV os) top (zscu se) (zWt t1 t2 t3) ls1 ls2 ty) - zPc (zWt t1 t2 t3)) (zPh os k (vtl (zV os) top (zscu se) (zWt t1 t2 t3) ls1 ls2 ty) - zPh os k (zWt t1 t2 t3))) [.ref (k 0), .ref a1, .ref a2, .null] G (fun (G2 : zg_G) => ∃ ro2 e1 e2 e3 u1 u2 u3, zCx E G2 ro2 k rc ty se os top e1 e2 e3 u1 u2 u3 ∧ zfr ro zKa G ro2 G2 ∧ zWt u1 u2 u3 = vtl (zV os) top (zscu se) (zWt t1 t2 t3) ls1 ls2 ty) := by
  refine zMv.of (by decide) (Nat.le_of_ble_eq_true rfl) ?_
  intro p e s m args below meth c Q hZ hG hret ls hl
  obtain ⟨hx, hb, hr, hts, hown, hlocks, hml, hnm, hbase, hK, hN, hQ⟩ := hZ
  have hl : lv_has ls 6 [(0, .ref (k 0)), (1, .ref a1), (2, .ref a2), (3, .null)] := hl
  have hS : zg_S (zc_b E) s.heap s.heap [] := va_S.rf
  obtain ⟨⟨hz1, hz2, hz3, hz4, hz5, soa, u9, hz6, hz7, hz8, hz9, hzA⟩, ⟨ha1, ha2, hs1, hs2, hs3⟩, hT1⟩ := id hCx
  obtain ⟨bo, fo, hno1, hno2, hno3, hno4, hno5, -⟩ := id hz4
  have hne : 0 < os.length := hGZ.2.2.1
  have hsz := hGZ.1.sz
  have hol : os.length ≤ 2000 := by have := hsz.1; omega
  have hso := hGZ.1.1
  have hE00 : G (E.2.2.2 0) = none := hQ.out hG
  have hl0 := zWt_l t1 t2 t3
  obtain ⟨b_a1, f_a1, hq1_a1, hq2_a1, hq3_a1, hq4_a1, hq5_a1, -⟩ := id hNm1
  obtain ⟨b_a2, f_a2, hq1_a2, hq2_a2, hq3_a2, hq4_a2, hq5_a2, -⟩ := id hNm2
  have hleA : zLe (vtl1 (zV os) (zWt t1 t2 t3) ls1 ls2 ty) (zif (¬ vD (zV os) ls2 ∨ (¬ ty = 255 ∧ zV os ls2 ty = [])) (vpr (zV os) top (zscu se) (vst (zV os) top (vtl1 (zV os) (zWt t1 t2 t3) ls1 ls2 ty)) (vat (zV os) top ls2)) (vtl1 (zV os) (zWt t1 t2 t3) ls1 ls2 ty)) := vtl_le2 (zV os) top (zscu se) _ _ _ _
  have hleF : zLe (zif (¬ vD (zV os) ls2 ∨ (¬ ty = 255 ∧ zV os ls2 ty = [])) (vpr (zV os) top (zscu se) (vst (zV os) top (vtl1 (zV os) (zWt t1 t2 t3) ls1 ls2 ty)) (vat (zV os) top ls2)) (vtl1 (zV os) (zWt t1 t2 t3) ls1 ls2 ty)) (vtl (zV os) top (zscu se) (zWt t1 t2 t3) ls1 ls2 ty) := vtl_le1 (zV os) top (zscu se) _ _ _ _
  have hle0 : zLe (zWt t1 t2 t3) (vtl1 (zV os) (zWt t1 t2 t3) ls1 ls2 ty) := zLe.w1 _ _
  have hpahleA := zPh_le (os := os) (k := k) hleA
  have hpdhleA := zPc_le hleA
  have hpahleF := zPh_le (os := os) (k := k) hleF
  have hpdhleF := zPc_le hleF
  have hpahle0 := zPh_le (os := os) (k := k) hle0
  have hpdhle0 := zPc_le hle0
  have hcy : (¬ vD (zV os) ls2 ∨ (¬ ty = 255 ∧ zV os ls2 ty = [])) := Or.inl hnd
  have hA1 : vtl1 (zV os) (zWt t1 t2 t3) ls1 ls2 ty = zWt t1 t2 t3 := vtl1_0 hnd
  have hWA : zWt t1 t2 t3 = vtl1 (zV os) (zWt t1 t2 t3) ls1 ls2 ty := hA1.symm
  refine lv_aload_nN hx hb d_An_tell_0 rfl (lv_at hl 3 rfl) ?_
  refine lv_ifnullN (tgt := 76) hx hb d_An_tell_1 (by decide) ?_
  refine lv_aload_nN hx hb d_An_tell_76 rfl (lv_at hl 3 rfl) ?_
  refine lv_ifnullN (tgt := 101) hx hb d_An_tell_77 (by decide) ?_
  refine lv_iconst (v := 1) hx hb d_An_tell_101 (by decide) ?_
  refine lv_goto (tgt := 106) hx hb d_An_tell_102 (by decide) ?_
  refine lv_istore (lv' := [(4, .int 1), (0, .ref (k 0)), (1, .ref a1), (2, .ref a2), (3, .null)]) hx hb d_An_tell_106 hl (by decide) rfl (fun ls hl => ?_)
  refine lv_iload hx hb d_An_tell_108 (lv_at hl 0 rfl) ?_
  refine lv_if_eq (tgt := 129) hx hb d_An_tell_110 (by decide) (fun c110 => ?_) (fun c110 => ?_)
  · have b110 : 1 = 0 := (nI_eq (a := 1) (b := 0) (by omega) (by omega)).mp c110
    exact absurd b110 (by decide)
  · have b110 : ¬ 1 = 0 := fun q => c110 ((nI_eq (a := 1) (b := 0) (by omega) (by omega)).mpr q)
    refine lv_aload_n hx hb d_An_tell_113 rfl (lv_at hl 1 rfl) ?_
    have hA2e : zif (¬ vD (zV os) ls2 ∨ (¬ ty = 255 ∧ zV os ls2 ty = [])) (vpr (zV os) top (zscu se) (vst (zV os) top (vtl1 (zV os) (zWt t1 t2 t3) ls1 ls2 ty)) (vat (zV os) top ls2)) (vtl1 (zV os) (zWt t1 t2 t3) ls1 ls2 ty) = vpr (zV os) top (zscu se) (vst (zV os) top (vtl1 (zV os) (zWt t1 t2 t3) ls1 ls2 ty)) (vat (zV os) top ls2) := zif_y hcy
    have hleS : zLe (vtl1 (zV os) (zWt t1 t2 t3) ls1 ls2 ty) (vst (zV os) top (vtl1 (zV os) (zWt t1 t2 t3) ls1 ls2 ty)) := vst_le (zV os) top _
    have hleS2 : zLe (vst (zV os) top (vtl1 (zV os) (zWt t1 t2 t3) ls1 ls2 ty)) (zif (¬ vD (zV os) ls2 ∨ (¬ ty = 255 ∧ zV os ls2 ty = [])) (vpr (zV os) top (zscu se) (vst (zV os) top (vtl1 (zV os) (zWt t1 t2 t3) ls1 ls2 ty)) (vat (zV os) top ls2)) (vtl1 (zV os) (zWt t1 t2 t3) ls1 ls2 ty)) := by rw [zif_y hcy]; exact vpr_le (zV os) top (zscu se) _ _
    have hpahleS := zPh_le (os := os) (k := k) hleS
    have hpdhleS := zPc_le hleS
    have hpahleS2 := zPh_le (os := os) (k := k) hleS2
    have hpdhleS2 := zPc_le hleS2
    have hq114 := t_An_addStart l E G k ro rc ty se os top d1 d2 d3 t1 t2 t3 hCx hGZ hdw hzn  (by rw [hWA]; exact hB9.le (hleS2.tr hleF))
    rw [hWA] at hq114
    have hGo114 := hG
    refine zk_v (va_runV (As := []) (rest := []) ⟨hx, hb, hml, hown, hts⟩ (hq114) (zcV 0 hts w_1161 w_1163 wp_22 w_28 w_1164 (by decide +kernel) ⟨Nat.le_of_ble_eq_true rfl, Nat.le_of_ble_eq_true rfl⟩) (zc_preV hbase hK hN hQ hG hS ha1 rfl) rfl rfl hl.1 rfl (lv_room (Nat.le_of_ble_eq_true rfl)) d_An_tell_114 ⟨(by dsimp only; omega), (by dsimp only; omega)⟩) hS (fun G114 H locs hp114 hG hS => ?_)
    obtain ⟨ro_114, d1_114, d2_114, d3_114, t1_114, t2_114, t3_114, hC_114, hf0_114, hW0_114⟩ := hp114
    have hf_114 : zfr ro zKa G ro_114 G114 := (zfr.rf (r := ro) (G := G)).tr hf0_114
    have hW_114 : zWt t1_114 t2_114 t3_114 = vst (zV os) top (vtl1 (zV os) (zWt t1 t2 t3) ls1 ls2 ty) := hW0_114
    have hE_114 : G114 (E.2.2.2 0) = none := hQ.out hG
    obtain ⟨⟨hz1_114, hz2_114, hz3_114, hz4_114, hz5_114, soa_114, u9_114, hz6_114, hz7_114, hz8_114, hz9_114, hzA_114⟩, ⟨ha1_114, ha2_114, hs1_114, hs2_114, hs3_114⟩, hT1_114⟩ := id hC_114
    obtain ⟨bo_114, fo_114, hno1_114, hno2_114, hno3_114, hno4_114, hno5_114, -⟩ := id hz4_114
    have hN_a1_114 : zNR E G114 ro_114 a1 ls1 := hNm1.fr hf_114 zKa_0
    obtain ⟨b_a1_114, f_a1_114, hq1_a1_114, hq2_a1_114, hq3_a1_114, hq4_a1_114, hq5_a1_114, -⟩ := id hN_a1_114
    have hN_a2_114 : zNR E G114 ro_114 a2 ls2 := hNm2.fr hf_114 zKa_0
    obtain ⟨b_a2_114, f_a2_114, hq1_a2_114, hq2_a2_114, hq3_a2_114, hq4_a2_114, hq5_a2_114, -⟩ := id hN_a2_114
    have hl_114 := zWt_l t1_114 t2_114 t3_114
    refine lv_aload_n hx hb d_An_tell_117 rfl (lv_at hl 1 rfl) ?_
    refine lv_aload_n hx hb d_An_tell_118 rfl (lv_at hl 1 rfl) ?_
    refine zg_get (ci := 1) (C := "ZoneAnswers$Answer") (T := T_An) (N := 6) hx hb hts zi_An hown hK hG ha1_114 rfl 0 (by decide) (hts _ w_684) (fun _ h9 => h9) rfl d_An_tell_119 ?_
    refine lv_aload_n hx hb d_An_tell_122 rfl (lv_at hl 3 rfl) ?_
    have hGo123 := hG
    refine zk_i (va_runV (As := [.ref a2]) (rest := [.ref (k 0)]) ⟨hx, hb, hml, hown, hts⟩ (t_Zo_linkAt l E G114 (k 1) (k 11) (k 12) (k 13) (k 14) rc hz1_114 ro_114 (k 15) os hz3_114 hne hol hso a2 b_a2_114 ls2 f_a2_114 hq1_a2_114 hq2_a2_114 hq3_a2_114 hq4_a2_114 hq5_a2_114 hfi2) (zcV 1 hts w_1068 w_1069 w_1070 w_3 w_1071 (by decide +kernel) ⟨Nat.le_of_ble_eq_true rfl, Nat.le_of_ble_eq_true rfl⟩) (zc_preV hbase hK hN hQ hG hS hz1_114 rfl) rfl rfl hl.1 rfl (lv_room (Nat.le_of_ble_eq_true rfl)) d_An_tell_123 ⟨(by dsimp only; omega), (by dsimp only; omega)⟩) hS (fun r123 G123 H locs hp123 hG hS => ?_)
    obtain ⟨⟨kp123, kp1123, kp2123, kp3123, hkc123⟩, eg123⟩ := hp123
    have hG : zP E G114 H := eg123 ▸ hG
    obtain ⟨j123, hjl123, hva123, ej123⟩ : ∃ j, j < os.length ∧ vat (zV os) top ls2 = oM (oe os j) ∧ r123 = nI j := by
      rcases hkc123 with ⟨q1, q2, j, q3, q4, q5, q6⟩ | ⟨q1, q2, j, q3, q4, q5, q6⟩
      · exact ⟨j, by omega, hGZ.at q1 q2 q3 q4 q5, q6⟩
      · refine ⟨j, by omega, ?_, q6⟩
        have hnd : ¬ vD (zV os) ls2 := fun z => by
          obtain ⟨i, hi, e⟩ := vD_ix z
          rcases Nat.lt_trichotomy i kp123 with w | w | w
          · have := kp2123 i w; rw [e, nk_d_self] at this; omega
          · exact q2 ⟨by omega, by rw [← w]; exact e⟩
          · have h9 := kp3123 kp123 (Nat.le_refl _) (by omega); have h8 := hGZ.1.1 kp123 i w hi; rw [e] at h8; exact h9 h8
        unfold vat; rw [zif_n (fun z => hnd z.1)]
        exact hGZ.ov ⟨kp1123, kp2123, kp3123⟩ (by omega) q4 (fun i h1 h2 => q5 i h1 (by omega))
    refine zi_as (y := nI j123) ej123 ?_
    have hq126 := t_An_prove l E G114 k ro_114 rc ty se os top d1_114 d2_114 d3_114 t1_114 t2_114 t3_114 hC_114 hGZ hdw hzn j123 hjl123 (by rw [hW_114]; exact by rw [← hva123, ← hA2e]; exact hB9.le hleF)
    rw [hW_114] at hq126
    rw [← hva123, ← hA2e] at hq126
    have hGo126 := hG
    refine zk_v (va_runV (As := [.int (nI j123)]) (rest := []) ⟨hx, hb, hml, hown, hts⟩ (hq126) (zcV 1 hts w_1077 w_1079 wp_17 w_28 w_1080 (by decide +kernel) ⟨Nat.le_of_ble_eq_true rfl, Nat.le_of_ble_eq_true rfl⟩) (zc_preV hbase hK hN hQ hG hS ha1_114 rfl) rfl rfl hl.1 rfl (lv_room (Nat.le_of_ble_eq_true rfl)) d_An_tell_126 ⟨(by dsimp only; omega), (by dsimp only; omega)⟩) hS (fun G126 H locs hp126 hG hS => ?_)
    obtain ⟨ro_126, d1_126, d2_126, d3_126, t1_126, t2_126, t3_126, hC_126, hf0_126, hW0_126⟩ := hp126
    have hf_126 : zfr ro zKa G ro_126 G126 := hf_114.tr hf0_126
    have hW_126 : zWt t1_126 t2_126 t3_126 = zif (¬ vD (zV os) ls2 ∨ (¬ ty = 255 ∧ zV os ls2 ty = [])) (vpr (zV os) top (zscu se) (vst (zV os) top (vtl1 (zV os) (zWt t1 t2 t3) ls1 ls2 ty)) (vat (zV os) top ls2)) (vtl1 (zV os) (zWt t1 t2 t3) ls1 ls2 ty) := hW0_126
    have hE_126 : G126 (E.2.2.2 0) = none := hQ.out hG
    obtain ⟨⟨hz1_126, hz2_126, hz3_126, hz4_126, hz5_126, soa_126, u9_126, hz6_126, hz7_126, hz8_126, hz9_126, hzA_126⟩, ⟨ha1_126, ha2_126, hs1_126, hs2_126, hs3_126⟩, hT1_126⟩ := id hC_126
    obtain ⟨bo_126, fo_126, hno1_126, hno2_126, hno3_126, hno4_126, hno5_126, -⟩ := id hz4_126
    have hN_a1_126 : zNR E G126 ro_126 a1 ls1 := hNm1.fr hf_126 zKa_0
    obtain ⟨b_a1_126, f_a1_126, hq1_a1_126, hq2_a1_126, hq3_a1_126, hq4_a1_126, hq5_a1_126, -⟩ := id hN_a1_126
    have hN_a2_126 : zNR E G126 ro_126 a2 ls2 := hNm2.fr hf_126 zKa_0
    obtain ⟨b_a2_126, f_a2_126, hq1_a2_126, hq2_a2_126, hq3_a2_126, hq4_a2_126, hq5_a2_126, -⟩ := id hN_a2_126
    have hl_126 := zWt_l t1_126 t2_126 t3_126
    refine lv_aload_n hx hb d_An_tell_129 rfl (lv_at hl 3 rfl) ?_
    refine lv_aload_n hx hb d_An_tell_130 rfl (lv_at hl 2 rfl) ?_
    refine zk_i (va_runV (As := [.ref a1]) (rest := []) ⟨hx, hb, hml, hown, hts⟩ (t_Na_isSame l E G126 a2 b_a2_126 ls2 f_a2_126 hq1_a2_126 hq2_a2_126 hq3_a2_126 hq4_a2_126 a1 b_a1_126 ls1 f_a1_126 hq1_a1_126 hq2_a1_126 hq3_a1_126 hq4_a1_126) (zcV 1 hts w_1027 w_194 w_195 w_7 w_196 (by decide +kernel) ⟨Nat.le_of_ble_eq_true rfl, Nat.le_of_ble_eq_true rfl⟩) (zc_preV hbase hK hN hQ hG hS hq1_a2_126 rfl) rfl rfl hl.1 rfl (lv_room (Nat.le_of_ble_eq_true rfl)) d_An_tell_131 ⟨(by dsimp only; omega), (by dsimp only; omega)⟩) hS (fun r131 G131 H locs hp131 hG hS => ?_)
    have hG : zP E G126 H := hp131.2 ▸ hG
    refine lv_if_ne (tgt := 149) hx hb d_An_tell_134 (by decide) (fun c134 => ?_) (fun c134 => ?_)
    · have hsm := hp131.1.nz c134
      exact hret _ _ _ _ _ _ _ (⟨ro_126, d1_126, d2_126, d3_126, t1_126, t2_126, t3_126, hC_126, hf_126, by rw [hW_126, ← vtl_x hsm]⟩) hG hS (by dsimp only; omega) (by dsimp only; omega) d_An_tell_149
    · have hns := hp131.1.z c134
      have hfi1 : nk_d (zky (oM (oe os 0))) (zky ls1) < 0 := by rw [hGZ.2.2.2.1]; exact hx1 hns
      refine lv_aload_n hx hb d_An_tell_137 rfl (lv_at hl 1 rfl) ?_
      refine lv_aload_n hx hb d_An_tell_138 rfl (lv_at hl 1 rfl) ?_
      refine zg_get (ci := 1) (C := "ZoneAnswers$Answer") (T := T_An) (N := 6) hx hb hts zi_An hown hK hG ha1_126 rfl 0 (by decide) (hts _ w_684) (fun _ h9 => h9) rfl d_An_tell_139 ?_
      refine lv_aload_n hx hb d_An_tell_142 rfl (lv_at hl 2 rfl) ?_
      have hGo143 := hG
      refine zk_i (va_runV (As := [.ref a1]) (rest := [.ref (k 0)]) ⟨hx, hb, hml, hown, hts⟩ (t_Zo_linkOver l E G126 (k 1) (k 11) (k 12) (k 13) (k 14) rc hz1_126 ro_126 (k 15) os hz3_126 hne hol hso a1 b_a1_126 ls1 f_a1_126 hq1_a1_126 hq2_a1_126 hq3_a1_126 hq4_a1_126 hq5_a1_126 hfi1) (zcV 1 hts w_1169 w_1170 w_1171 w_3 w_1172 (by decide +kernel) ⟨Nat.le_of_ble_eq_true rfl, Nat.le_of_ble_eq_true rfl⟩) (zc_preV hbase hK hN hQ hG hS hz1_126 rfl) rfl rfl hl.1 rfl (lv_room (Nat.le_of_ble_eq_true rfl)) d_An_tell_143 ⟨(by dsimp only; omega), (by dsimp only; omega)⟩) hS (fun r143 G143 H locs hp143 hG hS => ?_)
      obtain ⟨⟨kp143, kp0143, kp1143, kp2143, kp3143, j143, hj1143, hj2143, hj3143, ej143⟩, eg143⟩ := hp143
      have hG : zP E G126 H := eg143 ▸ hG
      have hov143 : vov (zV os) top ls1 = oM (oe os j143) := hGZ.ov ⟨kp1143, kp2143, kp3143⟩ (by omega) hj2143 (fun i h1 h2 => hj3143 i h1 (by omega))
      have hjl143 : j143 < os.length := by omega
      refine zi_as (y := nI j143) ej143 ?_
      have hq146 := t_An_prove l E G126 k ro_126 rc ty se os top d1_126 d2_126 d3_126 t1_126 t2_126 t3_126 hC_126 hGZ hdw hzn j143 hjl143 (by rw [hW_126]; exact by rw [← hov143, ← vtl_y hns]; exact hB9)
      rw [hW_126] at hq146
      rw [← hov143, ← vtl_y hns] at hq146
      have hGo146 := hG
      refine zk_v (va_runV (As := [.int (nI j143)]) (rest := []) ⟨hx, hb, hml, hown, hts⟩ (hq146) (zcV 1 hts w_1077 w_1079 wp_17 w_28 w_1080 (by decide +kernel) ⟨Nat.le_of_ble_eq_true rfl, Nat.le_of_ble_eq_true rfl⟩) (zc_preV hbase hK hN hQ hG hS ha1_126 rfl) rfl rfl hl.1 rfl (lv_room (Nat.le_of_ble_eq_true rfl)) d_An_tell_146 ⟨(by dsimp only; omega), (by dsimp only; omega)⟩) hS (fun G146 H locs hp146 hG hS => ?_)
      obtain ⟨ro_146, d1_146, d2_146, d3_146, t1_146, t2_146, t3_146, hC_146, hf0_146, hW0_146⟩ := hp146
      have hf_146 : zfr ro zKa G ro_146 G146 := hf_126.tr hf0_146
      have hW_146 : zWt t1_146 t2_146 t3_146 = vtl (zV os) top (zscu se) (zWt t1 t2 t3) ls1 ls2 ty := hW0_146
      have hE_146 : G146 (E.2.2.2 0) = none := hQ.out hG
      obtain ⟨⟨hz1_146, hz2_146, hz3_146, hz4_146, hz5_146, soa_146, u9_146, hz6_146, hz7_146, hz8_146, hz9_146, hzA_146⟩, ⟨ha1_146, ha2_146, hs1_146, hs2_146, hs3_146⟩, hT1_146⟩ := id hC_146
      obtain ⟨bo_146, fo_146, hno1_146, hno2_146, hno3_146, hno4_146, hno5_146, -⟩ := id hz4_146
      have hN_a1_146 : zNR E G146 ro_146 a1 ls1 := hNm1.fr hf_146 zKa_0
      obtain ⟨b_a1_146, f_a1_146, hq1_a1_146, hq2_a1_146, hq3_a1_146, hq4_a1_146, hq5_a1_146, -⟩ := id hN_a1_146
      have hN_a2_146 : zNR E G146 ro_146 a2 ls2 := hNm2.fr hf_146 zKa_0
      obtain ⟨b_a2_146, f_a2_146, hq1_a2_146, hq2_a2_146, hq3_a2_146, hq4_a2_146, hq5_a2_146, -⟩ := id hN_a2_146
      have hl_146 := zWt_l t1_146 t2_146 t3_146
      exact hret _ _ _ _ _ _ _ (⟨ro_146, d1_146, d2_146, d3_146, t1_146, t2_146, t3_146, hC_146, hf_146, hW_146⟩) hG hS (by dsimp only; omega) (by dsimp only; omega) d_An_tell_149
