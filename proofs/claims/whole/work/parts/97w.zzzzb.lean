/-! THE REFERENCE'S RECORDS CHANGE -/
theorem rCx.chg {E : zc_E} {G : zg_G} {ro : zRo} {h : Nat → Nat} {lo : np_N} {rs : List zRt} {W : zW} {px : List Int32} {th co se : Int32} {tp : List Int32} {v19 v20 : Value} {G2 : zg_G} {r2 : zRo} {rs2 : List zRt} {th2 co2 se2 : Int32} {w19 w20 : Value} (hc : rCx E G ro h lo rs W px False (0, 0, [], []) th tp co se v19 v20) (hf : zfr ro (fun r => r = (20, 0) ∨ r = (20, 4) ∨ r = (21, 0)) G r2 G2) (he : G2 (h 0) = some (.inr (11, [.int th2, .ref (h 1), .int (nI tp.length), .ref (h 3), .ref (h 4), .int (nI rs2.length), .ref (h 6), .ref (h 7), .ref (h 8), .ref (h 9), .ref (h 10), .ref (h 11), .ref (h 12), .int (nI (wln W)), .int co2, .ref (h 15), .int (nI (rPw W + px.length)), .int se2, .ref (h 18), w19, w20]))) (hr0 : r2 (h 0) = (20, 0)) (hr : rRs E G2 r2 (h 4) rs2) (hg : rGd lo rs2) : rCx E G2 r2 h lo rs2 W px False (0, 0, [], []) th2 tp co2 se2 w19 w20 := by
  obtain ⟨a1, a2, ⟨fm, a3, a4, a5, a6⟩, a7, a8, a9, b1, ws, an, pl, ff, fp, p1, p2, p3, p4, p5, p6, p7, p8, ⟨x1, x2⟩, ⟨y1, y2, y3⟩, p11, p12, p13, p14, p15⟩ := hc
  have q2 := hf _ _ a3 (by rw [a6]; simp)
  have q3 := hf _ _ x1 (by rw [x2.2.2.2.2]; simp)
  have q4 := hf _ _ y1 (by rw [y3]; simp)
  exact ⟨he, hr0, ⟨fm, q2.1, a4, a5, q2.2.trans a6⟩, a7, a8.fr hf (by simp), hr, hg, ws, an, pl, ff, fp, p1, p2, p3, p4, p5, p6.fr hf (by simp) (fun i h6 h12 => by simp; omega), p7, fun i hi => (p8 i hi).fr hf (by simp), ⟨q3.1, x2.1, x2.2.1, x2.2.2.1, x2.2.2.2.1, q3.2.trans x2.2.2.2.2⟩, ⟨q4.1, y2, q4.2.trans y3⟩, fun z => z.elim, Nat.zero_le _, fun i hi => absurd hi (Nat.not_lt_zero i), fun z => z.elim, List.nil_prefix⟩
theorem zdr_sl {α : Type} (xs : List α) (i : Nat) : (zdr xs i).Sublist xs := by
  have e : xs = xs.take i ++ xs.drop i := (List.take_append_drop i xs).symm
  unfold zdr
  conv => rhs; rw [e]
  refine (List.Sublist.refl _).append ?_
  rw [show xs.drop (i + 1) = (xs.drop i).drop 1 by rw [List.drop_drop]]
  exact List.drop_sublist 1 _
theorem zdr_ln {α : Type} {xs : List α} {i : Nat} (h : i < xs.length) : (zdr xs i).length = xs.length - 1 := by
  unfold zdr
  rw [List.length_append, List.length_take, List.length_drop]; omega
theorem re_dr {rs : List zRt} {k i : Nat} (hk : k < rs.length) : re (zdr rs k) i = re rs (if i < k then i else i + 1) := by
  unfold re zdr
  by_cases z : i < k
  · rw [if_pos z, List.getD_eq_getElem?_getD, List.getD_eq_getElem?_getD, List.getElem?_append_left (by rw [List.length_take]; omega), List.getElem?_take_of_lt z]
  · rw [if_neg z, List.getD_eq_getElem?_getD, List.getD_eq_getElem?_getD, List.getElem?_append_right (by rw [List.length_take]; omega), List.getElem?_drop, List.length_take, show k + 1 + (i - min k rs.length) = i + 1 by omega]
theorem rGd.del {lo : np_N} {rs : List zRt} {k : Nat} (hg : rGd lo rs) (hk : k < rs.length) (h0 : 0 < k) : rGd lo (zdr rs k) := by
  obtain ⟨g1, g2, g3, g4, g5, g6, g7⟩ := hg
  have e0 : re (zdr rs k) 0 = re rs 0 := by rw [re_dr hk, if_pos h0]
  have hl := zdr_ln hk
  refine ⟨by omega, by rw [e0]; exact g2, by rw [e0]; exact g3, by rw [e0]; exact g4, by rw [e0]; exact g5, fun i hi hi2 => ?_, fun e he => g7 e ((zdr_sl rs k).subset he)⟩
  rw [re_dr hk]
  by_cases z : i < k
  · rw [if_pos z]; exact g6 i hi (by omega)
  · rw [if_neg z]; exact g6 (i + 1) (by omega) (by omega)
theorem rRs.del {E : zc_E} {G G2 : zg_G} {ro : zRo} {m4 k : Nat} {rs : List zRt} {f2 : Nat → Option Nat} (h : rRs E G ro m4 rs) (hk : k < rs.length) (hf : zfr ro (fun r => r = (20, 0) ∨ r = (20, 4)) G ro G2) (h4 : G2 m4 = some (.inl (E.2.1 4, 2000, .inr (.inr (.inr (.inr f2)))))) (hf2 : ∀ i, i < rs.length - 1 → f2 i = some (rA (re rs (if i < k then i else i + 1)))) : rRs E G2 ro m4 (zdr rs k) := by
  obtain ⟨⟨⟨f, a1, a2⟩, a3, a4⟩, b1, b2, b3, b4⟩ := h
  have hl := zdr_ln hk
  refine ⟨⟨⟨f2, h4, fun i hi => by rw [re_dr hk]; exact hf2 i (by omega)⟩, by omega, fun e he => ?_⟩, b1, b2.sublist ((zdr_sl rs k).map rA), b3.sublist ((zdr_sl rs k).map rD), fun e he => ?_⟩
  · have he := (zdr_sl rs k).subset he
    obtain ⟨c1, c2, c3, -⟩ := b4 e he
    exact (rRR_fr (a4 e he) c1 c2 c3 hf (by simp) (by simp)).1
  · have he := (zdr_sl rs k).subset he
    obtain ⟨c1, c2, c3, c4⟩ := b4 e he
    refine ⟨c1, c2, c3, ?_⟩
    rcases c4 with c4 | ⟨z, e1, e2, e3, e4⟩
    · exact Or.inl c4
    · exact Or.inr ⟨z, e1, (e2.fr e3 hf (by simp)).1, e3, e4⟩
theorem rdl_s {rs : List zRt} {f2 : Nat → Option Nat} {kd i : Nat} (hq : ∀ j, j < rs.length → f2 j = some (rA (re rs (if kd ≤ j ∧ j < i then j + 1 else j)))) (hk : kd ≤ i) (_ : i < rs.length) (j : Nat) (hj : j < rs.length) : va_up f2 i (some (rA (re rs (i + 1)))) j = some (rA (re rs (if kd ≤ j ∧ j < i + 1 then j + 1 else j))) := by
  by_cases z : j = i
  · rw [z, vup_s, if_pos (by omega)]
  · rw [vup_o z, hq j hj]
    by_cases w : kd ≤ j ∧ j < i
    · rw [if_pos w, if_pos (by omega)]
    · rw [if_neg w, if_neg (by omega)]
theorem rSt.del {E : zc_E} {G : zg_G} {ro : zRo} {h : Nat → Nat} {lo : np_N} {rs : List zRt} {W : zW} {px : List Int32} {th co se : Int32} {tp : List Int32} {v19 v20 : Value} {G2 : zg_G} {a c1 c2 kd : Nat} {f2 : Nat → Option Nat} (hc : rCx E G ro h lo rs W px False (0, 0, [], []) th tp co se v19 v20) (e0 : h 0 = a) (e1 : h 40 = c1) (e2 : h 41 = c2) (hk : kd < rs.length) (hk0 : 0 < kd) (hx : zx (fun q => q = a ∨ q = h 4) G G2) (he : G2 a = some (.inr (11, [.int th, .ref (h 1), .int (nI tp.length), .ref (h 3), .ref (h 4), .int (nI (zdr rs kd).length), .ref (h 6), .ref (h 7), .ref (h 8), .ref (h 9), .ref (h 10), .ref (h 11), .ref (h 12), .int (nI (wln W)), .int co, .ref (h 15), .int (nI (rPw W + px.length)), .int se, .ref (h 18), v19, v20]))) (h4 : G2 (h 4) = some (.inl (E.2.1 4, 2000, .inr (.inr (.inr (.inr f2)))))) (hf2 : ∀ i, i < rs.length - 1 → f2 i = some (rA (re rs (if i < kd then i else i + 1)))) : rSt E G2 ro a c1 c2 lo (zdr rs kd) W px False (0, 0, [], []) th tp co se v19 v20 ∧ zfr ro zKr G ro G2 := by
  have r0 := hc.2.1
  have r4 : ro (h 4) = (20, 4) := hc.2.2.2.2.2.1.2.1
  rw [← e0] at hx he
  have hf : zfr ro (fun r => r = (20, 0) ∨ r = (20, 4)) G ro G2 := fun q e hq hn => ⟨hx q e (fun z => hn (z.elim (fun z => Or.inl (by rw [z]; exact r0)) (fun z => Or.inr (by rw [z]; exact r4)))) hq, rfl⟩
  exact ⟨⟨h, e0, e1, e2, hc.chg (hf.w (fun r z => z.elim Or.inl (fun z => Or.inr (Or.inl z)))) he r0 (hc.2.2.2.2.2.1.del hk hf h4 hf2) (hc.2.2.2.2.2.2.1.del hk hk0)⟩, hf.w (fun r z => by rcases z with z | z <;> (rw [z]; exact Or.inl rfl))⟩
abbrev c_Mo_removed : ByteArray := prog_12_method_43_code
abbrev y_Mo_removed : MethodName := ⟨"ZoneAnswersModel", "removed", "(I)V"⟩
theorem d_Mo_removed_0 : decode c_Mo_removed 0 = .ok (.iload_n 1, 1) := by decide +kernel
theorem d_Mo_removed_1 : decode c_Mo_removed 1 = .ok (.istore_n 2, 1) := by decide +kernel
theorem d_Mo_removed_2 : decode c_Mo_removed 2 = .ok (.iload_n 2, 1) := by decide +kernel
theorem d_Mo_removed_3 : decode c_Mo_removed 3 = .ok (.iconst 1, 1) := by decide +kernel
theorem d_Mo_removed_4 : decode c_Mo_removed 4 = .ok (.iadd, 1) := by decide +kernel
theorem d_Mo_removed_5 : decode c_Mo_removed 5 = .ok (.aload_n 0, 1) := by decide +kernel
theorem d_Mo_removed_6 : decode c_Mo_removed 6 = .ok (.getfield 61, 3) := by decide +kernel
theorem d_Mo_removed_9 : decode c_Mo_removed 9 = .ok (.if_icmp .ge 23, 3) := by decide +kernel
theorem d_Mo_removed_12 : decode c_Mo_removed 12 = .ok (.aload_n 0, 1) := by decide +kernel
theorem d_Mo_removed_13 : decode c_Mo_removed 13 = .ok (.getfield 19, 3) := by decide +kernel
theorem d_Mo_removed_16 : decode c_Mo_removed 16 = .ok (.iload_n 2, 1) := by decide +kernel
theorem d_Mo_removed_17 : decode c_Mo_removed 17 = .ok (.aload_n 0, 1) := by decide +kernel
theorem d_Mo_removed_18 : decode c_Mo_removed 18 = .ok (.getfield 19, 3) := by decide +kernel
theorem d_Mo_removed_21 : decode c_Mo_removed 21 = .ok (.iload_n 2, 1) := by decide +kernel
theorem d_Mo_removed_22 : decode c_Mo_removed 22 = .ok (.iconst 1, 1) := by decide +kernel
theorem d_Mo_removed_23 : decode c_Mo_removed 23 = .ok (.iadd, 1) := by decide +kernel
theorem d_Mo_removed_24 : decode c_Mo_removed 24 = .ok (.aaload, 1) := by decide +kernel
theorem d_Mo_removed_25 : decode c_Mo_removed 25 = .ok (.aastore, 1) := by decide +kernel
theorem d_Mo_removed_26 : decode c_Mo_removed 26 = .ok (.iinc 2 1, 3) := by decide +kernel
theorem d_Mo_removed_29 : decode c_Mo_removed 29 = .ok (.goto (-27), 3) := by decide +kernel
theorem d_Mo_removed_32 : decode c_Mo_removed 32 = .ok (.aload_n 0, 1) := by decide +kernel
theorem d_Mo_removed_33 : decode c_Mo_removed 33 = .ok (.dup, 1) := by decide +kernel
theorem d_Mo_removed_34 : decode c_Mo_removed 34 = .ok (.getfield 61, 3) := by decide +kernel
theorem d_Mo_removed_37 : decode c_Mo_removed 37 = .ok (.iconst 1, 1) := by decide +kernel
theorem d_Mo_removed_38 : decode c_Mo_removed 38 = .ok (.isub, 1) := by decide +kernel
theorem d_Mo_removed_39 : decode c_Mo_removed 39 = .ok (.putfield 61, 3) := by decide +kernel
theorem d_Mo_removed_42 : decode c_Mo_removed 42 = .ok (.return_, 1) := by decide +kernel
abbrev rm_Mo_removed : Room := { frames := 1, cells := 0, slots := 0, locals := 30 }
set_option maxHeartbeats 4000000 in
set_option maxRecDepth 100000 in
/-- removed(k), of the reference -/
theorem t_Mo_removed (l : Launch) (E : zc_E) (G : zg_G) (a c1 c2 : Nat) (ro : zRo) (lo : np_N) (rs : List zRt) (Wz : zW) (th co se : Int32) (hse : se = 0 ∨ se = 1) (tp : List Int32) (v19 v20 : Value) (hst : rSt E G ro a c1 c2 lo rs Wz [] False (0, 0, [], []) th tp co se v19 v20) (kd : Nat) (hkd : kd < rs.length) (hk0 : 0 < kd) : zMv l E y_Mo_removed c_Mo_removed 3 rm_Mo_removed [.ref a, .int (nI kd)] G (fun (G2 : zg_G) => rSt E G2 ro a c1 c2 lo (zdr rs kd) Wz [] False (0, 0, [], []) th tp co se v19 v20 ∧ zfr ro zKr G ro G2) := by
  refine zMv.of (by decide) (Nat.le_of_ble_eq_true rfl) ?_
  intro p e s m args below meth c Q hZ hG hret ls hl
  obtain ⟨hx, hb, hr, hts, hown, hlocks, hml, hnm, hbase, hK, hN, hQ⟩ := hZ
  have hl : lv_has ls 3 [(0, .ref a), (1, .int (nI kd))] := hl
  have hS : zg_S (zc_b E) s.heap s.heap [] := va_S.rf
  obtain ⟨h, eh0, eh1, eh2, hc⟩ := id hst
  obtain ⟨ra, rb, ⟨fm, rt1, rt2, rt3, rt4⟩, rtl, ⟨fo, rn1, rn2, rn3, rn4, rn5⟩, rr, rg, ras⟩ := id hc
  rw [eh0] at ra
  obtain ⟨⟨fr, rm4, hfr⟩, hn2, hRs⟩ := id rr.1
  have hx0 : zx (fun q => q = a ∨ q = h 4) G G := zx.rf
  refine lv_iload_n hx hb d_Mo_removed_0 rfl (lv_at hl 1 rfl) ?_
  refine lv_istore_n (lv' := [(2, .int (nI kd)), (0, .ref a), (1, .int (nI kd))]) hx hb d_Mo_removed_1 rfl hl (by decide) rfl (fun ls hl => ?_)
  have loop2 : ∀ (N : Nat) (Gx : zg_G) (i : Nat) (f2 : Nat → Option Nat) (H : Heap) (locs : List Loc), (rs.length - i) < N → (kd ≤ i) → (i < rs.length) → (∀ j, j < rs.length → f2 j = some (rA (re rs (if kd ≤ j ∧ j < i then j + 1 else j)))) → (Gx a = some (.inr (11, [.int th, .ref (h 1), .int (nI tp.length), .ref (h 3), .ref (h 4), .int (nI rs.length), .ref (h 6), .ref (h 7), .ref (h 8), .ref (h 9), .ref (h 10), .ref (h 11), .ref (h 12), .int (nI (wln Wz)), .int co, .ref (h 15), .int (nI (rPw Wz + ([] : List Int32).length)), .int se, .ref (h 18), v19, v20]))) → (Gx (h 4) = some (.inl (E.2.1 4, 2000, .inr (.inr (.inr (.inr f2)))))) → (zx (fun q => q = a ∨ q = h 4) G Gx) → zP E Gx H → zg_S (zc_b E) s.heap H locs → ∀ (ls : Array Slot), lv_has ls 3 [(0, .ref a), (2, .int (nI i))] → W p l e rm_Mo_removed s m args below meth c H locs 0 0 Q (F0 m 2 ls []) := by
    intro N
    induction N with
    | zero =>
      intro Gx i f2 H locs hlt
      exact absurd hlt (Nat.not_lt_zero _)
    | succ N ih =>
      intro Gx i f2 H locs hlt hki hin hq kk_a kk_h_4 hxl hG hS ls hl
      refine lv_iload_n hx hb d_Mo_removed_2 rfl (lv_at hl 1 rfl) ?_
      refine lv_iconst (v := 1) hx hb d_Mo_removed_3 (by decide) ?_
      refine lv_iadd hx hb d_Mo_removed_4 ?_
      refine zi_as (y := nI (i + 1)) (nI_add i 1) ?_
      refine lv_aload_n hx hb d_Mo_removed_5 rfl (lv_at hl 0 rfl) ?_
      refine zg_get (ci := 11) (C := "ZoneAnswersModel") (T := T_Mo) (N := 21) hx hb hts zi_Mo hown hK hG kk_a rfl 5 (by decide) (hts _ w_1286) (fun _ h9 => h9) rfl d_Mo_removed_6 ?_
      refine lv_icmp_ge (tgt := 32) hx hb d_Mo_removed_9 (by decide) (fun c9 => ?_) (fun c9 => ?_)
      · have b9 : rs.length ≤ (i + 1) := (nI_leI (a := rs.length) (b := (i + 1)) (by omega) (by omega)).mp c9
        have hiE : i = rs.length - 1 := by omega
        refine lv_aload_n hx hb d_Mo_removed_32 rfl (lv_at hl 0 rfl) ?_
        refine lv_dup hx hb d_Mo_removed_33 rfl ?_
        refine zg_get (ci := 11) (C := "ZoneAnswersModel") (T := T_Mo) (N := 21) hx hb hts zi_Mo hown hK hG kk_a rfl 5 (by decide) (hts _ w_1286) (fun _ h9 => h9) rfl d_Mo_removed_34 ?_
        refine lv_iconst (v := 1) hx hb d_Mo_removed_37 (by decide) ?_
        refine lv_isub hx hb d_Mo_removed_38 ?_
        refine zi_as (y := nI (rs.length - 1)) (zi_sub (a := rs.length) (b := 1) (by omega)) ?_
        refine zg_put (ci := 11) (v := .int (nI (rs.length - 1))) (ty := .int) (C := "ZoneAnswersModel") (T := T_Mo) (N := 21) hx hb hts zi_Mo t_Mo t_Mo_ok n_Mo hown hK hG hS kk_a rfl 5 (by decide) (hts _ w_1286) (fun _ h9 => h9) rfl (by decide +kernel) rfl rfl (Nat.le_of_ble_eq_true rfl) d_Mo_removed_39 (fun H locs hG hS => ?_)
        obtain ⟨G1, eG1⟩ : ∃ z : zg_G, z = zg_up Gx a (.inr (11, [.int th, .ref (h 1), .int (nI tp.length), .ref (h 3), .ref (h 4), .int (nI (rs.length - 1)), .ref (h 6), .ref (h 7), .ref (h 8), .ref (h 9), .ref (h 10), .ref (h 11), .ref (h 12), .int (nI (wln Wz)), .int co, .ref (h 15), .int (nI (rPw Wz + ([] : List Int32).length)), .int se, .ref (h 18), v19, v20])) := ⟨_, rfl⟩
        have hG : zP E G1 H := by rw [eG1]; exact hG
        have hx2 : zx (fun q => q = a ∨ q = h 4) G G1 := hxl.tr (by rw [eG1]; exact zx.up (Or.inl rfl))
        have k3 : G1 a = some (.inr (11, [.int th, .ref (h 1), .int (nI tp.length), .ref (h 3), .ref (h 4), .int (nI (rs.length - 1)), .ref (h 6), .ref (h 7), .ref (h 8), .ref (h 9), .ref (h 10), .ref (h 11), .ref (h 12), .int (nI (wln Wz)), .int co, .ref (h 15), .int (nI (rPw Wz + ([] : List Int32).length)), .int se, .ref (h 18), v19, v20])) := by rw [eG1]; exact zg_up_self _ _ _
        have k4 : G1 (h 4) = some (.inl (E.2.1 4, 2000, .inr (.inr (.inr (.inr f2))))) := by rw [eG1, zg_up_ne (zg_ne kk_h_4 kk_a (by intro h; simp at h))]; exact kk_h_4
        exact hret _ _ _ _ _ _ _ (rSt.del hc eh0 eh1 eh2 hkd hk0 hx2 (by rw [zdr_ln hkd]; exact k3) k4 (fun j hj => by rw [hq j (by omega)]; rw [show (if kd ≤ j ∧ j < i then j + 1 else j) = (if j < kd then j else j + 1) by split <;> split <;> omega])) hG hS (Nat.le_refl _) (Nat.le_refl _) d_Mo_removed_42
      · have b9 : ¬ rs.length ≤ (i + 1) := fun q => c9 ((nI_leI (a := rs.length) (b := (i + 1)) (by omega) (by omega)).mpr q)
        have hi1 : i + 1 < rs.length := by omega
        have hcq := (hRs _ (re_mem hi1)).1
        have hrq := hxl _ _ (fun z => z.elim (fun z => by rw [z, ra] at hcq; cases hcq) (fun z => by rw [z, rm4] at hcq; cases hcq)) hcq
        refine lv_aload_n hx hb d_Mo_removed_12 rfl (lv_at hl 0 rfl) ?_
        refine zg_get (ci := 11) (C := "ZoneAnswersModel") (T := T_Mo) (N := 21) hx hb hts zi_Mo hown hK hG kk_a rfl 4 (by decide) (hts _ w_1285) (fun _ h9 => h9) rfl d_Mo_removed_13 ?_
        refine lv_iload_n hx hb d_Mo_removed_16 rfl (lv_at hl 1 rfl) ?_
        refine lv_aload_n hx hb d_Mo_removed_17 rfl (lv_at hl 0 rfl) ?_
        refine zg_get (ci := 11) (C := "ZoneAnswersModel") (T := T_Mo) (N := 21) hx hb hts zi_Mo hown hK hG kk_a rfl 4 (by decide) (hts _ w_1285) (fun _ h9 => h9) rfl d_Mo_removed_18 ?_
        refine lv_iload_n hx hb d_Mo_removed_21 rfl (lv_at hl 1 rfl) ?_
        refine lv_iconst (v := 1) hx hb d_Mo_removed_22 (by decide) ?_
        refine lv_iadd hx hb d_Mo_removed_23 ?_
        refine zi_as (y := nI (i + 1)) (nI_add i 1) ?_
        refine zg_aldq hx hb hK hG 4 kk_h_4 rfl (vp_in_nI (by omega) (by omega)) d_Mo_removed_24 ?_
        refine zr_as (y := f2 (i + 1)) (by rw [zi_n _ (by omega)]) ?_
        refine zr_some (a := rA (re rs (i + 1))) (by rw [hq _ hi1, if_neg (by omega)]) ?_
        refine zg_astq (r := ("ZoneAnswersModel$Rec", T_Re, 5)) hx hb hK hG hS 4 12 kk_h_4 rfl hrq rfl (vp_in_nI (by omega) (by omega)) d_Mo_removed_25 (fun H locs hG hS => ?_)
        rw [zi_n i (by omega)] at hG
        obtain ⟨G5, eG5⟩ : ∃ z : zg_G, z = zg_up Gx (h 4) (.inl (E.2.1 4, 2000, .inr (.inr (.inr (.inr (va_up f2 i (some (rA (re rs (i + 1)))))))))) := ⟨_, rfl⟩
        have hG : zP E G5 H := by rw [eG5]; exact hG
        have hx6 : zx (fun q => q = a ∨ q = h 4) G G5 := hxl.tr (by rw [eG5]; exact zx.up (Or.inr rfl))
        have k7 : G5 a = some (.inr (11, [.int th, .ref (h 1), .int (nI tp.length), .ref (h 3), .ref (h 4), .int (nI rs.length), .ref (h 6), .ref (h 7), .ref (h 8), .ref (h 9), .ref (h 10), .ref (h 11), .ref (h 12), .int (nI (wln Wz)), .int co, .ref (h 15), .int (nI (rPw Wz + ([] : List Int32).length)), .int se, .ref (h 18), v19, v20])) := by rw [eG5, zg_up_ne (zg_ne kk_a kk_h_4 (by intro h; simp at h))]; exact kk_a
        have k8 : G5 (h 4) = some (.inl (E.2.1 4, 2000, .inr (.inr (.inr (.inr (va_up f2 i (some (rA (re rs (i + 1)))))))))) := by rw [eG5]; exact zg_up_self _ _ _
        have k9 : G5 (rA (re rs (i + 1))) = some (.inr (12, [.ref (rN (re rs (i + 1))), .ref (rD (re rs (i + 1))), (rV (re rs (i + 1))), .int (rT (re rs (i + 1))), .int (rU (re rs (i + 1)))])) := by rw [eG5, zg_up_ne (zg_ne hrq kk_h_4 (by intro h; simp at h))]; exact hrq
        refine lv_iinc (v := nI (i + 1)) (lv' := [(2, .int (nI (i + 1))), (0, .ref a)]) hx hb d_Mo_removed_26 hl (k := 1) rfl (nI_add i 1) (by decide) rfl (fun ls hl => ?_)
        refine lv_goto (tgt := 2) hx hb d_Mo_removed_29 (by decide) ?_
        exact ih G5 (i + 1) (va_up f2 i (some (rA (re rs (i + 1))))) _ _ (by omega) (by omega) (by omega) (fun j hj => rdl_s hq hki hin j hj) (k7) (k8) (hx6) hG hS ls (lv_sub hl [1, 0] rfl)
  exact loop2 _ G kd fr _ _ (Nat.lt_succ_self _) (Nat.le_refl _) (hkd) (fun j hj => by rw [if_neg (by omega)]; exact hfr j hj) (ra) (rm4) (hx0) hG hS ls (lv_sub hl [1, 0] rfl)
