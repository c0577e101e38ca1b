/-! THE REFERENCE'S LINK -/
theorem by_id {v : Int32} (h : fits .byte (.int v) = true) : v.toInt8.toInt32 = v := by
  obtain ⟨c, hc, rfl⟩ := zu8 h
  exact (by decide +kernel : ∀ c, c < 256 → (sb_b c).toInt8.toInt32 = sb_b c) c hc
theorem wsz_n {n : Nat} (h : n < 128) : wsz n = nI n := by
  unfold wsz
  rw [pk_vb]
  exact (by decide +kernel : ∀ n, n < 128 → (nI n).toInt8.toInt32 = nI n) n h
theorem wpad_s {X : List Int32} {n z : Nat} {v : Int32} (h : X.length ≤ n) (hz : z < n) : (wpad X n).set z v ++ [0] = (wpad X (n + 1)).set z v := by
  have e : wpad X (n + 1) = wpad X n ++ [0] := by
    unfold wpad
    rw [List.append_assoc, show n + 1 - X.length = (n - X.length) + 1 by omega, List.replicate_succ']
  rw [e, List.set_append_left _ _ (by rw [wpad_len]; omega)]
theorem wpad_0 {X : List Int32} {n : Nat} (h : X.length = n) : wpad X n = X := by
  unfold wpad
  rw [h, Nat.sub_self]; exact List.append_nil _
theorem set_app (B L : List Int32) (j : Nat) (v : Int32) : (B ++ L).set (B.length + j) v = B ++ L.set j v := by rw [List.set_append_right _ _ (by omega), Nat.add_sub_cancel_left]
theorem set_slf {L : List Int32} {z : Nat} {v : Int32} (h : z < L.length) (e : L.getD z 0 = v) : L.set z v = L := by
  rw [List.getD_eq_getElem?_getD, List.getElem?_eq_getElem h] at e
  have e2 : L[z] = v := e
  rw [← e2, List.set_getElem_self]
theorem getD_apr (B L : List Int32) (j : Nat) : (B ++ L).getD (B.length + j) 0 = L.getD j 0 := by
  rw [List.getD_eq_getElem?_getD, List.getD_eq_getElem?_getD, List.getElem?_append_right (by omega), Nat.add_sub_cancel_left]
/-- the windows so far, the last type u -/
def rWi (s : List Int32 × Nat × Nat) (u : Nat) : Prop := winv s u ∧ s.1.getD s.2.2 0 = wsz (u % 256 / 8 + 1)
theorem wst_sz (s : List Int32 × Nat × Nat) (t : Nat) : (wst s t).1.getD (wst s t).2.2 0 = wsz (t % 256 / 8 + 1) := by
  rw [wst_F]
  show upd _ _ _ (wpr s t).2 = _
  rw [upd_o (by omega), upd_s]
theorem wst_c0 {s : List Int32 × Nat × Nat} {u t : Nat} (h : s = ([], 0, 0) ∨ (rWi s u ∧ u < t)) : ∃ k, (wpr s t).1.length = (wpr s t).2 + 1 + k ∧ k ≤ t % 256 / 8 + 1 ∧ (wpr s t).1.getD (wpr s t).2 0 = wsz k ∧ s.1.length ≤ (wpr s t).1.length := by
  by_cases z : s.2.1 = t / 256 + 1
  · have e : wpr s t = (s.1, s.2.2) := if_pos z
    rcases h with h | ⟨h, hu⟩
    · rw [h] at z
      have : (0 : Nat) = t / 256 + 1 := z
      omega
    · rw [e]
      have h1 := h.1.1
      have h2 := h.1.2.1
      refine ⟨u % 256 / 8 + 1, ?_, ?_, h.2, Nat.le_refl _⟩
      · show s.1.length = s.2.2 + 1 + (u % 256 / 8 + 1)
        omega
      · omega
  · have e : wpr s t = (s.1 ++ [wby t, 0], s.1.length + 1) := if_neg z
    rw [e]
    refine ⟨0, ?_, Nat.zero_le _, ?_, ?_⟩
    · show (s.1 ++ [wby t, 0]).length = s.1.length + 1 + 1 + 0
      rw [List.length_append]; rfl
    · show (s.1 ++ [wby t, 0]).getD (s.1.length + 1) 0 = wsz 0
      rw [getD_apr]; show (0 : Int32) = wsz 0; decide
    · show s.1.length ≤ (s.1 ++ [wby t, 0]).length
      rw [List.length_append]; omega
theorem rWi_s {s : List Int32 × Nat × Nat} {u t : Nat} (h : s = ([], 0, 0) ∨ (rWi s u ∧ u < t)) : rWi (wst s t) t := by
  refine ⟨?_, wst_sz s t⟩
  rcases h with h | ⟨h, hu⟩
  · exact winv_0 s t (by rw [h]; show ¬ (0 : Nat) = _; omega)
  · exact winv_s h.1 hu
theorem srt_pre {T U : List Nat} {u : Nat} (hT : T.Pairwise (· < ·)) (hU : U.Pairwise (· < ·)) (h : ∀ t, t ∈ T ↔ t ∈ U ∧ t ≤ u) : T <+: U := by
  induction U generalizing T with
  | nil =>
    cases T with
    | nil => exact List.nil_prefix
    | cons b T => exact absurd ((h b).mp List.mem_cons_self).1 List.not_mem_nil
  | cons a U ih =>
    rw [List.pairwise_cons] at hU
    by_cases ha : a ≤ u
    · cases T with
      | nil => exact absurd ((h a).mpr ⟨List.mem_cons_self, ha⟩) List.not_mem_nil
      | cons b T =>
        rw [List.pairwise_cons] at hT
        have e : b = a := by
          have h1 := ((h b).mp List.mem_cons_self).1
          have h2 := (h a).mpr ⟨List.mem_cons_self, ha⟩
          rcases List.mem_cons.mp h1 with z | z
          · exact z
          · rcases List.mem_cons.mp h2 with w | w
            · exact w.symm
            · have := hU.1 b z; have := hT.1 a w; omega
        subst e
        refine List.cons_prefix_cons.mpr ⟨rfl, ih hT.2 hU.2 (fun t => ?_)⟩
        constructor
        · intro z
          obtain ⟨h1, h2⟩ := (h t).mp (List.mem_cons_of_mem _ z)
          rcases List.mem_cons.mp h1 with w | w
          · have := hT.1 t z; omega
          · exact ⟨w, h2⟩
        · rintro ⟨z, z2⟩
          rcases List.mem_cons.mp ((h t).mpr ⟨List.mem_cons_of_mem _ z, z2⟩) with w | w
          · have := hU.1 t z; omega
          · exact w
    · have : T = [] := by
        cases T with
        | nil => rfl
        | cons b T =>
          obtain ⟨h1, h2⟩ := (h b).mp List.mem_cons_self
          rcases List.mem_cons.mp h1 with z | z
          · omega
          · have := hU.1 b z; omega
      rw [this]; exact List.nil_prefix
theorem wso_of {T : List Nat} (h : T.Pairwise (· < ·)) : wso T := fun i hi => by
  rw [List.getD_eq_getElem?_getD, List.getD_eq_getElem?_getD, List.getElem?_eq_getElem (show i < T.length by omega), List.getElem?_eq_getElem hi]
  exact List.pairwise_iff_getElem.mp h i (i + 1) (by omega) hi (by omega)
theorem isTy_ex (V : zVt) (top x : np_N) : isTy V top x (vty V top x) := by
  refine zch_s (x := (List.range 65536).filter (fun t => @decide (t = 46 ∨ t = 47 ∨ (t < 65536 ∧ V x (nI t) ≠ [] ∧ (vco V top x = some x → t = 2 ∨ t = 43))) (Classical.propDecidable _))) ⟨?_, fun t => ?_⟩
  · exact wso_of (List.Pairwise.filter _ List.pairwise_lt_range)
  · rw [List.mem_filter, List.mem_range]
    constructor
    · rintro ⟨-, h⟩; exact @of_decide_eq_true _ (Classical.propDecidable _) h
    · intro h
      exact ⟨by rcases h with rfl | rfl | h <;> first | decide | exact h.1, @decide_eq_true _ (Classical.propDecidable _) h⟩
theorem rTp_pre {lo : np_N} {rs : List zRt} {x : np_N} {T : List Nat} {u : Nat} (h : rGd lo rs) (hna : ¬ vaw (rVf rs) lo x) (hT : rTp (rTy rs x (zcut lo rs (x.drop 0)) rs.length) u T) : (wws T).1.length ≤ (wws (vty (rVf rs) lo x)).1.length := by
  have hty := isTy_ex (rVf rs) lo x
  have hp : T <+: vty (rVf rs) lo x := srt_pre (u := u) (wso_pw hT.1) (wso_pw hty.1) (fun t => by
    rw [hT.2, hty.2]
    constructor
    · rintro ⟨a1, a2, a3⟩; exact ⟨(rTy_V h hna t a1).mp a2, a3⟩
    · rintro ⟨a1, a2⟩
      have ht : t < 65536 := by rcases a1 with rfl | rfl | ⟨z, -⟩ <;> first | decide | exact z
      exact ⟨ht, (rTy_V h hna t ht).mpr a1, a2⟩)
  have e : T = (vty (rVf rs) lo x).take T.length := List.prefix_iff_eq_take.mp hp
  rw [e]
  exact wws_mono hp.length_le
theorem rPi_lk {c1 c2 : Nat} {W : zW} {x : np_N} {u : Int32} {D : List Int32} (hc : 0 < c1) (hc2 : 0 < c2) : rPi c1 c2 (wad 2 W [(x, 47, u, D)]) 0 = rPi c1 c2 W 0 + 14 * (rcp c1 (wln W + 1) - rcp c1 (wln W)) + 2 * (rcp c2 (rPw W + D.length) - rcp c2 (rPw W)) := by
  have h := rcp_mono hc (wln W)
  have h2 := rcp_mono2 hc2 (show rPw W ≤ rPw W + D.length by omega)
  unfold rPi
  rw [wln_ad, rPw_ad, wl47_1]
  show 14 * rcp c1 (wln W + 1) + 2 * rcp c2 (rPw W + D.length) = 14 * rcp c1 (wln W) + 2 * rcp c2 (rPw W) + _ + _
  omega
theorem vpr_l {V : zVt} {top : np_N} {W : zW} {x : np_N} (h : ¬ aHas W.2.1 x 47) : vpr V top true W x = wad 2 W [(x, 47, vlt V top, vlk V top x)] := zif_y ⟨rfl, h⟩
theorem vpr_k {V : zVt} {top : np_N} {W : zW} {x : np_N} (h : aHas W.2.1 x 47) : vpr V top true W x = W := zif_n (fun z => z.2 h)
theorem rTp_0 {P : Int32 → Prop} (h : ∀ t, P (nI t) → t < 65536 → 0 < t) : rTp P 0 [] := ⟨fun i hi => absurd hi (Nat.not_lt_zero _), fun t => ⟨fun z => absurd z List.not_mem_nil, fun ⟨a1, a2, a3⟩ => by have := h t a2 a1; omega⟩⟩
theorem rTy_pos {lo : np_N} {rs : List zRt} {x : np_N} {gv : Prop} {t : Nat} (h : rGd lo rs) (ht : rTy rs x gv rs.length (nI t)) : 0 < t := by
  rcases Nat.eq_zero_or_pos t with z | z
  · subst z
    rcases ht with e | e | ⟨j, hj, e, -⟩
    · exact absurd e (by decide)
    · exact absurd e (by decide)
    · have := (h.2.2.2.2.2.2 _ (re_mem hj)).2.2.2.1
      rw [e] at this
      exact absurd this (by decide)
  · exact z
theorem rNx_nat {lo : np_N} {rs : List zRt} {x : np_N} {gv : Prop} {u r : Int32} (h : rGd lo rs) (hr : rNx (rTy rs x gv rs.length) u r) : ∃ t9, t9 < 65536 ∧ r = nI t9 := by
  rcases hr with ⟨e, -⟩ | ⟨e0, e1, -, -⟩
  · exact ⟨0, by decide, e⟩
  · rcases e1 with e1 | e1 | ⟨j, hj, e1, -⟩
    · exact ⟨46, by decide, e1⟩
    · exact ⟨47, by decide, e1⟩
    · have h65 := (h.2.2.2.2.2.2 _ (re_mem hj)).2.2.2.2.1
      rw [e1] at h65
      obtain ⟨t, ht, rfl⟩ := nI_of (Int32.not_lt.mpr (Int32.le_of_lt e0))
      exact ⟨t, by have := (nI_leI (b := 65535) ht (by decide)).mp h65; omega, rfl⟩
theorem nI_m1 {a b : Nat} (h : a = b + 1) : nI a - 1 = nI b := by subst h; exact zi_sub (a := b + 1) (b := 1) (by omega)
theorem i8_n {n : Nat} (h : n < 128) : (nI n).toInt8.toInt32 = nI n := (by decide +kernel : ∀ n, n < 128 → (nI n).toInt8.toInt32 = nI n) n h
theorem fit_n {n : Nat} (h : n < 128) : fits .byte (.int (nI n)) = true := (by decide +kernel : ∀ n, n < 128 → fits .byte (.int (nI n)) = true) n h
theorem vpn {n : Nat} (h : n < 128) : vp_nar .byte (nI n) = wsz n := by unfold wsz; rw [i8_n h]
theorem fit_v (x : Int32) : fits .byte (.int (vp_nar .byte x.toInt8.toInt32)) = true := by
  rw [pk_vb]; exact pk_fb _
theorem w_1501 : (.methodLink "ZoneAnswersModel" 164 ⟨"ZoneAnswersModel", "behind", "([B)[B"⟩ : Cond) ∈ zw := zw_at 1501 (by decide +kernel) (by decide +kernel)
theorem w_1503 : (.instanceMethod ⟨"ZoneAnswersModel", "behind", "([B)[B"⟩ : Cond) ∈ zw := zw_at 1503 (by decide +kernel) (by decide +kernel)
theorem w_1504 : (.code ⟨"ZoneAnswersModel", "behind", "([B)[B"⟩ prog_12_method_13_code 8 (some (.array .byte)) : Cond) ∈ zw := zw_at 1504 (by decide +kernel) (by decide +kernel)
theorem w_1516 : (.methodLink "ZoneAnswersModel" 168 ⟨"ZoneAnswersModel", "pool", "(I)V"⟩ : Cond) ∈ zw := zw_at 1516 (by decide +kernel) (by decide +kernel)
theorem w_1518 : (.instanceMethod ⟨"ZoneAnswersModel", "pool", "(I)V"⟩ : Cond) ∈ zw := zw_at 1518 (by decide +kernel) (by decide +kernel)
theorem w_1519 : (.code ⟨"ZoneAnswersModel", "pool", "(I)V"⟩ prog_12_method_23_code 4 none : Cond) ∈ zw := zw_at 1519 (by decide +kernel) (by decide +kernel)
theorem w_1520 : (.methodLink "ZoneAnswersModel" 171 ⟨"ZoneAnswersModel", "next", "([BIZ)I"⟩ : Cond) ∈ zw := zw_at 1520 (by decide +kernel) (by decide +kernel)
theorem w_1522 : (.instanceMethod ⟨"ZoneAnswersModel", "next", "([BIZ)I"⟩ : Cond) ∈ zw := zw_at 1522 (by decide +kernel) (by decide +kernel)
theorem w_1523 : (.code ⟨"ZoneAnswersModel", "next", "([BIZ)I"⟩ prog_12_method_24_code 7 (some .int) : Cond) ∈ zw := zw_at 1523 (by decide +kernel) (by decide +kernel)
theorem wp_45 : (.selects "ZoneAnswersModel" ⟨"ZoneAnswersModel", "behind", "([B)[B"⟩ ⟨"ZoneAnswersModel", "behind", "([B)[B"⟩ : Cond) ∈ zw := zw_pv 45 (y := ⟨"ZoneAnswersModel", "behind", "([B)[B"⟩) rfl (by decide +kernel)
theorem wp_47 : (.selects "ZoneAnswersModel" ⟨"ZoneAnswersModel", "pool", "(I)V"⟩ ⟨"ZoneAnswersModel", "pool", "(I)V"⟩ : Cond) ∈ zw := zw_pv 47 (y := ⟨"ZoneAnswersModel", "pool", "(I)V"⟩) rfl (by decide +kernel)
theorem wp_48 : (.selects "ZoneAnswersModel" ⟨"ZoneAnswersModel", "next", "([BIZ)I"⟩ ⟨"ZoneAnswersModel", "next", "([BIZ)I"⟩ : Cond) ∈ zw := zw_pv 48 (y := ⟨"ZoneAnswersModel", "next", "([BIZ)I"⟩) rfl (by decide +kernel)
abbrev c_Mo_link : ByteArray := prog_12_method_25_code
abbrev y_Mo_link : MethodName := ⟨"ZoneAnswersModel", "link", "([B)V"⟩
theorem d_Mo_link_0 : decode c_Mo_link 0 = .ok (.aload_n 1, 1) := by decide +kernel
theorem d_Mo_link_1 : decode c_Mo_link 1 = .ok (.ifnull 14, 3) := by decide +kernel
theorem d_Mo_link_4 : decode c_Mo_link 4 = .ok (.aload_n 0, 1) := by decide +kernel
theorem d_Mo_link_5 : decode c_Mo_link 5 = .ok (.iconst 2, 1) := by decide +kernel
theorem d_Mo_link_6 : decode c_Mo_link 6 = .ok (.aload_n 1, 1) := by decide +kernel
theorem d_Mo_link_7 : decode c_Mo_link 7 = .ok (.bipush 47, 2) := by decide +kernel
theorem d_Mo_link_9 : decode c_Mo_link 9 = .ok (.invokevirtual 160, 3) := by decide +kernel
theorem d_Mo_link_12 : decode c_Mo_link 12 = .ok (.ifCond .eq 4, 3) := by decide +kernel
theorem d_Mo_link_15 : decode c_Mo_link 15 = .ok (.return_, 1) := by decide +kernel
theorem d_Mo_link_16 : decode c_Mo_link 16 = .ok (.aload_n 0, 1) := by decide +kernel
theorem d_Mo_link_17 : decode c_Mo_link 17 = .ok (.getfield 157, 3) := by decide +kernel
theorem d_Mo_link_20 : decode c_Mo_link 20 = .ok (.istore_n 2, 1) := by decide +kernel
theorem d_Mo_link_21 : decode c_Mo_link 21 = .ok (.aload_n 0, 1) := by decide +kernel
theorem d_Mo_link_22 : decode c_Mo_link 22 = .ok (.aload_n 1, 1) := by decide +kernel
theorem d_Mo_link_23 : decode c_Mo_link 23 = .ok (.invokevirtual 164, 3) := by decide +kernel
theorem d_Mo_link_26 : decode c_Mo_link 26 = .ok (.astore_n 3, 1) := by decide +kernel
theorem d_Mo_link_27 : decode c_Mo_link 27 = .ok (.iconst 0, 1) := by decide +kernel
theorem d_Mo_link_28 : decode c_Mo_link 28 = .ok (.istore 4, 2) := by decide +kernel
theorem d_Mo_link_30 : decode c_Mo_link 30 = .ok (.iload 4, 2) := by decide +kernel
theorem d_Mo_link_32 : decode c_Mo_link 32 = .ok (.aload_n 3, 1) := by decide +kernel
theorem d_Mo_link_33 : decode c_Mo_link 33 = .ok (.arraylength, 1) := by decide +kernel
theorem d_Mo_link_34 : decode c_Mo_link 34 = .ok (.if_icmp .ge 17, 3) := by decide +kernel
theorem d_Mo_link_37 : decode c_Mo_link 37 = .ok (.aload_n 0, 1) := by decide +kernel
theorem d_Mo_link_38 : decode c_Mo_link 38 = .ok (.aload_n 3, 1) := by decide +kernel
theorem d_Mo_link_39 : decode c_Mo_link 39 = .ok (.iload 4, 2) := by decide +kernel
theorem d_Mo_link_41 : decode c_Mo_link 41 = .ok (.baload, 1) := by decide +kernel
theorem d_Mo_link_42 : decode c_Mo_link 42 = .ok (.invokevirtual 168, 3) := by decide +kernel
theorem d_Mo_link_45 : decode c_Mo_link 45 = .ok (.iinc 4 1, 3) := by decide +kernel
theorem d_Mo_link_48 : decode c_Mo_link 48 = .ok (.goto (-18), 3) := by decide +kernel
theorem d_Mo_link_51 : decode c_Mo_link 51 = .ok (.aload_n 0, 1) := by decide +kernel
theorem d_Mo_link_52 : decode c_Mo_link 52 = .ok (.aload_n 1, 1) := by decide +kernel
theorem d_Mo_link_53 : decode c_Mo_link 53 = .ok (.iconst 0, 1) := by decide +kernel
theorem d_Mo_link_54 : decode c_Mo_link 54 = .ok (.invokevirtual 102, 3) := by decide +kernel
theorem d_Mo_link_57 : decode c_Mo_link 57 = .ok (.istore 4, 2) := by decide +kernel
theorem d_Mo_link_59 : decode c_Mo_link 59 = .ok (.iconst (-1), 1) := by decide +kernel
theorem d_Mo_link_60 : decode c_Mo_link 60 = .ok (.istore 5, 2) := by decide +kernel
theorem d_Mo_link_62 : decode c_Mo_link 62 = .ok (.iconst 0, 1) := by decide +kernel
theorem d_Mo_link_63 : decode c_Mo_link 63 = .ok (.istore 6, 2) := by decide +kernel
theorem d_Mo_link_65 : decode c_Mo_link 65 = .ok (.aload_n 0, 1) := by decide +kernel
theorem d_Mo_link_66 : decode c_Mo_link 66 = .ok (.aload_n 1, 1) := by decide +kernel
theorem d_Mo_link_67 : decode c_Mo_link 67 = .ok (.iconst 0, 1) := by decide +kernel
theorem d_Mo_link_68 : decode c_Mo_link 68 = .ok (.iload 4, 2) := by decide +kernel
theorem d_Mo_link_70 : decode c_Mo_link 70 = .ok (.invokevirtual 171, 3) := by decide +kernel
theorem d_Mo_link_73 : decode c_Mo_link 73 = .ok (.istore 7, 2) := by decide +kernel
theorem d_Mo_link_75 : decode c_Mo_link 75 = .ok (.iload 7, 2) := by decide +kernel
theorem d_Mo_link_77 : decode c_Mo_link 77 = .ok (.ifCond .le 116, 3) := by decide +kernel
theorem d_Mo_link_80 : decode c_Mo_link 80 = .ok (.iload 7, 2) := by decide +kernel
theorem d_Mo_link_82 : decode c_Mo_link 82 = .ok (.bipush 8, 2) := by decide +kernel
theorem d_Mo_link_84 : decode c_Mo_link 84 = .ok (.ishr, 1) := by decide +kernel
theorem d_Mo_link_85 : decode c_Mo_link 85 = .ok (.iload 5, 2) := by decide +kernel
theorem d_Mo_link_87 : decode c_Mo_link 87 = .ok (.if_icmp .eq 29, 3) := by decide +kernel
theorem d_Mo_link_90 : decode c_Mo_link 90 = .ok (.iload 7, 2) := by decide +kernel
theorem d_Mo_link_92 : decode c_Mo_link 92 = .ok (.bipush 8, 2) := by decide +kernel
theorem d_Mo_link_94 : decode c_Mo_link 94 = .ok (.ishr, 1) := by decide +kernel
theorem d_Mo_link_95 : decode c_Mo_link 95 = .ok (.istore 5, 2) := by decide +kernel
theorem d_Mo_link_97 : decode c_Mo_link 97 = .ok (.aload_n 0, 1) := by decide +kernel
theorem d_Mo_link_98 : decode c_Mo_link 98 = .ok (.iload 5, 2) := by decide +kernel
theorem d_Mo_link_100 : decode c_Mo_link 100 = .ok (.invokevirtual 168, 3) := by decide +kernel
theorem d_Mo_link_103 : decode c_Mo_link 103 = .ok (.aload_n 0, 1) := by decide +kernel
theorem d_Mo_link_104 : decode c_Mo_link 104 = .ok (.iconst 0, 1) := by decide +kernel
theorem d_Mo_link_105 : decode c_Mo_link 105 = .ok (.invokevirtual 168, 3) := by decide +kernel
theorem d_Mo_link_108 : decode c_Mo_link 108 = .ok (.aload_n 0, 1) := by decide +kernel
theorem d_Mo_link_109 : decode c_Mo_link 109 = .ok (.getfield 157, 3) := by decide +kernel
theorem d_Mo_link_112 : decode c_Mo_link 112 = .ok (.iconst 1, 1) := by decide +kernel
theorem d_Mo_link_113 : decode c_Mo_link 113 = .ok (.isub, 1) := by decide +kernel
theorem d_Mo_link_114 : decode c_Mo_link 114 = .ok (.istore 6, 2) := by decide +kernel
theorem d_Mo_link_116 : decode c_Mo_link 116 = .ok (.aload_n 0, 1) := by decide +kernel
theorem d_Mo_link_117 : decode c_Mo_link 117 = .ok (.getfield 47, 3) := by decide +kernel
theorem d_Mo_link_120 : decode c_Mo_link 120 = .ok (.iload 6, 2) := by decide +kernel
theorem d_Mo_link_122 : decode c_Mo_link 122 = .ok (.baload, 1) := by decide +kernel
theorem d_Mo_link_123 : decode c_Mo_link 123 = .ok (.iload 7, 2) := by decide +kernel
theorem d_Mo_link_125 : decode c_Mo_link 125 = .ok (.sipush 255, 3) := by decide +kernel
theorem d_Mo_link_128 : decode c_Mo_link 128 = .ok (.iand, 1) := by decide +kernel
theorem d_Mo_link_129 : decode c_Mo_link 129 = .ok (.iconst 3, 1) := by decide +kernel
theorem d_Mo_link_130 : decode c_Mo_link 130 = .ok (.ishr, 1) := by decide +kernel
theorem d_Mo_link_131 : decode c_Mo_link 131 = .ok (.if_icmp .gt 23, 3) := by decide +kernel
theorem d_Mo_link_134 : decode c_Mo_link 134 = .ok (.aload_n 0, 1) := by decide +kernel
theorem d_Mo_link_135 : decode c_Mo_link 135 = .ok (.iconst 0, 1) := by decide +kernel
theorem d_Mo_link_136 : decode c_Mo_link 136 = .ok (.invokevirtual 168, 3) := by decide +kernel
theorem d_Mo_link_139 : decode c_Mo_link 139 = .ok (.aload_n 0, 1) := by decide +kernel
theorem d_Mo_link_140 : decode c_Mo_link 140 = .ok (.getfield 47, 3) := by decide +kernel
theorem d_Mo_link_143 : decode c_Mo_link 143 = .ok (.iload 6, 2) := by decide +kernel
theorem d_Mo_link_145 : decode c_Mo_link 145 = .ok (.dup2, 1) := by decide +kernel
theorem d_Mo_link_146 : decode c_Mo_link 146 = .ok (.baload, 1) := by decide +kernel
theorem d_Mo_link_147 : decode c_Mo_link 147 = .ok (.iconst 1, 1) := by decide +kernel
theorem d_Mo_link_148 : decode c_Mo_link 148 = .ok (.iadd, 1) := by decide +kernel
theorem d_Mo_link_149 : decode c_Mo_link 149 = .ok (.i2b, 1) := by decide +kernel
theorem d_Mo_link_150 : decode c_Mo_link 150 = .ok (.bastore, 1) := by decide +kernel
theorem d_Mo_link_151 : decode c_Mo_link 151 = .ok (.goto (-35), 3) := by decide +kernel
theorem d_Mo_link_154 : decode c_Mo_link 154 = .ok (.aload_n 0, 1) := by decide +kernel
theorem d_Mo_link_155 : decode c_Mo_link 155 = .ok (.getfield 47, 3) := by decide +kernel
theorem d_Mo_link_158 : decode c_Mo_link 158 = .ok (.aload_n 0, 1) := by decide +kernel
theorem d_Mo_link_159 : decode c_Mo_link 159 = .ok (.getfield 157, 3) := by decide +kernel
theorem d_Mo_link_162 : decode c_Mo_link 162 = .ok (.iconst 1, 1) := by decide +kernel
theorem d_Mo_link_163 : decode c_Mo_link 163 = .ok (.isub, 1) := by decide +kernel
theorem d_Mo_link_164 : decode c_Mo_link 164 = .ok (.dup2, 1) := by decide +kernel
theorem d_Mo_link_165 : decode c_Mo_link 165 = .ok (.baload, 1) := by decide +kernel
theorem d_Mo_link_166 : decode c_Mo_link 166 = .ok (.sipush 128, 3) := by decide +kernel
theorem d_Mo_link_169 : decode c_Mo_link 169 = .ok (.iload 7, 2) := by decide +kernel
theorem d_Mo_link_171 : decode c_Mo_link 171 = .ok (.bipush 7, 2) := by decide +kernel
theorem d_Mo_link_173 : decode c_Mo_link 173 = .ok (.iand, 1) := by decide +kernel
theorem d_Mo_link_174 : decode c_Mo_link 174 = .ok (.ishr, 1) := by decide +kernel
theorem d_Mo_link_175 : decode c_Mo_link 175 = .ok (.i2b, 1) := by decide +kernel
theorem d_Mo_link_176 : decode c_Mo_link 176 = .ok (.ior, 1) := by decide +kernel
theorem d_Mo_link_177 : decode c_Mo_link 177 = .ok (.i2b, 1) := by decide +kernel
theorem d_Mo_link_178 : decode c_Mo_link 178 = .ok (.bastore, 1) := by decide +kernel
theorem d_Mo_link_179 : decode c_Mo_link 179 = .ok (.aload_n 0, 1) := by decide +kernel
theorem d_Mo_link_180 : decode c_Mo_link 180 = .ok (.aload_n 1, 1) := by decide +kernel
theorem d_Mo_link_181 : decode c_Mo_link 181 = .ok (.iload 7, 2) := by decide +kernel
theorem d_Mo_link_183 : decode c_Mo_link 183 = .ok (.iload 4, 2) := by decide +kernel
theorem d_Mo_link_185 : decode c_Mo_link 185 = .ok (.invokevirtual 171, 3) := by decide +kernel
theorem d_Mo_link_188 : decode c_Mo_link 188 = .ok (.istore 7, 2) := by decide +kernel
theorem d_Mo_link_190 : decode c_Mo_link 190 = .ok (.goto (-115), 3) := by decide +kernel
theorem d_Mo_link_193 : decode c_Mo_link 193 = .ok (.aload_n 0, 1) := by decide +kernel
theorem d_Mo_link_194 : decode c_Mo_link 194 = .ok (.iconst 2, 1) := by decide +kernel
theorem d_Mo_link_195 : decode c_Mo_link 195 = .ok (.aload_n 1, 1) := by decide +kernel
theorem d_Mo_link_196 : decode c_Mo_link 196 = .ok (.bipush 47, 2) := by decide +kernel
theorem d_Mo_link_198 : decode c_Mo_link 198 = .ok (.aload_n 0, 1) := by decide +kernel
theorem d_Mo_link_199 : decode c_Mo_link 199 = .ok (.invokevirtual 175, 3) := by decide +kernel
theorem d_Mo_link_202 : decode c_Mo_link 202 = .ok (.aconst_null, 1) := by decide +kernel
theorem d_Mo_link_203 : decode c_Mo_link 203 = .ok (.iload_n 2, 1) := by decide +kernel
theorem d_Mo_link_204 : decode c_Mo_link 204 = .ok (.aload_n 0, 1) := by decide +kernel
theorem d_Mo_link_205 : decode c_Mo_link 205 = .ok (.getfield 157, 3) := by decide +kernel
theorem d_Mo_link_208 : decode c_Mo_link 208 = .ok (.iload_n 2, 1) := by decide +kernel
theorem d_Mo_link_209 : decode c_Mo_link 209 = .ok (.isub, 1) := by decide +kernel
theorem d_Mo_link_210 : decode c_Mo_link 210 = .ok (.invokevirtual 153, 3) := by decide +kernel
theorem d_Mo_link_213 : decode c_Mo_link 213 = .ok (.return_, 1) := by decide +kernel
abbrev rm_Mo_link (c9 s9 : Nat) : Room := { frames := 8, cells := c9, slots := s9, locals := 230 }
set_option maxHeartbeats 4000000 in
set_option maxRecDepth 100000 in
/-- link(x), of the reference -/
theorem t_Mo_link (l : Launch) (E : zc_E) (G : zg_G) (a c1 c2 : Nat) (ro : zRo) (lo : np_N) (rs : List zRt) (Wz : zW) (wp : zWs) (th co se : Int32) (tp : List Int32) (v19 v20 : Value) (hst : rSt E G ro a c1 c2 lo rs Wz ([]) True (wln Wz, 0, [], wp) th tp co se v19 v20) (b1 : Nat) (ls1 : np_N) (hn1 : rNm E G ro b1 ls1) (hna : ¬ vaw (rVf rs) lo ls1) (hB : wln Wz < 2 ^ 16) (hbd : rcp c2 (rPw (vpr (rVf rs) lo true Wz ls1)) ≤ 2 ^ 20) : zMv l E y_Mo_link c_Mo_link 8 (rm_Mo_link (rPi c1 c2 (vpr (rVf rs) lo true Wz ls1) 0 - rPi c1 c2 Wz 0) (rPi c1 c2 (vpr (rVf rs) lo true Wz ls1) 0 - rPi c1 c2 Wz 0)) [.ref a, .ref b1] G (fun (G2 : zg_G) => ∃ r2, rSt E G2 r2 a c1 c2 lo rs (vpr (rVf rs) lo true Wz ls1) ([]) True (wln (vpr (rVf rs) lo true Wz ls1), 0, [], wp) th tp co se v19 v20 ∧ zfr ro zKr G r2 G2) := by
  refine zMv.of (by decide) (Nat.le_of_ble_eq_true rfl) ?_
  intro p e s m args below meth c Q hZ hG hret ls hl
  obtain ⟨hx, hb, hr, hts, hown, hlocks, hml, hnm, hbase, hK, hN, hQ⟩ := hZ
  have hl : lv_has ls 8 [(0, .ref a), (1, .ref b1)] := hl
  have hS : zg_S (zc_b E) s.heap s.heap [] := va_S.rf
  have hc1 : 0 < c1 := by have := hst.cs.1; omega
  have hc2 : 0 < c2 := by have := hst.cs.2.1; omega
  obtain ⟨h, eh0, eh1, eh2, hc⟩ := id hst
  obtain ⟨ra, rb, ⟨fm, rt1, rt2, rt3, rt4⟩, rtl, ⟨fo, rn1, rn2, rn3, rn4, rn5⟩, rr, rg, ras⟩ := id hc
  rw [eh0] at ra
  obtain ⟨⟨fr, rm4, hfr⟩, hn2, hRs⟩ := id rr.1
  obtain ⟨f_b1, n1_b1, n2_b1, n3_b1, n4_b1, n5_b1⟩ := id hn1
  have sm_b1 := n3_b1.2
  have hgd := hst.gd
  have hst2 := hst.nxt rfl 2 ls1
  refine lv_aload_n hx hb d_Mo_link_0 rfl (lv_at hl 1 rfl) ?_
  refine lv_ifnull hx hb d_Mo_link_1 ?_
  refine lv_aload_n hx hb d_Mo_link_4 rfl (lv_at hl 0 rfl) ?_
  refine lv_iconst (v := 2) hx hb d_Mo_link_5 (by decide) ?_
  refine lv_aload_n hx hb d_Mo_link_6 rfl (lv_at hl 1 rfl) ?_
  refine lv_bipush (v := 47) hx hb d_Mo_link_7 (by decide) ?_
  refine zk_i (va_runV (As := [.int 2, .ref b1, .int 47]) (rest := []) ⟨hx, hb, hml, hown, hts⟩ (t_Mo_shown_s l hst 2 47 (Or.inr (Or.inl rfl)) b1 ls1 hn1) (zcV 3 hts w_1497 w_1499 wp_44 w_30 w_1500 (by decide +kernel) ⟨Nat.le_of_ble_eq_true rfl, Nat.le_of_ble_eq_true rfl⟩) (zc_preV hbase hK hN hQ hG hS ra rfl) rfl rfl hl.1 rfl (lv_room (Nat.le_of_ble_eq_true rfl)) d_Mo_link_9 ⟨(by dsimp only [List.length_nil]; omega), (by dsimp only [List.length_nil]; omega)⟩) hS (fun r9 G9 H locs hp9 hG hS => ?_)
  have hG : zP E G H := hp9.2 ▸ hG
  refine lv_if_eq (tgt := 16) hx hb d_Mo_link_12 (by decide) (fun c12 => ?_) (fun c12 => ?_)
  · have hno : ¬ aHas Wz.2.1 ls1 47 := hp9.1.z c12
    have hvpr : vpr (rVf rs) lo true Wz ls1 = wad 2 Wz [(ls1, 47, vlt (rVf rs) lo, vlk (rVf rs) lo ls1)] := vpr_l hno
    have hR := rPi_lk (W := Wz) (x := ls1) (u := vlt (rVf rs) lo) (D := vlk (rVf rs) lo ls1) hc1 hc2
    rw [← hvpr] at hR
    have hbM : rcp c2 (rPw Wz + (vlk (rVf rs) lo ls1).length) ≤ 2 ^ 20 := by have q := hbd; rw [hvpr, rPw_ad, wl47_1] at q; exact q
    have hM20 : rPw Wz + (vlk (rVf rs) lo ls1).length ≤ 2 ^ 20 := Nat.le_trans (rcp_ge hc2 _).1 hbM
    have hcm1 := rcp_mono hc1 (wln Wz)
    refine lv_aload_n hx hb d_Mo_link_16 rfl (lv_at hl 0 rfl) ?_
    refine zg_get (ci := 11) (C := "ZoneAnswersModel") (T := T_Mo) (N := 21) hx hb hts zi_Mo hown hK hG ra rfl 16 (by decide) (hts _ w_1297) (fun _ h9 => h9) rfl d_Mo_link_17 ?_
    refine lv_istore_n (lv' := [(2, .int (nI (rPw Wz))), (0, .ref a), (1, .ref b1)]) hx hb d_Mo_link_20 rfl hl (by decide) rfl (fun ls hl => ?_)
    refine lv_aload_n hx hb d_Mo_link_21 rfl (lv_at hl 1 rfl) ?_
    refine lv_aload_n hx hb d_Mo_link_22 rfl (lv_at hl 2 rfl) ?_
    have hGo23 := hG
    refine zk_q (va_runV (As := [.ref b1]) (rest := []) ⟨hx, hb, hml, hown, hts⟩ (t_Mo_behind_s l hst2 b1 ls1 hn1) (zcV 1 hts w_1501 w_1503 wp_45 w_30 w_1504 (by decide +kernel) ⟨Nat.le_of_ble_eq_true rfl, Nat.le_of_ble_eq_true rfl⟩) (zc_preV hbase hK hN hQ hG hS ra rfl) rfl rfl hl.1 rfl (lv_room (Nat.le_of_ble_eq_true rfl)) d_Mo_link_23 ⟨(by dsimp only [List.length_nil]; omega), (by dsimp only [List.length_nil]; omega)⟩) hS (fun r23 G23 H locs hp23 hG hS => ?_)
    have hG : zP E G H := hp23.2 ▸ hG
    obtain ⟨j9, hj9, er9, hnx9⟩ := hp23.1
    refine zr_some (a := rN (re rs j9)) er9 ?_
    have hnm9 := (hst2.nm hj9).1
    have hvl : vlk (rVf rs) lo ls1 = np_enc (rM (re rs j9)) ++ (wws (vty (rVf rs) lo ls1)).1 := by unfold vlk; rw [hnx9]
    have hvll : (vlk (rVf rs) lo ls1).length = (np_enc (rM (re rs j9))).length + (wws (vty (rVf rs) lo ls1)).1.length := by rw [hvl, List.length_append]
    have hBl : (np_enc (rM (re rs j9))).length = np_len (rM (re rs j9)) := np_enc_len _
    obtain ⟨fy, ny1, ny2, ny3, ny4, ny5⟩ := id hnm9
    refine lv_astore_n (lv' := [(3, .ref (rN (re rs j9))), (2, .int (nI (rPw Wz))), (0, .ref a), (1, .ref b1)]) hx hb d_Mo_link_26 rfl hl (by decide) rfl (fun ls hl => ?_)
    refine lv_iconst (v := 0) hx hb d_Mo_link_27 (by decide) ?_
    refine zi_as (y := nI 0) (nI_0.symm) ?_
    refine lv_istore (lv' := [(4, .int (nI 0)), (3, .ref (rN (re rs j9))), (2, .int (nI (rPw Wz))), (0, .ref a), (1, .ref b1)]) hx hb d_Mo_link_28 hl (by decide) rfl (fun ls hl => ?_)
    have loop30 : ∀ (N : Nat) (Gv : zg_G) (i : Nat) (ro8 : zRo) (H : Heap) (locs : List Loc), (np_len (rM (re rs j9)) - i) < N → (i ≤ np_len (rM (re rs j9))) → (rSt E Gv ro8 a c1 c2 lo rs Wz ((np_enc (rM (re rs j9))).take i) True (wln Wz, 2, ls1, wp) th tp co se v19 v20) → (zfr ro zKr G ro8 Gv) → zP E Gv H → zg_S (zc_b E) s.heap H locs → ∀ (ls : Array Slot), lv_has ls 8 [(0, .ref a), (1, .ref b1), (2, .int (nI (rPw Wz))), (3, .ref (rN (re rs j9))), (4, .int (nI i))] → W p l e (rm_Mo_link (rPi c1 c2 (vpr (rVf rs) lo true Wz ls1) 0 - rPi c1 c2 Wz 0) (rPi c1 c2 (vpr (rVf rs) lo true Wz ls1) 0 - rPi c1 c2 Wz 0)) s m args below meth c H locs (2 * (rcp c2 (rPw Wz + ((np_enc (rM (re rs j9))).take i).length) - rcp c2 (rPw Wz))) (2 * (rcp c2 (rPw Wz + ((np_enc (rM (re rs j9))).take i).length) - rcp c2 (rPw Wz))) Q (F0 m 30 ls []) := by
      intro N
      induction N with
      | zero =>
        intro Gv i ro8 H locs hlt
        exact absurd hlt (Nat.not_lt_zero _)
      | succ N ih =>
        intro Gv i ro8 H locs hlt hi hst8 hf8 hG hS ls hl
        obtain ⟨h8, eh08, eh18, eh28, hc8⟩ := id hst8
        obtain ⟨ra8, rb8, ⟨fm8, rt18, rt28, rt38, rt48⟩, rtl8, ⟨fo8, rn18, rn28, rn38, rn48, rn58⟩, rr8, rg8, ras8⟩ := id hc8
        rw [eh08] at ra8
        obtain ⟨⟨fr8, rm48, hfr8⟩, hn28, hRs8⟩ := id rr8.1
        have hnm98 := hnm9.fr hf8 zKr_0
        obtain ⟨fy8, ny18, ny28, ny38, ny48, ny58⟩ := id hnm98
        have hpl8 : ((np_enc (rM (re rs j9))).take i).length = i := by rw [List.length_take]; omega
        refine lv_iload hx hb d_Mo_link_30 (lv_at hl 4 rfl) ?_
        refine lv_aload_n hx hb d_Mo_link_32 rfl (lv_at hl 3 rfl) ?_
        refine zg_alen hx hb hK hG 0 ny18 rfl (v := nI (np_len (rM (re rs j9)))) rfl d_Mo_link_33 ?_
        refine lv_icmp_ge (tgt := 51) hx hb d_Mo_link_34 (by decide) (fun c34 => ?_) (fun c34 => ?_)
        · have b34 : (np_len (rM (re rs j9))) ≤ i := (nI_leI (a := (np_len (rM (re rs j9)))) (b := i) (by omega) (by omega)).mp c34
          have hi9 : i = np_len (rM (re rs j9)) := by omega
          have hst6 : rSt E Gv ro8 a c1 c2 lo rs Wz (np_enc (rM (re rs j9))) True (wln Wz, 2, ls1, wp) th tp co se v19 v20 := by rw [show np_enc (rM (re rs j9)) = (np_enc (rM (re rs j9))).take i from by rw [List.take_of_length_le (by omega)]]; exact hst8
          refine zW_more (cells2 := 2 * (rcp c2 (rPw Wz + (np_enc (rM (re rs j9))).length) - rcp c2 (rPw Wz))) (slots2 := 2 * (rcp c2 (rPw Wz + (np_enc (rM (re rs j9))).length) - rcp c2 (rPw Wz))) (by rw [hpl8, hi9, hBl]; exact Nat.le_refl _) (by rw [hpl8, hi9, hBl]; exact Nat.le_refl _) ?_
          have hmB : rcp c2 (rPw Wz + (np_enc (rM (re rs j9))).length) ≤ rcp c2 (rPw Wz + (vlk (rVf rs) lo ls1).length) := rcp_mono2 hc2 (by omega)
          obtain ⟨h6, eh06, eh16, eh26, hc6⟩ := id hst6
          obtain ⟨ra6, rb6, ⟨fm6, rt16, rt26, rt36, rt46⟩, rtl6, ⟨fo6, rn16, rn26, rn36, rn46, rn56⟩, rr6, rg6, ras6⟩ := id hc6
          rw [eh06] at ra6
          obtain ⟨⟨fr6, rm46, hfr6⟩, hn26, hRs6⟩ := id rr6.1
          have hn_b16 := hn1.fr hf8 zKr_0
          obtain ⟨f_b16, n1_b16, n2_b16, n3_b16, n4_b16, n5_b16⟩ := id hn_b16
          have sm_b16 := n3_b16.2
          obtain ⟨ws6, an6, pl6, ff6, fp6, pa16, pa26, pa36, pa46, -, -, -, -, ⟨y16, y26, y36, y46, y56, y66⟩, -⟩ := id ras6
          rw [eh26] at y16 y36
          have hge6 := (rcp_ge hc2 (rPw Wz + (np_enc (rM (re rs j9))).length)).1
          refine lv_aload_n hx hb d_Mo_link_51 rfl (lv_at hl 0 rfl) ?_
          refine lv_aload_n hx hb d_Mo_link_52 rfl (lv_at hl 1 rfl) ?_
          refine lv_iconst (v := 0) hx hb d_Mo_link_53 (by decide) ?_
          refine zi_as (y := nI (np_pos ls1 0)) (by rw [np_pos0]; rfl) ?_
          have hGo54 := hG
          refine zk_i (va_runV (As := [.ref b1, .int (nI (np_pos ls1 0))]) (rest := []) ⟨hx, hb, hml, hown, hts⟩ (t_Mo_cut_s l hst6 0 b1 ls1 hn_b16 (Nat.zero_le _)) (zcV 2 hts w_1467 w_1469 wp_38 w_30 w_1470 (by decide +kernel) ⟨Nat.le_of_ble_eq_true rfl, Nat.le_of_ble_eq_true rfl⟩) (zc_preV hbase hK hN hQ hG hS ra6 rfl) rfl rfl hl.1 rfl (lv_room (Nat.le_of_ble_eq_true rfl)) d_Mo_link_54 ⟨(by dsimp only; omega), (by dsimp only; omega)⟩) hS (fun r54 G54 H locs hp54 hG hS => ?_)
          have hG : zP E Gv H := hp54.2 ▸ hG
          have hzc : zb r54 (zcut lo rs (ls1.drop 0)) := hp54.1
          refine lv_istore (lv' := [(4, .int r54), (0, .ref a), (1, .ref b1), (2, .int (nI (rPw Wz))), (3, .ref (rN (re rs j9)))]) hx hb d_Mo_link_57 hl (by decide) rfl (fun ls hl => ?_)
          refine lv_iconst (v := -1) hx hb d_Mo_link_59 (by decide) ?_
          refine zi_as (y := wI 0) (by decide) ?_
          refine lv_istore (lv' := [(5, .int (wI 0)), (4, .int r54), (0, .ref a), (1, .ref b1), (2, .int (nI (rPw Wz))), (3, .ref (rN (re rs j9)))]) hx hb d_Mo_link_60 hl (by decide) rfl (fun ls hl => ?_)
          refine lv_iconst (v := 0) hx hb d_Mo_link_62 (by decide) ?_
          refine zi_as (y := nI 0) (nI_0.symm) ?_
          refine lv_istore (lv' := [(6, .int (nI 0)), (5, .int (wI 0)), (4, .int r54), (0, .ref a), (1, .ref b1), (2, .int (nI (rPw Wz))), (3, .ref (rN (re rs j9)))]) hx hb d_Mo_link_63 hl (by decide) rfl (fun ls hl => ?_)
          refine lv_aload_n hx hb d_Mo_link_65 rfl (lv_at hl 3 rfl) ?_
          refine lv_aload_n hx hb d_Mo_link_66 rfl (lv_at hl 4 rfl) ?_
          refine lv_iconst (v := 0) hx hb d_Mo_link_67 (by decide) ?_
          refine lv_iload hx hb d_Mo_link_68 (lv_at hl 2 rfl) ?_
          have hGo70 := hG
          refine zk_i (va_runV (As := [.ref b1, .int 0, .int r54]) (rest := []) ⟨hx, hb, hml, hown, hts⟩ (t_Mo_next_s l hst6 (zcut lo rs (ls1.drop 0)) 0 r54 hzc b1 ls1 hn_b16) (zcV 3 hts w_1520 w_1522 wp_48 w_30 w_1523 (by decide +kernel) ⟨Nat.le_of_ble_eq_true rfl, Nat.le_of_ble_eq_true rfl⟩) (zc_preV hbase hK hN hQ hG hS ra6 rfl) rfl rfl hl.1 rfl (lv_room (Nat.le_of_ble_eq_true rfl)) d_Mo_link_70 ⟨(by dsimp only; omega), (by dsimp only; omega)⟩) hS (fun r70 G70 H locs hp70 hG hS => ?_)
          have hG : zP E Gv H := hp70.2 ▸ hG
          obtain ⟨tn0, htn0, etn0⟩ : ∃ t9, t9 < 65536 ∧ r70 = nI t9 := rNx_nat hgd hp70.1
          refine zi_as (y := nI tn0) etn0 ?_
          have hnxx0 : rNx (rTy rs ls1 (zcut lo rs (ls1.drop 0)) rs.length) (nI 0) (nI tn0) := by rw [← etn0]; exact hp70.1
          refine lv_istore (lv' := [(7, .int (nI tn0)), (6, .int (nI 0)), (5, .int (wI 0)), (4, .int r54), (0, .ref a), (1, .ref b1), (2, .int (nI (rPw Wz))), (3, .ref (rN (re rs j9)))]) hx hb d_Mo_link_73 hl (by decide) rfl (fun ls hl => ?_)
          have loop75 : ∀ (N : Nat) (Gw : zg_G) (T : List Nat) (u : Nat) (tw : Nat) (sa : Nat) (ro7 : zRo) (H : Heap) (locs : List Loc), (65536 - u) < N → (rTp (rTy rs ls1 (zcut lo rs (ls1.drop 0)) rs.length) u T) → (u < 65536) → (tw < 65536) → (rNx (rTy rs ls1 (zcut lo rs (ls1.drop 0)) rs.length) (nI u) (nI tw)) → ((wws T) = ([], 0, 0) ∨ rWi (wws T) u) → (0 < (wws T).2.1 → sa = rPw Wz + ((np_enc (rM (re rs j9))).length + (wws T).2.2)) → (rSt E Gw ro7 a c1 c2 lo rs Wz (np_enc (rM (re rs j9)) ++ (wws T).1) True (wln Wz, 2, ls1, wp) th tp co se v19 v20) → (zfr ro zKr G ro7 Gw) → zP E Gw H → zg_S (zc_b E) s.heap H locs → ∀ (ls : Array Slot), lv_has ls 8 [(0, .ref a), (1, .ref b1), (2, .int (nI (rPw Wz))), (4, .int r54), (5, .int (wI (wws T).2.1)), (6, .int (nI sa)), (7, .int (nI tw))] → W p l e (rm_Mo_link (rPi c1 c2 (vpr (rVf rs) lo true Wz ls1) 0 - rPi c1 c2 Wz 0) (rPi c1 c2 (vpr (rVf rs) lo true Wz ls1) 0 - rPi c1 c2 Wz 0)) s m args below meth c H locs (2 * (rcp c2 (rPw Wz + (np_enc (rM (re rs j9)) ++ (wws T).1).length) - rcp c2 (rPw Wz))) (2 * (rcp c2 (rPw Wz + (np_enc (rM (re rs j9)) ++ (wws T).1).length) - rcp c2 (rPw Wz))) Q (F0 m 75 ls []) := by
            intro N
            induction N with
            | zero =>
              intro Gw T u tw sa ro7 H locs hlt
              exact absurd hlt (Nat.not_lt_zero _)
            | succ N ih =>
              intro Gw T u tw sa ro7 H locs hlt hT hu htw hnx8 hwv hsa hst7 hf7 hG hS ls hl
              have ih75 := ih
              obtain ⟨h7, eh07, eh17, eh27, hc7⟩ := id hst7
              obtain ⟨ra7, rb7, ⟨fm7, rt17, rt27, rt37, rt47⟩, rtl7, ⟨fo7, rn17, rn27, rn37, rn47, rn57⟩, rr7, rg7, ras7⟩ := id hc7
              rw [eh07] at ra7
              obtain ⟨⟨fr7, rm47, hfr7⟩, hn27, hRs7⟩ := id rr7.1
              have hn_b17 := hn1.fr hf7 zKr_0
              obtain ⟨f_b17, n1_b17, n2_b17, n3_b17, n4_b17, n5_b17⟩ := id hn_b17
              have sm_b17 := n3_b17.2
              obtain ⟨ws7, an7, pl7, ff7, fp7, pa17, pa27, pa37, pa47, -, -, -, -, ⟨y17, y27, y37, y47, y57, y67⟩, -⟩ := id ras7
              rw [eh27] at y17 y37
              have hge7 := (rcp_ge hc2 (rPw Wz + (np_enc (rM (re rs j9)) ++ (wws T).1).length)).1
              have hwl2 := rTp_pre hgd hna hT
              have hpl7 : (np_enc (rM (re rs j9)) ++ (wws T).1).length = (np_enc (rM (re rs j9))).length + (wws T).1.length := List.length_append
              refine lv_iload hx hb d_Mo_link_75 (lv_at hl 6 rfl) ?_
              refine lv_if_le (tgt := 193) hx hb d_Mo_link_77 (by decide) (fun c77 => ?_) (fun c77 => ?_)
              · have b77 : tw ≤ 0 := (nI_leI (a := tw) (b := 0) (by omega) (by omega)).mp c77
                have htz : tw = 0 := by omega
                have hn09 : rNx (rTy rs ls1 (zcut lo rs (ls1.drop 0)) rs.length) (nI u) 0 := by have q := hnx8; rw [htz] at q; exact q
                have hvty := rvty hgd hna hT hu hn09
                have hvlk : vlk (rVf rs) lo ls1 = np_enc (rM (re rs j9)) ++ (wws T).1 := by rw [hvl, hvty]
                have hlv9 : (np_enc (rM (re rs j9)) ++ (wws T).1).length = (vlk (rVf rs) lo ls1).length := by rw [hvlk]
                have hrc9 : rcp c2 (rPw Wz + (np_enc (rM (re rs j9)) ++ (wws T).1).length) = rcp c2 (rPw Wz + (vlk (rVf rs) lo ls1).length) := by rw [hlv9]
                refine lv_aload_n hx hb d_Mo_link_193 rfl (lv_at hl 0 rfl) ?_
                refine lv_iconst (v := 2) hx hb d_Mo_link_194 (by decide) ?_
                refine lv_aload_n hx hb d_Mo_link_195 rfl (lv_at hl 1 rfl) ?_
                refine lv_bipush (v := 47) hx hb d_Mo_link_196 (by decide) ?_
                refine lv_aload_n hx hb d_Mo_link_198 rfl (lv_at hl 0 rfl) ?_
                have hGo199 := hG
                refine zk_i (va_runV (As := []) (rest := [.int 47, .ref b1, .int 2, .ref a]) ⟨hx, hb, hml, hown, hts⟩ (t_Mo_linkTime_s l hst7) (zcV 0 hts w_1524 w_1526 wp_49 w_30 w_1527 (by decide +kernel) ⟨Nat.le_of_ble_eq_true rfl, Nat.le_of_ble_eq_true rfl⟩) (zc_preV hbase hK hN hQ hG hS ra7 rfl) rfl rfl hl.1 rfl (lv_room (Nat.le_of_ble_eq_true rfl)) d_Mo_link_199 ⟨(by dsimp only; omega), (by dsimp only; omega)⟩) hS (fun r199 G199 H locs hp199 hG hS => ?_)
                have hG : zP E Gw H := hp199.2 ▸ hG
                refine zi_as (y := vlt (rVf rs) lo) hp199.1 ?_
                refine lv_null hx hb d_Mo_link_202 ?_
                refine lv_iload_n hx hb d_Mo_link_203 rfl (lv_at hl 2 rfl) ?_
                refine lv_aload_n hx hb d_Mo_link_204 rfl (lv_at hl 0 rfl) ?_
                refine zg_get (ci := 11) (C := "ZoneAnswersModel") (T := T_Mo) (N := 21) hx hb hts zi_Mo hown hK hG ra7 rfl 16 (by decide) (hts _ w_1297) (fun _ h9 => h9) rfl d_Mo_link_205 ?_
                refine lv_iload_n hx hb d_Mo_link_208 rfl (lv_at hl 2 rfl) ?_
                refine lv_isub hx hb d_Mo_link_209 ?_
                refine zi_as (y := nI (np_enc (rM (re rs j9)) ++ (wws T).1).length) (by rw [zi_sub (by omega), Nat.add_sub_cancel_left]) ?_
                have hGo210 := hG
                refine zk_v (va_runV (As := [.int 2, .ref b1, .int 47, .int (vlt (rVf rs) lo), .null, .int (nI (rPw Wz)), .int (nI (np_enc (rM (re rs j9)) ++ (wws T).1).length)]) (rest := []) ⟨hx, hb, hml, hown, hts⟩ (t_Mo_add_t l hst7 hB b1 ls1 hn_b17 (vlt (rVf rs) lo) (fun _ => ⟨rfl, rfl⟩)) (zcV 7 hts w_1479 w_1481 wp_41 w_30 w_1482 (by decide +kernel) ⟨Nat.le_of_ble_eq_true rfl, Nat.le_of_ble_eq_true rfl⟩) (zc_preV hbase hK hN hQ hG hS ra7 rfl) rfl rfl hl.1 rfl (lv_room (Nat.le_of_ble_eq_true rfl)) d_Mo_link_210 ⟨(by dsimp only; omega), (by dsimp only; omega)⟩) hS (fun G210 H locs hp210 hG hS => ?_)
                obtain ⟨roy, hsty, hfy⟩ := hp210
                have hsty := hsty.lift trivial (Or.inl (by show (2 : Int32) ≠ 1; decide)) 0 []
                rw [← hvlk, ← hvpr] at hsty
                have hfy := hf7.tr hfy
                exact hret _ _ _ _ _ _ _ (⟨roy, hsty, hfy⟩) hG hS (by dsimp only; omega) (by dsimp only; omega) d_Mo_link_213
              · have b77 : ¬ tw ≤ 0 := fun q => c77 ((nI_leI (a := tw) (b := 0) (by omega) (by omega)).mpr q)
                have htw0 : 0 < tw := by omega
                have hTn := rTp_s hT htw hu hnx8 htw0
                have hwl3 := rTp_pre hgd hna hTn
                rw [wws_snoc] at hwl3
                have hutw : u < tw := by
                  rcases hnx8 with ⟨e9, -⟩ | ⟨-, -, e9, -⟩
                  · have := (nI_z (n := tw) (by omega)).mp e9; omega
                  · exact (nI_ltI (a := u) (b := tw) (by omega) (by omega)).mp e9
                have hwc0 : (wws T) = ([], 0, 0) ∨ (rWi (wws T) u ∧ u < tw) := hwv.elim Or.inl (fun z => Or.inr ⟨z, hutw⟩)
                obtain ⟨k0, hk01, hk02, hk03, hk04⟩ := wst_c0 hwc0
                have hwln := wst_len (wws T) tw
                have hmd : tw % 256 / 8 ≤ 31 := by omega
                have hw300 : (wws T).2.1 ≤ 300 := by
                  rcases hwv with z | z
                  · rw [z]; exact Nat.zero_le _
                  · have := z.1.2.1; omega
                have hP3 : np_enc (rM (re rs j9)) ++ (wpad (wpr (wws T) tw).1 ((wpr (wws T) tw).2 + 1 + k0)).set (wpr (wws T) tw).2 (wsz k0) = np_enc (rM (re rs j9)) ++ (wpr (wws T) tw).1 := by rw [wpad_0 hk01, set_slf (by omega) hk03]
                refine lv_iload hx hb d_Mo_link_80 (lv_at hl 6 rfl) ?_
                refine lv_bipush (v := 8) hx hb d_Mo_link_82 (by decide) ?_
                refine lv_ishr hx hb d_Mo_link_84 ?_
                refine zi_as (y := nI (tw / 256)) (pk_shrN (by omega) (8 &&& 31) 8 (by decide)) ?_
                refine lv_iload hx hb d_Mo_link_85 (lv_at hl 4 rfl) ?_
                refine lv_icmp_eq (tgt := 116) hx hb d_Mo_link_87 (by decide) (fun c87 => ?_) (fun c87 => ?_)
                · have hwin : (wws T).2.1 = tw / 256 + 1 := (wI_eq hw300 (by omega)).mp c87
                  have hpr : wpr (wws T) tw = ((wws T).1, (wws T).2.2) := if_pos hwin
                  have loop116 : ∀ (N : Nat) (Gx : zg_G) (kc : Nat) (ro5 : zRo) (H : Heap) (locs : List Loc), (tw % 256 / 8 + 1 - kc) < N → (k0 ≤ kc) → (kc ≤ tw % 256 / 8 + 1) → (rSt E Gx ro5 a c1 c2 lo rs Wz (np_enc (rM (re rs j9)) ++ (wpad (wpr (wws T) tw).1 ((wpr (wws T) tw).2 + 1 + kc)).set (wpr (wws T) tw).2 (wsz kc)) True (wln Wz, 2, ls1, wp) th tp co se v19 v20) → (zfr ro zKr G ro5 Gx) → zP E Gx H → zg_S (zc_b E) s.heap H locs → ∀ (ls : Array Slot), lv_has ls 8 [(0, .ref a), (1, .ref b1), (2, .int (nI (rPw Wz))), (4, .int r54), (5, .int (nI (tw / 256))), (6, .int (nI (rPw Wz + ((np_enc (rM (re rs j9))).length + (wpr (wws T) tw).2)))), (7, .int (nI tw))] → W p l e (rm_Mo_link (rPi c1 c2 (vpr (rVf rs) lo true Wz ls1) 0 - rPi c1 c2 Wz 0) (rPi c1 c2 (vpr (rVf rs) lo true Wz ls1) 0 - rPi c1 c2 Wz 0)) s m args below meth c H locs (2 * (rcp c2 (rPw Wz + (np_enc (rM (re rs j9)) ++ (wpad (wpr (wws T) tw).1 ((wpr (wws T) tw).2 + 1 + kc)).set (wpr (wws T) tw).2 (wsz kc)).length) - rcp c2 (rPw Wz))) (2 * (rcp c2 (rPw Wz + (np_enc (rM (re rs j9)) ++ (wpad (wpr (wws T) tw).1 ((wpr (wws T) tw).2 + 1 + kc)).set (wpr (wws T) tw).2 (wsz kc)).length) - rcp c2 (rPw Wz))) Q (F0 m 116 ls []) := by
                    intro N
                    induction N with
                    | zero =>
                      intro Gx kc ro5 H locs hlt
                      exact absurd hlt (Nat.not_lt_zero _)
                    | succ N ih =>
                      intro Gx kc ro5 H locs hlt hk1 hk2 hst5 hf5 hG hS ls hl
                      have hpx5 : (np_enc (rM (re rs j9)) ++ (wpad (wpr (wws T) tw).1 ((wpr (wws T) tw).2 + 1 + kc)).set (wpr (wws T) tw).2 (wsz kc)).length = (np_enc (rM (re rs j9))).length + ((wpr (wws T) tw).2 + 1 + kc) := by rw [List.length_append, List.length_set, wpad_len]; omega
                      have hLv5 : (np_enc (rM (re rs j9)) ++ (wpad (wpr (wws T) tw).1 ((wpr (wws T) tw).2 + 1 + kc)).set (wpr (wws T) tw).2 (wsz kc)).length ≤ (vlk (rVf rs) lo ls1).length := by omega
                      obtain ⟨h5, eh05, eh15, eh25, hc5⟩ := id hst5
                      obtain ⟨ra5, rb5, ⟨fm5, rt15, rt25, rt35, rt45⟩, rtl5, ⟨fo5, rn15, rn25, rn35, rn45, rn55⟩, rr5, rg5, ras5⟩ := id hc5
                      rw [eh05] at ra5
                      obtain ⟨⟨fr5, rm45, hfr5⟩, hn25, hRs5⟩ := id rr5.1
                      have hn_b15 := hn1.fr hf5 zKr_0
                      obtain ⟨f_b15, n1_b15, n2_b15, n3_b15, n4_b15, n5_b15⟩ := id hn_b15
                      have sm_b15 := n3_b15.2
                      obtain ⟨ws5, an5, pl5, ff5, fp5, pa15, pa25, pa35, pa45, -, -, -, -, ⟨y15, y25, y35, y45, y55, y65⟩, -⟩ := id ras5
                      rw [eh25] at y15 y35
                      have hge5 := (rcp_ge hc2 (rPw Wz + (np_enc (rM (re rs j9)) ++ (wpad (wpr (wws T) tw).1 ((wpr (wws T) tw).2 + 1 + kc)).set (wpr (wws T) tw).2 (wsz kc)).length)).1
                      have hv5 : fp5 (rPw Wz + ((np_enc (rM (re rs j9))).length + (wpr (wws T) tw).2)) = nI kc := by
                        rw [y45 _ (by omega), ← pa45, getD_apr, getD_apr, getD_set (by rw [wpad_len]; omega), upd_s, wsz_n (by omega)]
                      have hv6 : fp5 (rPw Wz + ((np_enc (rM (re rs j9))).length + ((wpr (wws T) tw).2 + 1 + tw % 256 / 8))) = ((wpad (wpr (wws T) tw).1 ((wpr (wws T) tw).2 + 1 + kc)).set (wpr (wws T) tw).2 (wsz kc)).getD ((wpr (wws T) tw).2 + 1 + tw % 256 / 8) 0 ∨ kc ≤ tw % 256 / 8 := by
                        rcases Nat.lt_or_ge (tw % 256 / 8) kc with z | z
                        · refine Or.inl ?_
                          rw [y45 _ (by omega), ← pa45, getD_apr, getD_apr]
                        · exact Or.inr z
                      refine lv_aload_n hx hb d_Mo_link_116 rfl (lv_at hl 0 rfl) ?_
                      refine zg_get (ci := 11) (C := "ZoneAnswersModel") (T := T_Mo) (N := 21) hx hb hts zi_Mo hown hK hG ra5 rfl 15 (by decide) (hts _ w_1296) (fun _ h9 => h9) rfl d_Mo_link_117 ?_
                      refine lv_iload hx hb d_Mo_link_120 (lv_at hl 5 rfl) ?_
                      refine zg_bald hx hb hK hG 0 y15 rfl (vp_in_nI (by omega) (by omega)) d_Mo_link_122 ?_
                      refine zi_as (y := nI kc) (by rw [zi_n _ (by omega)]; exact hv5) ?_
                      refine lv_iload hx hb d_Mo_link_123 (lv_at hl 6 rfl) ?_
                      refine lv_sipush (v := 255) hx hb d_Mo_link_125 (by decide) ?_
                      refine lv_iand hx hb d_Mo_link_128 ?_
                      refine zi_as (y := nI (tw % 256)) (pk_andN (by omega) 8 (by decide)) ?_
                      refine lv_iconst (v := 3) hx hb d_Mo_link_129 (by decide) ?_
                      refine lv_ishr hx hb d_Mo_link_130 ?_
                      refine zi_as (y := nI (tw % 256 / 8)) (pk_shrN (by omega) (3 &&& 31) 3 (by decide)) ?_
                      refine lv_icmp_gt (tgt := 154) hx hb d_Mo_link_131 (by decide) (fun c131 => ?_) (fun c131 => ?_)
                      · have b131 : (tw % 256 / 8) < kc := (nI_ltI (a := (tw % 256 / 8)) (b := kc) (by omega) (by omega)).mp c131
                        refine lv_aload_n hx hb d_Mo_link_154 rfl (lv_at hl 0 rfl) ?_
                        refine zg_get (ci := 11) (C := "ZoneAnswersModel") (T := T_Mo) (N := 21) hx hb hts zi_Mo hown hK hG ra5 rfl 15 (by decide) (hts _ w_1296) (fun _ h9 => h9) rfl d_Mo_link_155 ?_
                        refine lv_aload_n hx hb d_Mo_link_158 rfl (lv_at hl 0 rfl) ?_
                        refine zg_get (ci := 11) (C := "ZoneAnswersModel") (T := T_Mo) (N := 21) hx hb hts zi_Mo hown hK hG ra5 rfl 16 (by decide) (hts _ w_1297) (fun _ h9 => h9) rfl d_Mo_link_159 ?_
                        refine lv_iconst (v := 1) hx hb d_Mo_link_162 (by decide) ?_
                        refine lv_isub hx hb d_Mo_link_163 ?_
                        refine zi_as (y := nI (rPw Wz + ((np_enc (rM (re rs j9))).length + ((wpr (wws T) tw).2 + 1 + tw % 256 / 8)))) (nI_m1 (by rw [hpx5]; omega)) ?_
                        refine lv_dup2_11 hx hb d_Mo_link_164 rfl rfl ?_
                        refine zg_bald hx hb hK hG 0 y15 rfl (vp_in_nI (by omega) (by omega)) d_Mo_link_165 ?_
                        refine zi_as (y := ((wpad (wpr (wws T) tw).1 ((wpr (wws T) tw).2 + 1 + kc)).set (wpr (wws T) tw).2 (wsz kc)).getD ((wpr (wws T) tw).2 + 1 + tw % 256 / 8) 0) (by rw [zi_n _ (by omega)]; exact hv6.resolve_right (by omega)) ?_
                        refine lv_sipush (v := 128) hx hb d_Mo_link_166 (by decide) ?_
                        refine lv_iload hx hb d_Mo_link_169 (lv_at hl 6 rfl) ?_
                        refine lv_bipush (v := 7) hx hb d_Mo_link_171 (by decide) ?_
                        refine lv_iand hx hb d_Mo_link_173 ?_
                        refine zi_as (y := nI (tw % 8)) (pk_andN (by omega) 3 (by decide)) ?_
                        refine lv_ishr hx hb d_Mo_link_174 ?_
                        refine lv_i2b hx hb d_Mo_link_175 rfl ?_
                        refine lv_ior hx hb d_Mo_link_176 ?_
                        refine lv_i2b hx hb d_Mo_link_177 rfl ?_
                        refine zg_bast hx hb hK hG hS 0 y15 rfl (vp_in_nI (by omega) (by omega)) d_Mo_link_178 (fun H locs hG hS => ?_)
                        rw [zi_n (rPw Wz + ((np_enc (rM (re rs j9))).length + ((wpr (wws T) tw).2 + 1 + tw % 256 / 8))) (by omega)] at hG
                        obtain ⟨G1, eG1⟩ : ∃ z : zg_G, z = zg_up Gx (h5 15) (.inl (E.2.1 0, rcp c2 (rPw Wz + (np_enc (rM (re rs j9)) ++ (wpad (wpr (wws T) tw).1 ((wpr (wws T) tw).2 + 1 + kc)).set (wpr (wws T) tw).2 (wsz kc)).length), .inl (upd fp5 (rPw Wz + ((np_enc (rM (re rs j9))).length + ((wpr (wws T) tw).2 + 1 + tw % 256 / 8))) (vp_nar .byte (((((wpad (wpr (wws T) tw).1 ((wpr (wws T) tw).2 + 1 + kc)).set (wpr (wws T) tw).2 (wsz kc)).getD ((wpr (wws T) tw).2 + 1 + tw % 256 / 8) 0) ||| ((128 >>> ((nI (tw % 8)) &&& 31)).toInt8.toInt32)).toInt8.toInt32))))) := ⟨_, rfl⟩
                        have hG : zP E G1 H := by rw [eG1]; exact hG
                        have k2 : G1 (h5 15) = some (.inl (E.2.1 0, rcp c2 (rPw Wz + (np_enc (rM (re rs j9)) ++ (wpad (wpr (wws T) tw).1 ((wpr (wws T) tw).2 + 1 + kc)).set (wpr (wws T) tw).2 (wsz kc)).length), .inl (upd fp5 (rPw Wz + ((np_enc (rM (re rs j9))).length + ((wpr (wws T) tw).2 + 1 + tw % 256 / 8))) (vp_nar .byte (((((wpad (wpr (wws T) tw).1 ((wpr (wws T) tw).2 + 1 + kc)).set (wpr (wws T) tw).2 (wsz kc)).getD ((wpr (wws T) tw).2 + 1 + tw % 256 / 8) 0) ||| ((128 >>> ((nI (tw % 8)) &&& 31)).toInt8.toInt32)).toInt8.toInt32))))) := by rw [eG1]; exact zg_up_self _ _ _
                        have hkm : kc = tw % 256 / 8 + 1 := by omega
                        have hkz : (wpr (wws T) tw).2 + 1 + kc = (wpr (wws T) tw).2 + 2 + tw % 256 / 8 := by omega
                        obtain ⟨roz, hstz, hfk5⟩ := rCx.poke hc5 y15 ((np_enc (rM (re rs j9))).length + ((wpr (wws T) tw).2 + 1 + tw % 256 / 8)) (by omega) (vp_nar .byte (((wpad (wpr (wws T) tw).1 ((wpr (wws T) tw).2 + 1 + kc)).set (wpr (wws T) tw).2 (wsz kc)).getD ((wpr (wws T) tw).2 + 1 + tw % 256 / 8) 0 ||| ((128 : Int32) >>> (nI (tw % 8) &&& 31)).toInt8.toInt32).toInt8.toInt32) (fit_v _)
                        rw [eh05, eh15, eh25, ← eG1] at hstz
                        rw [← eG1] at hfk5
                        have hstz : rSt E G1 roz a c1 c2 lo rs Wz (np_enc (rM (re rs j9)) ++ (wws (T ++ [tw])).1) True (wln Wz, 2, ls1, wp) th tp co se v19 v20 := by rw [show np_enc (rM (re rs j9)) ++ (wws (T ++ [tw])).1 = (np_enc (rM (re rs j9)) ++ (wpad (wpr (wws T) tw).1 ((wpr (wws T) tw).2 + 1 + kc)).set (wpr (wws T) tw).2 (wsz kc)).set ((np_enc (rM (re rs j9))).length + ((wpr (wws T) tw).2 + 1 + tw % 256 / 8)) (vp_nar .byte (((wpad (wpr (wws T) tw).1 ((wpr (wws T) tw).2 + 1 + kc)).set (wpr (wws T) tw).2 (wsz kc)).getD ((wpr (wws T) tw).2 + 1 + tw % 256 / 8) 0 ||| ((128 : Int32) >>> (nI (tw % 8) &&& 31)).toInt8.toInt32).toInt8.toInt32) from by rw [set_app, wws_snoc, hkz, hkm]; rfl]; exact hstz
                        have hfz : zfr ro zKr G roz G1 := hf5.tr hfk5
                        have hlz : (np_enc (rM (re rs j9)) ++ (wws (T ++ [tw])).1).length = (np_enc (rM (re rs j9)) ++ (wpad (wpr (wws T) tw).1 ((wpr (wws T) tw).2 + 1 + kc)).set (wpr (wws T) tw).2 (wsz kc)).length := by rw [List.length_append, wws_snoc, hwln, hpx5]; omega
                        refine zW_more (cells2 := 2 * (rcp c2 (rPw Wz + (np_enc (rM (re rs j9)) ++ (wws (T ++ [tw])).1).length) - rcp c2 (rPw Wz))) (slots2 := 2 * (rcp c2 (rPw Wz + (np_enc (rM (re rs j9)) ++ (wws (T ++ [tw])).1).length) - rcp c2 (rPw Wz))) (by rw [hlz]; exact Nat.le_refl _) (by rw [hlz]; exact Nat.le_refl _) ?_
                        have hmZ : rcp c2 (rPw Wz + (np_enc (rM (re rs j9)) ++ (wws (T ++ [tw])).1).length) ≤ rcp c2 (rPw Wz + (vlk (rVf rs) lo ls1).length) := rcp_mono2 hc2 (by rw [hlz]; omega)
                        obtain ⟨hz, eh0z, eh1z, eh2z, hcz⟩ := id hstz
                        obtain ⟨raz, rbz, ⟨fmz, rt1z, rt2z, rt3z, rt4z⟩, rtlz, ⟨foz, rn1z, rn2z, rn3z, rn4z, rn5z⟩, rrz, rgz, rasz⟩ := id hcz
                        rw [eh0z] at raz
                        obtain ⟨⟨frz, rm4z, hfrz⟩, hn2z, hRsz⟩ := id rrz.1
                        have hn_b1z := hn1.fr hfz zKr_0
                        obtain ⟨f_b1z, n1_b1z, n2_b1z, n3_b1z, n4_b1z, n5_b1z⟩ := id hn_b1z
                        have sm_b1z := n3_b1z.2
                        obtain ⟨wsz, anz, plz, ffz, fpz, pa1z, pa2z, pa3z, pa4z, -, -, -, -, ⟨y1z, y2z, y3z, y4z, y5z, y6z⟩, -⟩ := id rasz
                        rw [eh2z] at y1z y3z
                        have hgez := (rcp_ge hc2 (rPw Wz + (np_enc (rM (re rs j9)) ++ (wws (T ++ [tw])).1).length)).1
                        refine lv_aload_n hx hb d_Mo_link_179 rfl (lv_at hl 0 rfl) ?_
                        refine lv_aload_n hx hb d_Mo_link_180 rfl (lv_at hl 1 rfl) ?_
                        refine lv_iload hx hb d_Mo_link_181 (lv_at hl 6 rfl) ?_
                        refine lv_iload hx hb d_Mo_link_183 (lv_at hl 3 rfl) ?_
                        have hGo185 := hG
                        refine zk_i (va_runV (As := [.ref b1, .int (nI tw), .int r54]) (rest := []) ⟨hx, hb, hml, hown, hts⟩ (t_Mo_next_s l hstz (zcut lo rs (ls1.drop 0)) (nI tw) r54 hzc b1 ls1 hn_b1z) (zcV 3 hts w_1520 w_1522 wp_48 w_30 w_1523 (by decide +kernel) ⟨Nat.le_of_ble_eq_true rfl, Nat.le_of_ble_eq_true rfl⟩) (zc_preV hbase hK hN hQ hG hS raz rfl) rfl rfl hl.1 rfl (lv_room (Nat.le_of_ble_eq_true rfl)) d_Mo_link_185 ⟨(by dsimp only; omega), (by dsimp only; omega)⟩) hS (fun r185 G185 H locs hp185 hG hS => ?_)
                        have hG : zP E G1 H := hp185.2 ▸ hG
                        obtain ⟨tn1, htn1, etn1⟩ : ∃ t9, t9 < 65536 ∧ r185 = nI t9 := rNx_nat hgd hp185.1
                        refine zi_as (y := nI tn1) etn1 ?_
                        have hnxx1 : rNx (rTy rs ls1 (zcut lo rs (ls1.drop 0)) rs.length) (nI tw) (nI tn1) := by rw [← etn1]; exact hp185.1
                        refine lv_istore (lv' := [(7, .int (nI tn1)), (0, .ref a), (1, .ref b1), (2, .int (nI (rPw Wz))), (4, .int r54), (5, .int (nI (tw / 256))), (6, .int (nI (rPw Wz + ((np_enc (rM (re rs j9))).length + (wpr (wws T) tw).2))))]) hx hb d_Mo_link_188 hl (by decide) rfl (fun ls hl => ?_)
                        refine lv_goto (tgt := 75) hx hb d_Mo_link_190 (by decide) ?_
                        have hwI9 : nI (tw / 256) = wI (wws (T ++ [tw])).2.1 := by rw [wws_snoc]; exact (wI_eq (w := tw / 256 + 1) (by omega) (by omega)).mpr rfl
                        rw [hwI9] at hl
                        exact ih75 G1 (T ++ [tw]) tw tn1 (rPw Wz + ((np_enc (rM (re rs j9))).length + (wpr (wws T) tw).2)) roz _ _ (by omega) (hTn) (htw) (htn1) (hnxx1) (Or.inr (by rw [wws_snoc]; exact rWi_s hwc0)) (fun _ => by rw [wws_snoc]; rfl) (hstz) (hfz) hG hS ls (lv_sub hl [1, 2, 3, 4, 5, 6, 0] rfl)
                      · have b131 : ¬ (tw % 256 / 8) < kc := fun q => c131 ((nI_ltI (a := (tw % 256 / 8)) (b := kc) (by omega) (by omega)).mpr q)
                        refine lv_aload_n hx hb d_Mo_link_134 rfl (lv_at hl 0 rfl) ?_
                        refine lv_iconst (v := 0) hx hb d_Mo_link_135 (by decide) ?_
                        have hld : (np_enc (rM (re rs j9)) ++ (wpad (wpr (wws T) tw).1 ((wpr (wws T) tw).2 + 1 + (kc + 1))).set (wpr (wws T) tw).2 (wsz kc)).length = (np_enc (rM (re rs j9)) ++ (wpad (wpr (wws T) tw).1 ((wpr (wws T) tw).2 + 1 + kc)).set (wpr (wws T) tw).2 (wsz kc)).length + 1 := by rw [List.length_append, List.length_set, wpad_len]; rw [List.length_append, List.length_set, wpad_len]; omega
                        have hrsd : rcp c2 (rPw Wz + (np_enc (rM (re rs j9)) ++ (wpad (wpr (wws T) tw).1 ((wpr (wws T) tw).2 + 1 + (kc + 1))).set (wpr (wws T) tw).2 (wsz kc)).length) = rcp c2 (rPw Wz + (np_enc (rM (re rs j9)) ++ (wpad (wpr (wws T) tw).1 ((wpr (wws T) tw).2 + 1 + kc)).set (wpr (wws T) tw).2 (wsz kc)).length + 1) := by rw [hld]; rfl
                        have hm0d : rcp c2 (rPw Wz) ≤ rcp c2 (rPw Wz + (np_enc (rM (re rs j9)) ++ (wpad (wpr (wws T) tw).1 ((wpr (wws T) tw).2 + 1 + kc)).set (wpr (wws T) tw).2 (wsz kc)).length) := rcp_mono2 hc2 (Nat.le_add_right _ _)
                        have hm1d : rcp c2 (rPw Wz + (np_enc (rM (re rs j9)) ++ (wpad (wpr (wws T) tw).1 ((wpr (wws T) tw).2 + 1 + kc)).set (wpr (wws T) tw).2 (wsz kc)).length) ≤ rcp c2 (rPw Wz + (np_enc (rM (re rs j9)) ++ (wpad (wpr (wws T) tw).1 ((wpr (wws T) tw).2 + 1 + kc)).set (wpr (wws T) tw).2 (wsz kc)).length + 1) := rcp_mono hc2 _
                        have hLvd : (np_enc (rM (re rs j9)) ++ (wpad (wpr (wws T) tw).1 ((wpr (wws T) tw).2 + 1 + kc)).set (wpr (wws T) tw).2 (wsz kc)).length + 1 ≤ (vlk (rVf rs) lo ls1).length := by omega
                        have hm2d : rcp c2 (rPw Wz + (np_enc (rM (re rs j9)) ++ (wpad (wpr (wws T) tw).1 ((wpr (wws T) tw).2 + 1 + kc)).set (wpr (wws T) tw).2 (wsz kc)).length + 1) ≤ rcp c2 (rPw Wz + (vlk (rVf rs) lo ls1).length) := rcp_mono2 hc2 (by omega)
                        have hGo136 := hG
                        refine zk_v (va_runV (As := [.int 0]) (rest := []) ⟨hx, hb, hml, hown, hts⟩ (t_Mo_pool_s l hst5 (0 : Int32) (Nat.le_trans hm2d hbM)) (zcV 1 hts w_1516 w_1518 wp_47 w_30 w_1519 (by decide +kernel) ⟨Nat.le_of_ble_eq_true rfl, Nat.le_of_ble_eq_true rfl⟩) (zc_preV hbase hK hN hQ hG hS ra5 rfl) rfl rfl hl.1 rfl (lv_room (Nat.le_of_ble_eq_true rfl)) d_Mo_link_136 ⟨(by dsimp only; omega), (by dsimp only; omega)⟩) hS (fun G136 H locs hp136 hG hS => ?_)
                        obtain ⟨ropd, hstpd, hfpd⟩ := hp136
                        have hstpd : rSt E G136 ropd a c1 c2 lo rs Wz (np_enc (rM (re rs j9)) ++ (wpad (wpr (wws T) tw).1 ((wpr (wws T) tw).2 + 1 + (kc + 1))).set (wpr (wws T) tw).2 (wsz kc)) True (wln Wz, 2, ls1, wp) th tp co se v19 v20 := by rw [show np_enc (rM (re rs j9)) ++ (wpad (wpr (wws T) tw).1 ((wpr (wws T) tw).2 + 1 + (kc + 1))).set (wpr (wws T) tw).2 (wsz kc) = (np_enc (rM (re rs j9)) ++ (wpad (wpr (wws T) tw).1 ((wpr (wws T) tw).2 + 1 + kc)).set (wpr (wws T) tw).2 (wsz kc)) ++ [(0 : Int32).toInt8.toInt32] from by rw [show ((0 : Int32).toInt8.toInt32) = 0 from by decide, List.append_assoc, wpad_s (by omega) (by omega)]; rfl]; exact hstpd
                        have hfpd : zfr ro zKr G ropd G136 := hf5.tr hfpd
                        refine zW_more (cells2 := 2 * (rcp c2 (rPw Wz + (np_enc (rM (re rs j9)) ++ (wpad (wpr (wws T) tw).1 ((wpr (wws T) tw).2 + 1 + (kc + 1))).set (wpr (wws T) tw).2 (wsz kc)).length) - rcp c2 (rPw Wz))) (slots2 := 2 * (rcp c2 (rPw Wz + (np_enc (rM (re rs j9)) ++ (wpad (wpr (wws T) tw).1 ((wpr (wws T) tw).2 + 1 + (kc + 1))).set (wpr (wws T) tw).2 (wsz kc)).length) - rcp c2 (rPw Wz))) (by dsimp only; omega) (by dsimp only; omega) ?_
                        obtain ⟨hpd, eh0pd, eh1pd, eh2pd, hcpd⟩ := id hstpd
                        obtain ⟨rapd, rbpd, ⟨fmpd, rt1pd, rt2pd, rt3pd, rt4pd⟩, rtlpd, ⟨fopd, rn1pd, rn2pd, rn3pd, rn4pd, rn5pd⟩, rrpd, rgpd, raspd⟩ := id hcpd
                        rw [eh0pd] at rapd
                        obtain ⟨⟨frpd, rm4pd, hfrpd⟩, hn2pd, hRspd⟩ := id rrpd.1
                        have hn_b1pd := hn1.fr hfpd zKr_0
                        obtain ⟨f_b1pd, n1_b1pd, n2_b1pd, n3_b1pd, n4_b1pd, n5_b1pd⟩ := id hn_b1pd
                        have sm_b1pd := n3_b1pd.2
                        obtain ⟨wspd, anpd, plpd, ffpd, fppd, pa1pd, pa2pd, pa3pd, pa4pd, -, -, -, -, ⟨y1pd, y2pd, y3pd, y4pd, y5pd, y6pd⟩, -⟩ := id raspd
                        rw [eh2pd] at y1pd y3pd
                        have hgepd := (rcp_ge hc2 (rPw Wz + (np_enc (rM (re rs j9)) ++ (wpad (wpr (wws T) tw).1 ((wpr (wws T) tw).2 + 1 + (kc + 1))).set (wpr (wws T) tw).2 (wsz kc)).length)).1
                        have hlpd : (np_enc (rM (re rs j9)) ++ (wpad (wpr (wws T) tw).1 ((wpr (wws T) tw).2 + 1 + (kc + 1))).set (wpr (wws T) tw).2 (wsz kc)).length = (np_enc (rM (re rs j9))).length + ((wpr (wws T) tw).2 + 1 + (kc + 1)) := by rw [List.length_append, List.length_set, wpad_len]; omega
                        have hvpd : fppd (rPw Wz + ((np_enc (rM (re rs j9))).length + (wpr (wws T) tw).2)) = nI kc := by
                          rw [y4pd _ (by omega), ← pa4pd, getD_apr, getD_apr, getD_set (by rw [wpad_len]; omega), upd_s, wsz_n (by omega)]
                        refine lv_aload_n hx hb d_Mo_link_139 rfl (lv_at hl 0 rfl) ?_
                        refine zg_get (ci := 11) (C := "ZoneAnswersModel") (T := T_Mo) (N := 21) hx hb hts zi_Mo hown hK hG rapd rfl 15 (by decide) (hts _ w_1296) (fun _ h9 => h9) rfl d_Mo_link_140 ?_
                        refine lv_iload hx hb d_Mo_link_143 (lv_at hl 5 rfl) ?_
                        refine lv_dup2_11 hx hb d_Mo_link_145 rfl rfl ?_
                        refine zg_bald hx hb hK hG 0 y1pd rfl (vp_in_nI (by omega) (by omega)) d_Mo_link_146 ?_
                        refine zi_as (y := nI kc) (by rw [zi_n _ (by omega)]; exact hvpd) ?_
                        refine lv_iconst (v := 1) hx hb d_Mo_link_147 (by decide) ?_
                        refine lv_iadd hx hb d_Mo_link_148 ?_
                        refine zi_as (y := nI (kc + 1)) (nI_add kc 1) ?_
                        refine lv_i2b hx hb d_Mo_link_149 rfl ?_
                        refine zi_as (y := nI (kc + 1)) (i8_n (by omega)) ?_
                        refine zg_bast hx hb hK hG hS 0 y1pd rfl (vp_in_nI (by omega) (by omega)) d_Mo_link_150 (fun H locs hG hS => ?_)
                        rw [zi_n (rPw Wz + ((np_enc (rM (re rs j9))).length + (wpr (wws T) tw).2)) (by omega)] at hG
                        obtain ⟨G3, eG3⟩ : ∃ z : zg_G, z = zg_up G136 (hpd 15) (.inl (E.2.1 0, rcp c2 (rPw Wz + (np_enc (rM (re rs j9)) ++ (wpad (wpr (wws T) tw).1 ((wpr (wws T) tw).2 + 1 + (kc + 1))).set (wpr (wws T) tw).2 (wsz kc)).length), .inl (upd fppd (rPw Wz + ((np_enc (rM (re rs j9))).length + (wpr (wws T) tw).2)) (vp_nar .byte (nI (kc + 1)))))) := ⟨_, rfl⟩
                        have hG : zP E G3 H := by rw [eG3]; exact hG
                        have k4 : G3 (hpd 15) = some (.inl (E.2.1 0, rcp c2 (rPw Wz + (np_enc (rM (re rs j9)) ++ (wpad (wpr (wws T) tw).1 ((wpr (wws T) tw).2 + 1 + (kc + 1))).set (wpr (wws T) tw).2 (wsz kc)).length), .inl (upd fppd (rPw Wz + ((np_enc (rM (re rs j9))).length + (wpr (wws T) tw).2)) (vp_nar .byte (nI (kc + 1)))))) := by rw [eG3]; exact zg_up_self _ _ _
                        refine lv_goto (tgt := 116) hx hb d_Mo_link_151 (by decide) ?_
                        obtain ⟨ro4, hst4, hfkpd⟩ := rCx.poke hcpd y1pd ((np_enc (rM (re rs j9))).length + ((wpr (wws T) tw).2)) (by omega) (vp_nar .byte (nI (kc + 1))) (by rw [vpn (by omega), wsz_n (by omega)]; exact fit_n (by omega))
                        rw [eh0pd, eh1pd, eh2pd, ← eG3] at hst4
                        rw [← eG3] at hfkpd
                        have hst4 : rSt E G3 ro4 a c1 c2 lo rs Wz (np_enc (rM (re rs j9)) ++ (wpad (wpr (wws T) tw).1 ((wpr (wws T) tw).2 + 1 + (kc + 1))).set (wpr (wws T) tw).2 (wsz (kc + 1))) True (wln Wz, 2, ls1, wp) th tp co se v19 v20 := by rw [show np_enc (rM (re rs j9)) ++ (wpad (wpr (wws T) tw).1 ((wpr (wws T) tw).2 + 1 + (kc + 1))).set (wpr (wws T) tw).2 (wsz (kc + 1)) = (np_enc (rM (re rs j9)) ++ (wpad (wpr (wws T) tw).1 ((wpr (wws T) tw).2 + 1 + (kc + 1))).set (wpr (wws T) tw).2 (wsz kc)).set ((np_enc (rM (re rs j9))).length + ((wpr (wws T) tw).2)) (vp_nar .byte (nI (kc + 1))) from by rw [set_app, List.set_set, vpn (by omega)]]; exact hst4
                        have hf4 : zfr ro zKr G ro4 G3 := hfpd.tr hfkpd
                        have hl39 : (np_enc (rM (re rs j9)) ++ (wpad (wpr (wws T) tw).1 ((wpr (wws T) tw).2 + 1 + (kc + 1))).set (wpr (wws T) tw).2 (wsz (kc + 1))).length = (np_enc (rM (re rs j9)) ++ (wpad (wpr (wws T) tw).1 ((wpr (wws T) tw).2 + 1 + (kc + 1))).set (wpr (wws T) tw).2 (wsz kc)).length := by rw [hlpd]; rw [List.length_append, List.length_set, wpad_len]; omega
                        refine zW_more (cells2 := 2 * (rcp c2 (rPw Wz + (np_enc (rM (re rs j9)) ++ (wpad (wpr (wws T) tw).1 ((wpr (wws T) tw).2 + 1 + (kc + 1))).set (wpr (wws T) tw).2 (wsz (kc + 1))).length) - rcp c2 (rPw Wz))) (slots2 := 2 * (rcp c2 (rPw Wz + (np_enc (rM (re rs j9)) ++ (wpad (wpr (wws T) tw).1 ((wpr (wws T) tw).2 + 1 + (kc + 1))).set (wpr (wws T) tw).2 (wsz (kc + 1))).length) - rcp c2 (rPw Wz))) (by rw [hl39]; exact Nat.le_refl _) (by rw [hl39]; exact Nat.le_refl _) ?_
                        exact ih G3 (kc + 1) ro4 _ _ (by omega) (by omega) (by omega) (hst4) (hf4) hG hS ls (lv_sub hl [0, 1, 2, 3, 4, 5, 6] rfl)
                  have hsz9 : nI sa = nI (rPw Wz + ((np_enc (rM (re rs j9))).length + (wpr (wws T) tw).2)) := by rw [hsa (by omega), hpr]
                  rw [hsz9] at hl
                  rw [← c87] at hl
                  have hst5 : rSt E Gw ro7 a c1 c2 lo rs Wz (np_enc (rM (re rs j9)) ++ (wpad (wpr (wws T) tw).1 ((wpr (wws T) tw).2 + 1 + k0)).set (wpr (wws T) tw).2 (wsz k0)) True (wln Wz, 2, ls1, wp) th tp co se v19 v20 := by rw [hP3, hpr]; exact hst7
                  refine zW_more (cells2 := 2 * (rcp c2 (rPw Wz + (np_enc (rM (re rs j9)) ++ (wpad (wpr (wws T) tw).1 ((wpr (wws T) tw).2 + 1 + k0)).set (wpr (wws T) tw).2 (wsz k0)).length) - rcp c2 (rPw Wz))) (slots2 := 2 * (rcp c2 (rPw Wz + (np_enc (rM (re rs j9)) ++ (wpad (wpr (wws T) tw).1 ((wpr (wws T) tw).2 + 1 + k0)).set (wpr (wws T) tw).2 (wsz k0)).length) - rcp c2 (rPw Wz))) (by rw [hP3, hpr]; exact Nat.le_refl _) (by rw [hP3, hpr]; exact Nat.le_refl _) ?_
                  exact loop116 _ Gw k0 ro7 _ _ (Nat.lt_succ_self _) (Nat.le_refl _) (hk02) (hst5) (hf7) hG hS ls (lv_sub hl [0, 1, 2, 3, 4, 5, 6] rfl)
                · have hnwi : ¬ (wws T).2.1 = tw / 256 + 1 := fun z => c87 ((wI_eq hw300 (by omega)).mpr z)
                  have hpr : wpr (wws T) tw = ((wws T).1 ++ [wby tw, 0], (wws T).1.length + 1) := if_neg hnwi
                  have hpr1 : (wpr (wws T) tw).1.length = (wws T).1.length + 2 := by rw [hpr]; show ((wws T).1 ++ [wby tw, 0]).length = _; rw [List.length_append]; rfl
                  refine lv_iload hx hb d_Mo_link_90 (lv_at hl 6 rfl) ?_
                  refine lv_bipush (v := 8) hx hb d_Mo_link_92 (by decide) ?_
                  refine lv_ishr hx hb d_Mo_link_94 ?_
                  refine zi_as (y := nI (tw / 256)) (pk_shrN (by omega) (8 &&& 31) 8 (by decide)) ?_
                  refine lv_istore (lv' := [(5, .int (nI (tw / 256))), (0, .ref a), (1, .ref b1), (2, .int (nI (rPw Wz))), (4, .int r54), (6, .int (nI sa)), (7, .int (nI tw))]) hx hb d_Mo_link_95 hl (by decide) rfl (fun ls hl => ?_)
                  refine lv_aload_n hx hb d_Mo_link_97 rfl (lv_at hl 1 rfl) ?_
                  refine lv_iload hx hb d_Mo_link_98 (lv_at hl 0 rfl) ?_
                  have hlb : (np_enc (rM (re rs j9)) ++ ((wws T).1 ++ [wby tw])).length = (np_enc (rM (re rs j9)) ++ (wws T).1).length + 1 := by rw [List.length_append, List.length_append, List.length_append]; rfl
                  have hrsb : rcp c2 (rPw Wz + (np_enc (rM (re rs j9)) ++ ((wws T).1 ++ [wby tw])).length) = rcp c2 (rPw Wz + (np_enc (rM (re rs j9)) ++ (wws T).1).length + 1) := by rw [hlb]; rfl
                  have hm0b : rcp c2 (rPw Wz) ≤ rcp c2 (rPw Wz + (np_enc (rM (re rs j9)) ++ (wws T).1).length) := rcp_mono2 hc2 (Nat.le_add_right _ _)
                  have hm1b : rcp c2 (rPw Wz + (np_enc (rM (re rs j9)) ++ (wws T).1).length) ≤ rcp c2 (rPw Wz + (np_enc (rM (re rs j9)) ++ (wws T).1).length + 1) := rcp_mono hc2 _
                  have hLvb : (np_enc (rM (re rs j9)) ++ (wws T).1).length + 1 ≤ (vlk (rVf rs) lo ls1).length := by omega
                  have hm2b : rcp c2 (rPw Wz + (np_enc (rM (re rs j9)) ++ (wws T).1).length + 1) ≤ rcp c2 (rPw Wz + (vlk (rVf rs) lo ls1).length) := rcp_mono2 hc2 (by omega)
                  have hGo100 := hG
                  refine zk_v (va_runV (As := [.int (nI (tw / 256))]) (rest := []) ⟨hx, hb, hml, hown, hts⟩ (t_Mo_pool_s l hst7 (nI (tw / 256)) (Nat.le_trans hm2b hbM)) (zcV 1 hts w_1516 w_1518 wp_47 w_30 w_1519 (by decide +kernel) ⟨Nat.le_of_ble_eq_true rfl, Nat.le_of_ble_eq_true rfl⟩) (zc_preV hbase hK hN hQ hG hS ra7 rfl) rfl rfl hl.1 rfl (lv_room (Nat.le_of_ble_eq_true rfl)) d_Mo_link_100 ⟨(by dsimp only; omega), (by dsimp only; omega)⟩) hS (fun G100 H locs hp100 hG hS => ?_)
                  obtain ⟨ropb, hstpb, hfpb⟩ := hp100
                  have hstpb : rSt E G100 ropb a c1 c2 lo rs Wz (np_enc (rM (re rs j9)) ++ ((wws T).1 ++ [wby tw])) True (wln Wz, 2, ls1, wp) th tp co se v19 v20 := by rw [show np_enc (rM (re rs j9)) ++ ((wws T).1 ++ [wby tw]) = (np_enc (rM (re rs j9)) ++ (wws T).1) ++ [(nI (tw / 256)).toInt8.toInt32] from by rw [List.append_assoc, show wby tw = (nI (tw / 256)).toInt8.toInt32 from pk_vb _]]; exact hstpb
                  have hfpb : zfr ro zKr G ropb G100 := hf7.tr hfpb
                  refine zW_more (cells2 := 2 * (rcp c2 (rPw Wz + (np_enc (rM (re rs j9)) ++ ((wws T).1 ++ [wby tw])).length) - rcp c2 (rPw Wz))) (slots2 := 2 * (rcp c2 (rPw Wz + (np_enc (rM (re rs j9)) ++ ((wws T).1 ++ [wby tw])).length) - rcp c2 (rPw Wz))) (by dsimp only; omega) (by dsimp only; omega) ?_
                  obtain ⟨hpb, eh0pb, eh1pb, eh2pb, hcpb⟩ := id hstpb
                  obtain ⟨rapb, rbpb, ⟨fmpb, rt1pb, rt2pb, rt3pb, rt4pb⟩, rtlpb, ⟨fopb, rn1pb, rn2pb, rn3pb, rn4pb, rn5pb⟩, rrpb, rgpb, raspb⟩ := id hcpb
                  rw [eh0pb] at rapb
                  obtain ⟨⟨frpb, rm4pb, hfrpb⟩, hn2pb, hRspb⟩ := id rrpb.1
                  have hn_b1pb := hn1.fr hfpb zKr_0
                  obtain ⟨f_b1pb, n1_b1pb, n2_b1pb, n3_b1pb, n4_b1pb, n5_b1pb⟩ := id hn_b1pb
                  have sm_b1pb := n3_b1pb.2
                  obtain ⟨wspb, anpb, plpb, ffpb, fppb, pa1pb, pa2pb, pa3pb, pa4pb, -, -, -, -, ⟨y1pb, y2pb, y3pb, y4pb, y5pb, y6pb⟩, -⟩ := id raspb
                  rw [eh2pb] at y1pb y3pb
                  have hgepb := (rcp_ge hc2 (rPw Wz + (np_enc (rM (re rs j9)) ++ ((wws T).1 ++ [wby tw])).length)).1
                  refine lv_aload_n hx hb d_Mo_link_103 rfl (lv_at hl 1 rfl) ?_
                  refine lv_iconst (v := 0) hx hb d_Mo_link_104 (by decide) ?_
                  have hlc : (np_enc (rM (re rs j9)) ++ ((wws T).1 ++ [wby tw, 0])).length = (np_enc (rM (re rs j9)) ++ ((wws T).1 ++ [wby tw])).length + 1 := by rw [List.length_append, List.length_append, List.length_append, List.length_append]; rfl
                  have hrsc : rcp c2 (rPw Wz + (np_enc (rM (re rs j9)) ++ ((wws T).1 ++ [wby tw, 0])).length) = rcp c2 (rPw Wz + (np_enc (rM (re rs j9)) ++ ((wws T).1 ++ [wby tw])).length + 1) := by rw [hlc]; rfl
                  have hm0c : rcp c2 (rPw Wz) ≤ rcp c2 (rPw Wz + (np_enc (rM (re rs j9)) ++ ((wws T).1 ++ [wby tw])).length) := rcp_mono2 hc2 (Nat.le_add_right _ _)
                  have hm1c : rcp c2 (rPw Wz + (np_enc (rM (re rs j9)) ++ ((wws T).1 ++ [wby tw])).length) ≤ rcp c2 (rPw Wz + (np_enc (rM (re rs j9)) ++ ((wws T).1 ++ [wby tw])).length + 1) := rcp_mono hc2 _
                  have hLvc : (np_enc (rM (re rs j9)) ++ ((wws T).1 ++ [wby tw])).length + 1 ≤ (vlk (rVf rs) lo ls1).length := by rw [List.length_append, List.length_append]; show (np_enc (rM (re rs j9))).length + ((wws T).1.length + 1) + 1 ≤ _; omega
                  have hm2c : rcp c2 (rPw Wz + (np_enc (rM (re rs j9)) ++ ((wws T).1 ++ [wby tw])).length + 1) ≤ rcp c2 (rPw Wz + (vlk (rVf rs) lo ls1).length) := rcp_mono2 hc2 (by omega)
                  have hGo105 := hG
                  refine zk_v (va_runV (As := [.int 0]) (rest := []) ⟨hx, hb, hml, hown, hts⟩ (t_Mo_pool_s l hstpb (0 : Int32) (Nat.le_trans hm2c hbM)) (zcV 1 hts w_1516 w_1518 wp_47 w_30 w_1519 (by decide +kernel) ⟨Nat.le_of_ble_eq_true rfl, Nat.le_of_ble_eq_true rfl⟩) (zc_preV hbase hK hN hQ hG hS rapb rfl) rfl rfl hl.1 rfl (lv_room (Nat.le_of_ble_eq_true rfl)) d_Mo_link_105 ⟨(by dsimp only; omega), (by dsimp only; omega)⟩) hS (fun G105 H locs hp105 hG hS => ?_)
                  obtain ⟨ropc, hstpc, hfpc⟩ := hp105
                  have hstpc : rSt E G105 ropc a c1 c2 lo rs Wz (np_enc (rM (re rs j9)) ++ ((wws T).1 ++ [wby tw, 0])) True (wln Wz, 2, ls1, wp) th tp co se v19 v20 := by rw [show np_enc (rM (re rs j9)) ++ ((wws T).1 ++ [wby tw, 0]) = (np_enc (rM (re rs j9)) ++ ((wws T).1 ++ [wby tw])) ++ [(0 : Int32).toInt8.toInt32] from by rw [show ((0 : Int32).toInt8.toInt32) = 0 from by decide, List.append_assoc, List.append_assoc]; rfl]; exact hstpc
                  have hfpc : zfr ro zKr G ropc G105 := hfpb.tr hfpc
                  refine zW_more (cells2 := 2 * (rcp c2 (rPw Wz + (np_enc (rM (re rs j9)) ++ ((wws T).1 ++ [wby tw, 0])).length) - rcp c2 (rPw Wz))) (slots2 := 2 * (rcp c2 (rPw Wz + (np_enc (rM (re rs j9)) ++ ((wws T).1 ++ [wby tw, 0])).length) - rcp c2 (rPw Wz))) (by dsimp only; omega) (by dsimp only; omega) ?_
                  obtain ⟨hpc, eh0pc, eh1pc, eh2pc, hcpc⟩ := id hstpc
                  obtain ⟨rapc, rbpc, ⟨fmpc, rt1pc, rt2pc, rt3pc, rt4pc⟩, rtlpc, ⟨fopc, rn1pc, rn2pc, rn3pc, rn4pc, rn5pc⟩, rrpc, rgpc, raspc⟩ := id hcpc
                  rw [eh0pc] at rapc
                  obtain ⟨⟨frpc, rm4pc, hfrpc⟩, hn2pc, hRspc⟩ := id rrpc.1
                  have hn_b1pc := hn1.fr hfpc zKr_0
                  obtain ⟨f_b1pc, n1_b1pc, n2_b1pc, n3_b1pc, n4_b1pc, n5_b1pc⟩ := id hn_b1pc
                  have sm_b1pc := n3_b1pc.2
                  obtain ⟨wspc, anpc, plpc, ffpc, fppc, pa1pc, pa2pc, pa3pc, pa4pc, -, -, -, -, ⟨y1pc, y2pc, y3pc, y4pc, y5pc, y6pc⟩, -⟩ := id raspc
                  rw [eh2pc] at y1pc y3pc
                  have hgepc := (rcp_ge hc2 (rPw Wz + (np_enc (rM (re rs j9)) ++ ((wws T).1 ++ [wby tw, 0])).length)).1
                  refine lv_aload_n hx hb d_Mo_link_108 rfl (lv_at hl 1 rfl) ?_
                  refine zg_get (ci := 11) (C := "ZoneAnswersModel") (T := T_Mo) (N := 21) hx hb hts zi_Mo hown hK hG rapc rfl 16 (by decide) (hts _ w_1297) (fun _ h9 => h9) rfl d_Mo_link_109 ?_
                  refine lv_iconst (v := 1) hx hb d_Mo_link_112 (by decide) ?_
                  refine lv_isub hx hb d_Mo_link_113 ?_
                  refine zi_as (y := nI (rPw Wz + ((np_enc (rM (re rs j9))).length + ((wws T).1.length + 1)))) (nI_m1 (by rw [List.length_append, List.length_append]; show rPw Wz + ((np_enc (rM (re rs j9))).length + ((wws T).1.length + 2)) = _; omega)) ?_
                  refine lv_istore (lv' := [(6, .int (nI (rPw Wz + ((np_enc (rM (re rs j9))).length + ((wws T).1.length + 1))))), (5, .int (nI (tw / 256))), (0, .ref a), (1, .ref b1), (2, .int (nI (rPw Wz))), (4, .int r54), (7, .int (nI tw))]) hx hb d_Mo_link_114 hl (by decide) rfl (fun ls hl => ?_)
                  have loop116 : ∀ (N : Nat) (Gx : zg_G) (kc : Nat) (ro5 : zRo) (H : Heap) (locs : List Loc), (tw % 256 / 8 + 1 - kc) < N → (k0 ≤ kc) → (kc ≤ tw % 256 / 8 + 1) → (rSt E Gx ro5 a c1 c2 lo rs Wz (np_enc (rM (re rs j9)) ++ (wpad (wpr (wws T) tw).1 ((wpr (wws T) tw).2 + 1 + kc)).set (wpr (wws T) tw).2 (wsz kc)) True (wln Wz, 2, ls1, wp) th tp co se v19 v20) → (zfr ro zKr G ro5 Gx) → zP E Gx H → zg_S (zc_b E) s.heap H locs → ∀ (ls : Array Slot), lv_has ls 8 [(0, .ref a), (1, .ref b1), (2, .int (nI (rPw Wz))), (4, .int r54), (5, .int (nI (tw / 256))), (6, .int (nI (rPw Wz + ((np_enc (rM (re rs j9))).length + (wpr (wws T) tw).2)))), (7, .int (nI tw))] → W p l e (rm_Mo_link (rPi c1 c2 (vpr (rVf rs) lo true Wz ls1) 0 - rPi c1 c2 Wz 0) (rPi c1 c2 (vpr (rVf rs) lo true Wz ls1) 0 - rPi c1 c2 Wz 0)) s m args below meth c H locs (2 * (rcp c2 (rPw Wz + (np_enc (rM (re rs j9)) ++ (wpad (wpr (wws T) tw).1 ((wpr (wws T) tw).2 + 1 + kc)).set (wpr (wws T) tw).2 (wsz kc)).length) - rcp c2 (rPw Wz))) (2 * (rcp c2 (rPw Wz + (np_enc (rM (re rs j9)) ++ (wpad (wpr (wws T) tw).1 ((wpr (wws T) tw).2 + 1 + kc)).set (wpr (wws T) tw).2 (wsz kc)).length) - rcp c2 (rPw Wz))) Q (F0 m 116 ls []) := by
                    intro N
                    induction N with
                    | zero =>
                      intro Gx kc ro5 H locs hlt
                      exact absurd hlt (Nat.not_lt_zero _)
                    | succ N ih =>
                      intro Gx kc ro5 H locs hlt hk1 hk2 hst5 hf5 hG hS ls hl
                      have hpx5 : (np_enc (rM (re rs j9)) ++ (wpad (wpr (wws T) tw).1 ((wpr (wws T) tw).2 + 1 + kc)).set (wpr (wws T) tw).2 (wsz kc)).length = (np_enc (rM (re rs j9))).length + ((wpr (wws T) tw).2 + 1 + kc) := by rw [List.length_append, List.length_set, wpad_len]; omega
                      have hLv5 : (np_enc (rM (re rs j9)) ++ (wpad (wpr (wws T) tw).1 ((wpr (wws T) tw).2 + 1 + kc)).set (wpr (wws T) tw).2 (wsz kc)).length ≤ (vlk (rVf rs) lo ls1).length := by omega
                      obtain ⟨h5, eh05, eh15, eh25, hc5⟩ := id hst5
                      obtain ⟨ra5, rb5, ⟨fm5, rt15, rt25, rt35, rt45⟩, rtl5, ⟨fo5, rn15, rn25, rn35, rn45, rn55⟩, rr5, rg5, ras5⟩ := id hc5
                      rw [eh05] at ra5
                      obtain ⟨⟨fr5, rm45, hfr5⟩, hn25, hRs5⟩ := id rr5.1
                      have hn_b15 := hn1.fr hf5 zKr_0
                      obtain ⟨f_b15, n1_b15, n2_b15, n3_b15, n4_b15, n5_b15⟩ := id hn_b15
                      have sm_b15 := n3_b15.2
                      obtain ⟨ws5, an5, pl5, ff5, fp5, pa15, pa25, pa35, pa45, -, -, -, -, ⟨y15, y25, y35, y45, y55, y65⟩, -⟩ := id ras5
                      rw [eh25] at y15 y35
                      have hge5 := (rcp_ge hc2 (rPw Wz + (np_enc (rM (re rs j9)) ++ (wpad (wpr (wws T) tw).1 ((wpr (wws T) tw).2 + 1 + kc)).set (wpr (wws T) tw).2 (wsz kc)).length)).1
                      have hv5 : fp5 (rPw Wz + ((np_enc (rM (re rs j9))).length + (wpr (wws T) tw).2)) = nI kc := by
                        rw [y45 _ (by omega), ← pa45, getD_apr, getD_apr, getD_set (by rw [wpad_len]; omega), upd_s, wsz_n (by omega)]
                      have hv6 : fp5 (rPw Wz + ((np_enc (rM (re rs j9))).length + ((wpr (wws T) tw).2 + 1 + tw % 256 / 8))) = ((wpad (wpr (wws T) tw).1 ((wpr (wws T) tw).2 + 1 + kc)).set (wpr (wws T) tw).2 (wsz kc)).getD ((wpr (wws T) tw).2 + 1 + tw % 256 / 8) 0 ∨ kc ≤ tw % 256 / 8 := by
                        rcases Nat.lt_or_ge (tw % 256 / 8) kc with z | z
                        · refine Or.inl ?_
                          rw [y45 _ (by omega), ← pa45, getD_apr, getD_apr]
                        · exact Or.inr z
                      refine lv_aload_n hx hb d_Mo_link_116 rfl (lv_at hl 0 rfl) ?_
                      refine zg_get (ci := 11) (C := "ZoneAnswersModel") (T := T_Mo) (N := 21) hx hb hts zi_Mo hown hK hG ra5 rfl 15 (by decide) (hts _ w_1296) (fun _ h9 => h9) rfl d_Mo_link_117 ?_
                      refine lv_iload hx hb d_Mo_link_120 (lv_at hl 5 rfl) ?_
                      refine zg_bald hx hb hK hG 0 y15 rfl (vp_in_nI (by omega) (by omega)) d_Mo_link_122 ?_
                      refine zi_as (y := nI kc) (by rw [zi_n _ (by omega)]; exact hv5) ?_
                      refine lv_iload hx hb d_Mo_link_123 (lv_at hl 6 rfl) ?_
                      refine lv_sipush (v := 255) hx hb d_Mo_link_125 (by decide) ?_
                      refine lv_iand hx hb d_Mo_link_128 ?_
                      refine zi_as (y := nI (tw % 256)) (pk_andN (by omega) 8 (by decide)) ?_
                      refine lv_iconst (v := 3) hx hb d_Mo_link_129 (by decide) ?_
                      refine lv_ishr hx hb d_Mo_link_130 ?_
                      refine zi_as (y := nI (tw % 256 / 8)) (pk_shrN (by omega) (3 &&& 31) 3 (by decide)) ?_
                      refine lv_icmp_gt (tgt := 154) hx hb d_Mo_link_131 (by decide) (fun c131 => ?_) (fun c131 => ?_)
                      · have b131 : (tw % 256 / 8) < kc := (nI_ltI (a := (tw % 256 / 8)) (b := kc) (by omega) (by omega)).mp c131
                        refine lv_aload_n hx hb d_Mo_link_154 rfl (lv_at hl 0 rfl) ?_
                        refine zg_get (ci := 11) (C := "ZoneAnswersModel") (T := T_Mo) (N := 21) hx hb hts zi_Mo hown hK hG ra5 rfl 15 (by decide) (hts _ w_1296) (fun _ h9 => h9) rfl d_Mo_link_155 ?_
                        refine lv_aload_n hx hb d_Mo_link_158 rfl (lv_at hl 0 rfl) ?_
                        refine zg_get (ci := 11) (C := "ZoneAnswersModel") (T := T_Mo) (N := 21) hx hb hts zi_Mo hown hK hG ra5 rfl 16 (by decide) (hts _ w_1297) (fun _ h9 => h9) rfl d_Mo_link_159 ?_
                        refine lv_iconst (v := 1) hx hb d_Mo_link_162 (by decide) ?_
                        refine lv_isub hx hb d_Mo_link_163 ?_
                        refine zi_as (y := nI (rPw Wz + ((np_enc (rM (re rs j9))).length + ((wpr (wws T) tw).2 + 1 + tw % 256 / 8)))) (nI_m1 (by rw [hpx5]; omega)) ?_
                        refine lv_dup2_11 hx hb d_Mo_link_164 rfl rfl ?_
                        refine zg_bald hx hb hK hG 0 y15 rfl (vp_in_nI (by omega) (by omega)) d_Mo_link_165 ?_
                        refine zi_as (y := ((wpad (wpr (wws T) tw).1 ((wpr (wws T) tw).2 + 1 + kc)).set (wpr (wws T) tw).2 (wsz kc)).getD ((wpr (wws T) tw).2 + 1 + tw % 256 / 8) 0) (by rw [zi_n _ (by omega)]; exact hv6.resolve_right (by omega)) ?_
                        refine lv_sipush (v := 128) hx hb d_Mo_link_166 (by decide) ?_
                        refine lv_iload hx hb d_Mo_link_169 (lv_at hl 6 rfl) ?_
                        refine lv_bipush (v := 7) hx hb d_Mo_link_171 (by decide) ?_
                        refine lv_iand hx hb d_Mo_link_173 ?_
                        refine zi_as (y := nI (tw % 8)) (pk_andN (by omega) 3 (by decide)) ?_
                        refine lv_ishr hx hb d_Mo_link_174 ?_
                        refine lv_i2b hx hb d_Mo_link_175 rfl ?_
                        refine lv_ior hx hb d_Mo_link_176 ?_
                        refine lv_i2b hx hb d_Mo_link_177 rfl ?_
                        refine zg_bast hx hb hK hG hS 0 y15 rfl (vp_in_nI (by omega) (by omega)) d_Mo_link_178 (fun H locs hG hS => ?_)
                        rw [zi_n (rPw Wz + ((np_enc (rM (re rs j9))).length + ((wpr (wws T) tw).2 + 1 + tw % 256 / 8))) (by omega)] at hG
                        obtain ⟨G5, eG5⟩ : ∃ z : zg_G, z = zg_up Gx (h5 15) (.inl (E.2.1 0, rcp c2 (rPw Wz + (np_enc (rM (re rs j9)) ++ (wpad (wpr (wws T) tw).1 ((wpr (wws T) tw).2 + 1 + kc)).set (wpr (wws T) tw).2 (wsz kc)).length), .inl (upd fp5 (rPw Wz + ((np_enc (rM (re rs j9))).length + ((wpr (wws T) tw).2 + 1 + tw % 256 / 8))) (vp_nar .byte (((((wpad (wpr (wws T) tw).1 ((wpr (wws T) tw).2 + 1 + kc)).set (wpr (wws T) tw).2 (wsz kc)).getD ((wpr (wws T) tw).2 + 1 + tw % 256 / 8) 0) ||| ((128 >>> ((nI (tw % 8)) &&& 31)).toInt8.toInt32)).toInt8.toInt32))))) := ⟨_, rfl⟩
                        have hG : zP E G5 H := by rw [eG5]; exact hG
                        have k6 : G5 (h5 15) = some (.inl (E.2.1 0, rcp c2 (rPw Wz + (np_enc (rM (re rs j9)) ++ (wpad (wpr (wws T) tw).1 ((wpr (wws T) tw).2 + 1 + kc)).set (wpr (wws T) tw).2 (wsz kc)).length), .inl (upd fp5 (rPw Wz + ((np_enc (rM (re rs j9))).length + ((wpr (wws T) tw).2 + 1 + tw % 256 / 8))) (vp_nar .byte (((((wpad (wpr (wws T) tw).1 ((wpr (wws T) tw).2 + 1 + kc)).set (wpr (wws T) tw).2 (wsz kc)).getD ((wpr (wws T) tw).2 + 1 + tw % 256 / 8) 0) ||| ((128 >>> ((nI (tw % 8)) &&& 31)).toInt8.toInt32)).toInt8.toInt32))))) := by rw [eG5]; exact zg_up_self _ _ _
                        have hkm : kc = tw % 256 / 8 + 1 := by omega
                        have hkz : (wpr (wws T) tw).2 + 1 + kc = (wpr (wws T) tw).2 + 2 + tw % 256 / 8 := by omega
                        obtain ⟨roz, hstz, hfk5⟩ := rCx.poke hc5 y15 ((np_enc (rM (re rs j9))).length + ((wpr (wws T) tw).2 + 1 + tw % 256 / 8)) (by omega) (vp_nar .byte (((wpad (wpr (wws T) tw).1 ((wpr (wws T) tw).2 + 1 + kc)).set (wpr (wws T) tw).2 (wsz kc)).getD ((wpr (wws T) tw).2 + 1 + tw % 256 / 8) 0 ||| ((128 : Int32) >>> (nI (tw % 8) &&& 31)).toInt8.toInt32).toInt8.toInt32) (fit_v _)
                        rw [eh05, eh15, eh25, ← eG5] at hstz
                        rw [← eG5] at hfk5
                        have hstz : rSt E G5 roz a c1 c2 lo rs Wz (np_enc (rM (re rs j9)) ++ (wws (T ++ [tw])).1) True (wln Wz, 2, ls1, wp) th tp co se v19 v20 := by rw [show np_enc (rM (re rs j9)) ++ (wws (T ++ [tw])).1 = (np_enc (rM (re rs j9)) ++ (wpad (wpr (wws T) tw).1 ((wpr (wws T) tw).2 + 1 + kc)).set (wpr (wws T) tw).2 (wsz kc)).set ((np_enc (rM (re rs j9))).length + ((wpr (wws T) tw).2 + 1 + tw % 256 / 8)) (vp_nar .byte (((wpad (wpr (wws T) tw).1 ((wpr (wws T) tw).2 + 1 + kc)).set (wpr (wws T) tw).2 (wsz kc)).getD ((wpr (wws T) tw).2 + 1 + tw % 256 / 8) 0 ||| ((128 : Int32) >>> (nI (tw % 8) &&& 31)).toInt8.toInt32).toInt8.toInt32) from by rw [set_app, wws_snoc, hkz, hkm]; rfl]; exact hstz
                        have hfz : zfr ro zKr G roz G5 := hf5.tr hfk5
                        have hlz : (np_enc (rM (re rs j9)) ++ (wws (T ++ [tw])).1).length = (np_enc (rM (re rs j9)) ++ (wpad (wpr (wws T) tw).1 ((wpr (wws T) tw).2 + 1 + kc)).set (wpr (wws T) tw).2 (wsz kc)).length := by rw [List.length_append, wws_snoc, hwln, hpx5]; omega
                        refine zW_more (cells2 := 2 * (rcp c2 (rPw Wz + (np_enc (rM (re rs j9)) ++ (wws (T ++ [tw])).1).length) - rcp c2 (rPw Wz))) (slots2 := 2 * (rcp c2 (rPw Wz + (np_enc (rM (re rs j9)) ++ (wws (T ++ [tw])).1).length) - rcp c2 (rPw Wz))) (by rw [hlz]; exact Nat.le_refl _) (by rw [hlz]; exact Nat.le_refl _) ?_
                        have hmZ : rcp c2 (rPw Wz + (np_enc (rM (re rs j9)) ++ (wws (T ++ [tw])).1).length) ≤ rcp c2 (rPw Wz + (vlk (rVf rs) lo ls1).length) := rcp_mono2 hc2 (by rw [hlz]; omega)
                        obtain ⟨hz, eh0z, eh1z, eh2z, hcz⟩ := id hstz
                        obtain ⟨raz, rbz, ⟨fmz, rt1z, rt2z, rt3z, rt4z⟩, rtlz, ⟨foz, rn1z, rn2z, rn3z, rn4z, rn5z⟩, rrz, rgz, rasz⟩ := id hcz
                        rw [eh0z] at raz
                        obtain ⟨⟨frz, rm4z, hfrz⟩, hn2z, hRsz⟩ := id rrz.1
                        have hn_b1z := hn1.fr hfz zKr_0
                        obtain ⟨f_b1z, n1_b1z, n2_b1z, n3_b1z, n4_b1z, n5_b1z⟩ := id hn_b1z
                        have sm_b1z := n3_b1z.2
                        obtain ⟨wsz, anz, plz, ffz, fpz, pa1z, pa2z, pa3z, pa4z, -, -, -, -, ⟨y1z, y2z, y3z, y4z, y5z, y6z⟩, -⟩ := id rasz
                        rw [eh2z] at y1z y3z
                        have hgez := (rcp_ge hc2 (rPw Wz + (np_enc (rM (re rs j9)) ++ (wws (T ++ [tw])).1).length)).1
                        refine lv_aload_n hx hb d_Mo_link_179 rfl (lv_at hl 0 rfl) ?_
                        refine lv_aload_n hx hb d_Mo_link_180 rfl (lv_at hl 1 rfl) ?_
                        refine lv_iload hx hb d_Mo_link_181 (lv_at hl 6 rfl) ?_
                        refine lv_iload hx hb d_Mo_link_183 (lv_at hl 3 rfl) ?_
                        have hGo185 := hG
                        refine zk_i (va_runV (As := [.ref b1, .int (nI tw), .int r54]) (rest := []) ⟨hx, hb, hml, hown, hts⟩ (t_Mo_next_s l hstz (zcut lo rs (ls1.drop 0)) (nI tw) r54 hzc b1 ls1 hn_b1z) (zcV 3 hts w_1520 w_1522 wp_48 w_30 w_1523 (by decide +kernel) ⟨Nat.le_of_ble_eq_true rfl, Nat.le_of_ble_eq_true rfl⟩) (zc_preV hbase hK hN hQ hG hS raz rfl) rfl rfl hl.1 rfl (lv_room (Nat.le_of_ble_eq_true rfl)) d_Mo_link_185 ⟨(by dsimp only; omega), (by dsimp only; omega)⟩) hS (fun r185 G185 H locs hp185 hG hS => ?_)
                        have hG : zP E G5 H := hp185.2 ▸ hG
                        obtain ⟨tn1, htn1, etn1⟩ : ∃ t9, t9 < 65536 ∧ r185 = nI t9 := rNx_nat hgd hp185.1
                        refine zi_as (y := nI tn1) etn1 ?_
                        have hnxx1 : rNx (rTy rs ls1 (zcut lo rs (ls1.drop 0)) rs.length) (nI tw) (nI tn1) := by rw [← etn1]; exact hp185.1
                        refine lv_istore (lv' := [(7, .int (nI tn1)), (0, .ref a), (1, .ref b1), (2, .int (nI (rPw Wz))), (4, .int r54), (5, .int (nI (tw / 256))), (6, .int (nI (rPw Wz + ((np_enc (rM (re rs j9))).length + (wpr (wws T) tw).2))))]) hx hb d_Mo_link_188 hl (by decide) rfl (fun ls hl => ?_)
                        refine lv_goto (tgt := 75) hx hb d_Mo_link_190 (by decide) ?_
                        have hwI9 : nI (tw / 256) = wI (wws (T ++ [tw])).2.1 := by rw [wws_snoc]; exact (wI_eq (w := tw / 256 + 1) (by omega) (by omega)).mpr rfl
                        rw [hwI9] at hl
                        exact ih75 G5 (T ++ [tw]) tw tn1 (rPw Wz + ((np_enc (rM (re rs j9))).length + (wpr (wws T) tw).2)) roz _ _ (by omega) (hTn) (htw) (htn1) (hnxx1) (Or.inr (by rw [wws_snoc]; exact rWi_s hwc0)) (fun _ => by rw [wws_snoc]; rfl) (hstz) (hfz) hG hS ls (lv_sub hl [1, 2, 3, 4, 5, 6, 0] rfl)
                      · have b131 : ¬ (tw % 256 / 8) < kc := fun q => c131 ((nI_ltI (a := (tw % 256 / 8)) (b := kc) (by omega) (by omega)).mpr q)
                        refine lv_aload_n hx hb d_Mo_link_134 rfl (lv_at hl 0 rfl) ?_
                        refine lv_iconst (v := 0) hx hb d_Mo_link_135 (by decide) ?_
                        have hld : (np_enc (rM (re rs j9)) ++ (wpad (wpr (wws T) tw).1 ((wpr (wws T) tw).2 + 1 + (kc + 1))).set (wpr (wws T) tw).2 (wsz kc)).length = (np_enc (rM (re rs j9)) ++ (wpad (wpr (wws T) tw).1 ((wpr (wws T) tw).2 + 1 + kc)).set (wpr (wws T) tw).2 (wsz kc)).length + 1 := by rw [List.length_append, List.length_set, wpad_len]; rw [List.length_append, List.length_set, wpad_len]; omega
                        have hrsd : rcp c2 (rPw Wz + (np_enc (rM (re rs j9)) ++ (wpad (wpr (wws T) tw).1 ((wpr (wws T) tw).2 + 1 + (kc + 1))).set (wpr (wws T) tw).2 (wsz kc)).length) = rcp c2 (rPw Wz + (np_enc (rM (re rs j9)) ++ (wpad (wpr (wws T) tw).1 ((wpr (wws T) tw).2 + 1 + kc)).set (wpr (wws T) tw).2 (wsz kc)).length + 1) := by rw [hld]; rfl
                        have hm0d : rcp c2 (rPw Wz) ≤ rcp c2 (rPw Wz + (np_enc (rM (re rs j9)) ++ (wpad (wpr (wws T) tw).1 ((wpr (wws T) tw).2 + 1 + kc)).set (wpr (wws T) tw).2 (wsz kc)).length) := rcp_mono2 hc2 (Nat.le_add_right _ _)
                        have hm1d : rcp c2 (rPw Wz + (np_enc (rM (re rs j9)) ++ (wpad (wpr (wws T) tw).1 ((wpr (wws T) tw).2 + 1 + kc)).set (wpr (wws T) tw).2 (wsz kc)).length) ≤ rcp c2 (rPw Wz + (np_enc (rM (re rs j9)) ++ (wpad (wpr (wws T) tw).1 ((wpr (wws T) tw).2 + 1 + kc)).set (wpr (wws T) tw).2 (wsz kc)).length + 1) := rcp_mono hc2 _
                        have hLvd : (np_enc (rM (re rs j9)) ++ (wpad (wpr (wws T) tw).1 ((wpr (wws T) tw).2 + 1 + kc)).set (wpr (wws T) tw).2 (wsz kc)).length + 1 ≤ (vlk (rVf rs) lo ls1).length := by omega
                        have hm2d : rcp c2 (rPw Wz + (np_enc (rM (re rs j9)) ++ (wpad (wpr (wws T) tw).1 ((wpr (wws T) tw).2 + 1 + kc)).set (wpr (wws T) tw).2 (wsz kc)).length + 1) ≤ rcp c2 (rPw Wz + (vlk (rVf rs) lo ls1).length) := rcp_mono2 hc2 (by omega)
                        have hGo136 := hG
                        refine zk_v (va_runV (As := [.int 0]) (rest := []) ⟨hx, hb, hml, hown, hts⟩ (t_Mo_pool_s l hst5 (0 : Int32) (Nat.le_trans hm2d hbM)) (zcV 1 hts w_1516 w_1518 wp_47 w_30 w_1519 (by decide +kernel) ⟨Nat.le_of_ble_eq_true rfl, Nat.le_of_ble_eq_true rfl⟩) (zc_preV hbase hK hN hQ hG hS ra5 rfl) rfl rfl hl.1 rfl (lv_room (Nat.le_of_ble_eq_true rfl)) d_Mo_link_136 ⟨(by dsimp only; omega), (by dsimp only; omega)⟩) hS (fun G136 H locs hp136 hG hS => ?_)
                        obtain ⟨ropd, hstpd, hfpd⟩ := hp136
                        have hstpd : rSt E G136 ropd a c1 c2 lo rs Wz (np_enc (rM (re rs j9)) ++ (wpad (wpr (wws T) tw).1 ((wpr (wws T) tw).2 + 1 + (kc + 1))).set (wpr (wws T) tw).2 (wsz kc)) True (wln Wz, 2, ls1, wp) th tp co se v19 v20 := by rw [show np_enc (rM (re rs j9)) ++ (wpad (wpr (wws T) tw).1 ((wpr (wws T) tw).2 + 1 + (kc + 1))).set (wpr (wws T) tw).2 (wsz kc) = (np_enc (rM (re rs j9)) ++ (wpad (wpr (wws T) tw).1 ((wpr (wws T) tw).2 + 1 + kc)).set (wpr (wws T) tw).2 (wsz kc)) ++ [(0 : Int32).toInt8.toInt32] from by rw [show ((0 : Int32).toInt8.toInt32) = 0 from by decide, List.append_assoc, wpad_s (by omega) (by omega)]; rfl]; exact hstpd
                        have hfpd : zfr ro zKr G ropd G136 := hf5.tr hfpd
                        refine zW_more (cells2 := 2 * (rcp c2 (rPw Wz + (np_enc (rM (re rs j9)) ++ (wpad (wpr (wws T) tw).1 ((wpr (wws T) tw).2 + 1 + (kc + 1))).set (wpr (wws T) tw).2 (wsz kc)).length) - rcp c2 (rPw Wz))) (slots2 := 2 * (rcp c2 (rPw Wz + (np_enc (rM (re rs j9)) ++ (wpad (wpr (wws T) tw).1 ((wpr (wws T) tw).2 + 1 + (kc + 1))).set (wpr (wws T) tw).2 (wsz kc)).length) - rcp c2 (rPw Wz))) (by dsimp only; omega) (by dsimp only; omega) ?_
                        obtain ⟨hpd, eh0pd, eh1pd, eh2pd, hcpd⟩ := id hstpd
                        obtain ⟨rapd, rbpd, ⟨fmpd, rt1pd, rt2pd, rt3pd, rt4pd⟩, rtlpd, ⟨fopd, rn1pd, rn2pd, rn3pd, rn4pd, rn5pd⟩, rrpd, rgpd, raspd⟩ := id hcpd
                        rw [eh0pd] at rapd
                        obtain ⟨⟨frpd, rm4pd, hfrpd⟩, hn2pd, hRspd⟩ := id rrpd.1
                        have hn_b1pd := hn1.fr hfpd zKr_0
                        obtain ⟨f_b1pd, n1_b1pd, n2_b1pd, n3_b1pd, n4_b1pd, n5_b1pd⟩ := id hn_b1pd
                        have sm_b1pd := n3_b1pd.2
                        obtain ⟨wspd, anpd, plpd, ffpd, fppd, pa1pd, pa2pd, pa3pd, pa4pd, -, -, -, -, ⟨y1pd, y2pd, y3pd, y4pd, y5pd, y6pd⟩, -⟩ := id raspd
                        rw [eh2pd] at y1pd y3pd
                        have hgepd := (rcp_ge hc2 (rPw Wz + (np_enc (rM (re rs j9)) ++ (wpad (wpr (wws T) tw).1 ((wpr (wws T) tw).2 + 1 + (kc + 1))).set (wpr (wws T) tw).2 (wsz kc)).length)).1
                        have hlpd : (np_enc (rM (re rs j9)) ++ (wpad (wpr (wws T) tw).1 ((wpr (wws T) tw).2 + 1 + (kc + 1))).set (wpr (wws T) tw).2 (wsz kc)).length = (np_enc (rM (re rs j9))).length + ((wpr (wws T) tw).2 + 1 + (kc + 1)) := by rw [List.length_append, List.length_set, wpad_len]; omega
                        have hvpd : fppd (rPw Wz + ((np_enc (rM (re rs j9))).length + (wpr (wws T) tw).2)) = nI kc := by
                          rw [y4pd _ (by omega), ← pa4pd, getD_apr, getD_apr, getD_set (by rw [wpad_len]; omega), upd_s, wsz_n (by omega)]
                        refine lv_aload_n hx hb d_Mo_link_139 rfl (lv_at hl 0 rfl) ?_
                        refine zg_get (ci := 11) (C := "ZoneAnswersModel") (T := T_Mo) (N := 21) hx hb hts zi_Mo hown hK hG rapd rfl 15 (by decide) (hts _ w_1296) (fun _ h9 => h9) rfl d_Mo_link_140 ?_
                        refine lv_iload hx hb d_Mo_link_143 (lv_at hl 5 rfl) ?_
                        refine lv_dup2_11 hx hb d_Mo_link_145 rfl rfl ?_
                        refine zg_bald hx hb hK hG 0 y1pd rfl (vp_in_nI (by omega) (by omega)) d_Mo_link_146 ?_
                        refine zi_as (y := nI kc) (by rw [zi_n _ (by omega)]; exact hvpd) ?_
                        refine lv_iconst (v := 1) hx hb d_Mo_link_147 (by decide) ?_
                        refine lv_iadd hx hb d_Mo_link_148 ?_
                        refine zi_as (y := nI (kc + 1)) (nI_add kc 1) ?_
                        refine lv_i2b hx hb d_Mo_link_149 rfl ?_
                        refine zi_as (y := nI (kc + 1)) (i8_n (by omega)) ?_
                        refine zg_bast hx hb hK hG hS 0 y1pd rfl (vp_in_nI (by omega) (by omega)) d_Mo_link_150 (fun H locs hG hS => ?_)
                        rw [zi_n (rPw Wz + ((np_enc (rM (re rs j9))).length + (wpr (wws T) tw).2)) (by omega)] at hG
                        obtain ⟨G7, eG7⟩ : ∃ z : zg_G, z = zg_up G136 (hpd 15) (.inl (E.2.1 0, rcp c2 (rPw Wz + (np_enc (rM (re rs j9)) ++ (wpad (wpr (wws T) tw).1 ((wpr (wws T) tw).2 + 1 + (kc + 1))).set (wpr (wws T) tw).2 (wsz kc)).length), .inl (upd fppd (rPw Wz + ((np_enc (rM (re rs j9))).length + (wpr (wws T) tw).2)) (vp_nar .byte (nI (kc + 1)))))) := ⟨_, rfl⟩
                        have hG : zP E G7 H := by rw [eG7]; exact hG
                        have k8 : G7 (hpd 15) = some (.inl (E.2.1 0, rcp c2 (rPw Wz + (np_enc (rM (re rs j9)) ++ (wpad (wpr (wws T) tw).1 ((wpr (wws T) tw).2 + 1 + (kc + 1))).set (wpr (wws T) tw).2 (wsz kc)).length), .inl (upd fppd (rPw Wz + ((np_enc (rM (re rs j9))).length + (wpr (wws T) tw).2)) (vp_nar .byte (nI (kc + 1)))))) := by rw [eG7]; exact zg_up_self _ _ _
                        refine lv_goto (tgt := 116) hx hb d_Mo_link_151 (by decide) ?_
                        obtain ⟨ro4, hst4, hfkpd⟩ := rCx.poke hcpd y1pd ((np_enc (rM (re rs j9))).length + ((wpr (wws T) tw).2)) (by omega) (vp_nar .byte (nI (kc + 1))) (by rw [vpn (by omega), wsz_n (by omega)]; exact fit_n (by omega))
                        rw [eh0pd, eh1pd, eh2pd, ← eG7] at hst4
                        rw [← eG7] at hfkpd
                        have hst4 : rSt E G7 ro4 a c1 c2 lo rs Wz (np_enc (rM (re rs j9)) ++ (wpad (wpr (wws T) tw).1 ((wpr (wws T) tw).2 + 1 + (kc + 1))).set (wpr (wws T) tw).2 (wsz (kc + 1))) True (wln Wz, 2, ls1, wp) th tp co se v19 v20 := by rw [show np_enc (rM (re rs j9)) ++ (wpad (wpr (wws T) tw).1 ((wpr (wws T) tw).2 + 1 + (kc + 1))).set (wpr (wws T) tw).2 (wsz (kc + 1)) = (np_enc (rM (re rs j9)) ++ (wpad (wpr (wws T) tw).1 ((wpr (wws T) tw).2 + 1 + (kc + 1))).set (wpr (wws T) tw).2 (wsz kc)).set ((np_enc (rM (re rs j9))).length + ((wpr (wws T) tw).2)) (vp_nar .byte (nI (kc + 1))) from by rw [set_app, List.set_set, vpn (by omega)]]; exact hst4
                        have hf4 : zfr ro zKr G ro4 G7 := hfpd.tr hfkpd
                        have hl39 : (np_enc (rM (re rs j9)) ++ (wpad (wpr (wws T) tw).1 ((wpr (wws T) tw).2 + 1 + (kc + 1))).set (wpr (wws T) tw).2 (wsz (kc + 1))).length = (np_enc (rM (re rs j9)) ++ (wpad (wpr (wws T) tw).1 ((wpr (wws T) tw).2 + 1 + (kc + 1))).set (wpr (wws T) tw).2 (wsz kc)).length := by rw [hlpd]; rw [List.length_append, List.length_set, wpad_len]; omega
                        refine zW_more (cells2 := 2 * (rcp c2 (rPw Wz + (np_enc (rM (re rs j9)) ++ (wpad (wpr (wws T) tw).1 ((wpr (wws T) tw).2 + 1 + (kc + 1))).set (wpr (wws T) tw).2 (wsz (kc + 1))).length) - rcp c2 (rPw Wz))) (slots2 := 2 * (rcp c2 (rPw Wz + (np_enc (rM (re rs j9)) ++ (wpad (wpr (wws T) tw).1 ((wpr (wws T) tw).2 + 1 + (kc + 1))).set (wpr (wws T) tw).2 (wsz (kc + 1))).length) - rcp c2 (rPw Wz))) (by rw [hl39]; exact Nat.le_refl _) (by rw [hl39]; exact Nat.le_refl _) ?_
                        exact ih G7 (kc + 1) ro4 _ _ (by omega) (by omega) (by omega) (hst4) (hf4) hG hS ls (lv_sub hl [0, 1, 2, 3, 4, 5, 6] rfl)
                  have hsz9 : nI (rPw Wz + ((np_enc (rM (re rs j9))).length + ((wws T).1.length + 1))) = nI (rPw Wz + ((np_enc (rM (re rs j9))).length + (wpr (wws T) tw).2)) := by rw [hpr]
                  rw [hsz9] at hl
                  have hst5 : rSt E G105 ropc a c1 c2 lo rs Wz (np_enc (rM (re rs j9)) ++ (wpad (wpr (wws T) tw).1 ((wpr (wws T) tw).2 + 1 + k0)).set (wpr (wws T) tw).2 (wsz k0)) True (wln Wz, 2, ls1, wp) th tp co se v19 v20 := by rw [hP3, hpr]; exact hstpc
                  refine zW_more (cells2 := 2 * (rcp c2 (rPw Wz + (np_enc (rM (re rs j9)) ++ (wpad (wpr (wws T) tw).1 ((wpr (wws T) tw).2 + 1 + k0)).set (wpr (wws T) tw).2 (wsz k0)).length) - rcp c2 (rPw Wz))) (slots2 := 2 * (rcp c2 (rPw Wz + (np_enc (rM (re rs j9)) ++ (wpad (wpr (wws T) tw).1 ((wpr (wws T) tw).2 + 1 + k0)).set (wpr (wws T) tw).2 (wsz k0)).length) - rcp c2 (rPw Wz))) (by rw [hP3, hpr]; exact Nat.le_refl _) (by rw [hP3, hpr]; exact Nat.le_refl _) ?_
                  exact loop116 _ G105 k0 ropc _ _ (Nat.lt_succ_self _) (Nat.le_refl _) (hk02) (hst5) (hfpc) hG hS ls (lv_sub hl [2, 3, 4, 5, 1, 0, 6] rfl)
          refine zW_more (cells2 := 2 * (rcp c2 (rPw Wz + (np_enc (rM (re rs j9)) ++ (wws ([])).1).length) - rcp c2 (rPw Wz))) (slots2 := 2 * (rcp c2 (rPw Wz + (np_enc (rM (re rs j9)) ++ (wws ([])).1).length) - rcp c2 (rPw Wz))) (by rw [show np_enc (rM (re rs j9)) ++ (wws ([])).1 = np_enc (rM (re rs j9)) from List.append_nil _]; exact Nat.le_refl _) (by rw [show np_enc (rM (re rs j9)) ++ (wws ([])).1 = np_enc (rM (re rs j9)) from List.append_nil _]; exact Nat.le_refl _) ?_
          exact loop75 _ Gv ([]) 0 tn0 0 ro8 _ _ (Nat.lt_succ_self _) (rTp_0 (fun t ht h65 => rTy_pos hgd ht)) (by decide) (htn0) (hnxx0) (Or.inl rfl) (fun z => absurd z (Nat.lt_irrefl _)) (by rw [show np_enc (rM (re rs j9)) ++ (wws ([])).1 = np_enc (rM (re rs j9)) from List.append_nil _]; exact hst6) (hf8) hG hS ls (lv_sub hl [4, 5, 6, 3, 2, 1, 0] rfl)
        · have b34 : ¬ (np_len (rM (re rs j9))) ≤ i := fun q => c34 ((nI_leI (a := (np_len (rM (re rs j9)))) (b := i) (by omega) (by omega)).mpr q)
          refine lv_aload_n hx hb d_Mo_link_37 rfl (lv_at hl 0 rfl) ?_
          refine lv_aload_n hx hb d_Mo_link_38 rfl (lv_at hl 3 rfl) ?_
          refine lv_iload hx hb d_Mo_link_39 (lv_at hl 4 rfl) ?_
          refine zg_bald hx hb hK hG 0 ny18 rfl (vp_in_nI (by omega) (by omega)) d_Mo_link_41 ?_
          refine zi_as (y := fy8 i) (by rw [zi_n _ (by omega)]) ?_
          have hin : i < np_len (rM (re rs j9)) := by omega
          have hby8 : fy8 i = (np_enc (rM (re rs j9))).getD i 0 := ny28 i hin
          have hid8 := by_id (ny48 i)
          have hla : ((np_enc (rM (re rs j9))).take (i + 1)).length = ((np_enc (rM (re rs j9))).take i).length + 1 := by rw [List.length_take, List.length_take]; omega
          have hrsa : rcp c2 (rPw Wz + ((np_enc (rM (re rs j9))).take (i + 1)).length) = rcp c2 (rPw Wz + ((np_enc (rM (re rs j9))).take i).length + 1) := by rw [hla]; rfl
          have hm0a : rcp c2 (rPw Wz) ≤ rcp c2 (rPw Wz + ((np_enc (rM (re rs j9))).take i).length) := rcp_mono2 hc2 (Nat.le_add_right _ _)
          have hm1a : rcp c2 (rPw Wz + ((np_enc (rM (re rs j9))).take i).length) ≤ rcp c2 (rPw Wz + ((np_enc (rM (re rs j9))).take i).length + 1) := rcp_mono hc2 _
          have hLva : ((np_enc (rM (re rs j9))).take i).length + 1 ≤ (vlk (rVf rs) lo ls1).length := by rw [hpl8]; omega
          have hm2a : rcp c2 (rPw Wz + ((np_enc (rM (re rs j9))).take i).length + 1) ≤ rcp c2 (rPw Wz + (vlk (rVf rs) lo ls1).length) := rcp_mono2 hc2 (by omega)
          have hGo42 := hG
          refine zk_v (va_runV (As := [.int (fy8 i)]) (rest := []) ⟨hx, hb, hml, hown, hts⟩ (t_Mo_pool_s l hst8 (fy8 i) (Nat.le_trans hm2a hbM)) (zcV 1 hts w_1516 w_1518 wp_47 w_30 w_1519 (by decide +kernel) ⟨Nat.le_of_ble_eq_true rfl, Nat.le_of_ble_eq_true rfl⟩) (zc_preV hbase hK hN hQ hG hS ra8 rfl) rfl rfl hl.1 rfl (lv_room (Nat.le_of_ble_eq_true rfl)) d_Mo_link_42 ⟨(by dsimp only; omega), (by dsimp only; omega)⟩) hS (fun G42 H locs hp42 hG hS => ?_)
          obtain ⟨ro9, hst9, hf9⟩ := hp42
          have hst9 : rSt E G42 ro9 a c1 c2 lo rs Wz ((np_enc (rM (re rs j9))).take (i + 1)) True (wln Wz, 2, ls1, wp) th tp co se v19 v20 := by rw [show (np_enc (rM (re rs j9))).take (i + 1) = (np_enc (rM (re rs j9))).take i ++ [(fy8 i).toInt8.toInt32] from by rw [List.take_add_one, hid8, hby8, List.getD_eq_getElem?_getD, List.getElem?_eq_getElem (by omega)]; rfl]; exact hst9
          have hf9 : zfr ro zKr G ro9 G42 := hf8.tr hf9
          refine lv_iinc (v := nI (i + 1)) (lv' := [(4, .int (nI (i + 1))), (0, .ref a), (1, .ref b1), (2, .int (nI (rPw Wz))), (3, .ref (rN (re rs j9)))]) hx hb d_Mo_link_45 hl (k := 4) rfl (nI_add i 1) (by decide) rfl (fun ls hl => ?_)
          refine lv_goto (tgt := 30) hx hb d_Mo_link_48 (by decide) ?_
          refine zW_more (cells2 := 2 * (rcp c2 (rPw Wz + ((np_enc (rM (re rs j9))).take (i + 1)).length) - rcp c2 (rPw Wz))) (slots2 := 2 * (rcp c2 (rPw Wz + ((np_enc (rM (re rs j9))).take (i + 1)).length) - rcp c2 (rPw Wz))) (by dsimp only; omega) (by dsimp only; omega) ?_
          exact ih G42 (i + 1) ro9 _ _ (by omega) (by omega) (hst9) (hf9) hG hS ls (lv_sub hl [1, 2, 3, 4, 0] rfl)
    refine zW_more (cells2 := 2 * (rcp c2 (rPw Wz + ((np_enc (rM (re rs j9))).take 0).length) - rcp c2 (rPw Wz))) (slots2 := 2 * (rcp c2 (rPw Wz + ((np_enc (rM (re rs j9))).take 0).length) - rcp c2 (rPw Wz))) (Nat.zero_le _) (Nat.zero_le _) ?_
    exact loop30 _ G 0 ro _ _ (Nat.lt_succ_self _) (Nat.zero_le _) (hst2) (zfr.rf) hG hS ls (lv_sub hl [3, 4, 2, 1, 0] rfl)
  · exact hret _ _ _ _ _ _ _ (⟨ro, by rw [vpr_k (hp9.1.nz c12)]; exact hst, zfr.rf⟩) hG hS (Nat.zero_le _) (Nat.zero_le _) d_Mo_link_15
