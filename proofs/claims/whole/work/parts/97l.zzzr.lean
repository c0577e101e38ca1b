/-! THE REFERENCE: what is given away -/
/-- the rows are not too many -/
def rBd (c2 : Nat) (X : zW) : Prop := wln X ≤ 4096 ∧ rcp c2 (rPw X) ≤ 2 ^ 20
theorem rBd.le {c2 : Nat} {W X : zW} (h : rBd c2 X) (hc : 0 < c2) (hl : zLe W X) : rBd c2 W := ⟨Nat.le_trans (wln_le hl) h.1, Nat.le_trans (rcp_mono2 hc (rPw_le hl)) h.2⟩
theorem rSt.dn {E : zc_E} {G : zg_G} {ro : zRo} {a c1 c2 : Nat} {lo : np_N} {rs : List zRt} {W : zW} {px : List Int32} {qp : Prop} {nq : Nat × Int32 × np_N × zWs} {th co se : Int32} {tp : List Int32} {v19 v20 : Value} (hs : rSt E G ro a c1 c2 lo rs W px qp nq th tp co se v19 v20) {j : Nat} (hj : j < rs.length) (ht : rT (re rs j) = 2 ∨ rT (re rs j) = 5) : rNm E G ro (rD (re rs j)) (vtg (rT (re rs j)) (rB (re rs j))) := by
  have hgd := hs.gd
  obtain ⟨h1, ⟨f, h2, h3, h4⟩, h5⟩ := hs.nm hj
  obtain ⟨ls, e1, e2, e3⟩ := (hgd.2.2.2.2.2.2 _ (re_mem hj)).2.2.2.2.2.2.1 (by rcases ht with e | e <;> rw [e] <;> simp)
  have e0 : voff (rT (re rs j)) = 0 := by rcases ht with e | e <;> rw [e] <;> decide
  have ev : vtg (rT (re rs j)) (rB (re rs j)) = ls := vnm_y e1 e2
  rw [ev]
  rw [e0, List.drop_zero] at e1
  have hl : np_len ls = (rB (re rs j)).length := by rw [← e1, np_enc_len]
  exact ⟨f, by rw [hl]; exact h2, fun i hi => by rw [h3 i (by omega), e1], e2, h4, h5⟩
theorem vrf1_no {V : zVt} {top : np_N} {W : zW} {c : np_N} : vrf1 V top false W c = wad 2 W (vrw V c c 2) := by
  unfold vrf1
  split
  · unfold vpr; rw [zif_n (fun z => by cases z.1)]; rfl
  · rfl
theorem vrf1_y {V : zVt} {top : np_N} {W : zW} {c : np_N} (h : V c 43 ≠ []) : vrf1 V top true W c = wad 2 (wad 2 W (vrw V c c 2)) (vrw V c c 43) := by
  unfold vrf1
  rw [if_neg h]; rfl
theorem vrf1_l {V : zVt} {top : np_N} {W : zW} {c : np_N} (h : V c 43 = []) : vrf1 V top true W c = vpr V top true (wad 2 W (vrw V c c 2)) c := by
  unfold vrf1
  rw [if_pos h]; rfl
noncomputable def rfo (rs : List zRt) (c : np_N) (W : zW) (i : Nat) : zW := ((rs.take i).filter (fun e => decide (rM e = c ∧ rT e = 2))).foldl (fun W e => vao (rVf rs) W (vtg 2 (rB e))) W
theorem rfo_all (rs : List zRt) (top : np_N) (sec : Bool) (c : np_N) (W : zW) : rfo rs c (vrf1 (rVf rs) top sec W c) rs.length = vrf (rVf rs) top sec W c := by
  unfold rfo vrf
  rw [List.take_length]
  show _ = ((rs.filter _).map _).foldl _ _
  rw [List.foldl_map]
theorem rfo_y {rs : List zRt} {c : np_N} {W : zW} {i : Nat} (hi : i < rs.length) (h : rT (re rs i) = 2 ∧ rM (re rs i) = c) : rfo rs c W (i + 1) = vao (rVf rs) (rfo rs c W i) (vtg 2 (rB (re rs i))) := by
  unfold rfo
  rw [List.take_add_one, List.getElem?_eq_getElem hi, List.filter_append, List.foldl_append, ← re_at hi]
  simp [h]
theorem rfo_n {rs : List zRt} {c : np_N} {W : zW} {i : Nat} (hi : i < rs.length) (h : ¬ (rT (re rs i) = 2 ∧ rM (re rs i) = c)) : rfo rs c W (i + 1) = rfo rs c W i := by
  unfold rfo
  have h2 : ¬ (rM (re rs i) = c ∧ rT (re rs i) = 2) := fun z => h ⟨z.2, z.1⟩
  rw [List.take_add_one, List.getElem?_eq_getElem hi, List.filter_append, List.foldl_append, ← re_at hi]
  simp [h2]
theorem rfo_le {rs : List zRt} {c : np_N} {W : zW} {i j : Nat} (h : i ≤ j) : zLe (rfo rs c W i) (rfo rs c W j) := by
  unfold rfo
  obtain ⟨T, e⟩ := List.IsPrefix.filter (fun e => decide (rM e = c ∧ rT e = 2)) (List.take_prefix_take_left (l := rs) h)
  rw [← e, List.foldl_append]
  exact vfold_le _ (fun W p => vao_le _ W _) _ _
theorem zscu_0 {se : Int32} (h : se = 0) : zscu se = false := by rw [h]; rfl
theorem zscu_1 {se : Int32} (h : ¬ se = 0) : zscu se = true := decide_eq_true h
theorem vpr_f {V : zVt} {top : np_N} {W : zW} {x : np_N} : vpr V top false W x = W := zif_n (fun z => by cases z.1)
theorem rco_self {V : zVt} {top x c : np_N} (h : vco V top x = some c) : ¬ vaw V top c := by
  have hco := vco_s h
  rintro ⟨d, hd, hne⟩
  have hd2 := (vco_s hd).1
  have h3 := hco.2 d ⟨hd2.1.trans hco.1.1, hd2.2⟩
  exact hne (hd2.1.eq_of_length (Nat.le_antisymm hd2.1.length_le h3))
theorem rV47 {lo : np_N} {rs : List zRt} {x : np_N} {t : Int32} (h : rGd lo rs) (hv : rVf rs x t ≠ []) : t ≠ 47 := by
  obtain ⟨e, he, e1, -⟩ := rVf_ne.mp hv
  rw [← e1]
  exact (h.2.2.2.2.2.2 e he).2.2.2.2.2.2.2
theorem isCl_of {lo : np_N} {rs : List zRt} (h : rGd lo rs) {x : np_N} {k : Nat} (hlo : lo <:+ x) (hk : k ≤ x.length) (hth : vth (rVf rs) (x.drop k)) (hno : ∀ j, j < k → ¬ (np_len lo ≤ np_len (x.drop j) ∧ vth (rVf rs) (x.drop j))) : isCl (rVf rs) x (x.drop k) := by
  have e := rcl_y h hlo hk hth hno
  have hex : ∃ s, isCl (rVf rs) x s := by
    have key : ∀ n, ∀ s, s <:+ x → vth (rVf rs) s → x.length - s.length ≤ n → ∃ s, isCl (rVf rs) x s := by
      intro n
      induction n with
      | zero => intro s h1 h2 h3; exact ⟨s, h1, h2, fun s2 h4 _ => by have := h4.length_le; omega⟩
      | succ n ih =>
        intro s h1 h2 h3
        by_cases z : ∃ s2, s2 <:+ x ∧ vth (rVf rs) s2 ∧ s.length < s2.length
        · obtain ⟨s2, z1, z2, z3⟩ := z
          exact ih s2 z1 z2 (by have := z1.length_le; omega)
        · exact ⟨s, h1, h2, fun s2 h4 h5 => Nat.le_of_not_lt (fun w => z ⟨s2, h4, h5, w⟩)⟩
    exact key _ _ hlo ⟨lo, h.top, List.suffix_refl _⟩ (Nat.le_refl _)
  obtain ⟨s, hs⟩ := hex
  have e2 := vcl_y hs
  rw [e] at e2
  rw [e2]; exact hs
theorem vrf1_le2 (V : zVt) (top : np_N) (sec : Bool) (W : zW) (c : np_N) : zLe (wad 2 W (vrw V c c 2)) (vrf1 V top sec W c) := by
  unfold vrf1
  split
  · exact vpr_le V top sec _ c
  · split
    · exact zLe.w2 _ _
    · exact zLe.rf _
theorem w_1298 : (.fieldLink "ZoneAnswersModel" 208 "ZoneAnswersModel" "secure" "Z" : Cond) ∈ zw := zw_at 1298 (by decide +kernel) (by decide +kernel)
theorem w_1493 : (.methodLink "ZoneAnswersModel" 215 ⟨"ZoneAnswersModel", "link", "([B)V"⟩ : Cond) ∈ zw := zw_at 1493 (by decide +kernel) (by decide +kernel)
theorem w_1495 : (.instanceMethod ⟨"ZoneAnswersModel", "link", "([B)V"⟩ : Cond) ∈ zw := zw_at 1495 (by decide +kernel) (by decide +kernel)
theorem w_1496 : (.code ⟨"ZoneAnswersModel", "link", "([B)V"⟩ prog_12_method_25_code 8 none : Cond) ∈ zw := zw_at 1496 (by decide +kernel) (by decide +kernel)
theorem w_1532 : (.methodLink "ZoneAnswersModel" 225 ⟨"ZoneAnswersModel", "more", "([B)V"⟩ : Cond) ∈ zw := zw_at 1532 (by decide +kernel) (by decide +kernel)
theorem w_1534 : (.instanceMethod ⟨"ZoneAnswersModel", "more", "([B)V"⟩ : Cond) ∈ zw := zw_at 1534 (by decide +kernel) (by decide +kernel)
theorem w_1535 : (.code ⟨"ZoneAnswersModel", "more", "([B)V"⟩ prog_12_method_27_code 4 none : Cond) ∈ zw := zw_at 1535 (by decide +kernel) (by decide +kernel)
theorem w_1540 : (.methodLink "ZoneAnswersModel" 185 ⟨"ZoneAnswersModel", "there", "([BI)Z"⟩ : Cond) ∈ zw := zw_at 1540 (by decide +kernel) (by decide +kernel)
theorem w_1542 : (.instanceMethod ⟨"ZoneAnswersModel", "there", "([BI)Z"⟩ : Cond) ∈ zw := zw_at 1542 (by decide +kernel) (by decide +kernel)
theorem w_1543 : (.code ⟨"ZoneAnswersModel", "there", "([BI)Z"⟩ prog_12_method_7_code 4 (some .boolean) : Cond) ∈ zw := zw_at 1543 (by decide +kernel) (by decide +kernel)
theorem wp_43 : (.selects "ZoneAnswersModel" ⟨"ZoneAnswersModel", "link", "([B)V"⟩ ⟨"ZoneAnswersModel", "link", "([B)V"⟩ : Cond) ∈ zw := zw_pv 43 (y := ⟨"ZoneAnswersModel", "link", "([B)V"⟩) rfl (by decide +kernel)
theorem wp_50 : (.selects "ZoneAnswersModel" ⟨"ZoneAnswersModel", "more", "([B)V"⟩ ⟨"ZoneAnswersModel", "more", "([B)V"⟩ : Cond) ∈ zw := zw_pv 50 (y := ⟨"ZoneAnswersModel", "more", "([B)V"⟩) rfl (by decide +kernel)
theorem wp_52 : (.selects "ZoneAnswersModel" ⟨"ZoneAnswersModel", "there", "([BI)Z"⟩ ⟨"ZoneAnswersModel", "there", "([BI)Z"⟩ : Cond) ∈ zw := zw_pv 52 (y := ⟨"ZoneAnswersModel", "there", "([BI)Z"⟩) rfl (by decide +kernel)
abbrev c_Mo_closest : ByteArray := prog_12_method_30_code
abbrev y_Mo_closest : MethodName := ⟨"ZoneAnswersModel", "closest", "([B)I"⟩
theorem d_Mo_closest_0 : decode c_Mo_closest 0 = .ok (.aload_n 1, 1) := by decide +kernel
theorem d_Mo_closest_1 : decode c_Mo_closest 1 = .ok (.iconst 0, 1) := by decide +kernel
theorem d_Mo_closest_2 : decode c_Mo_closest 2 = .ok (.baload, 1) := by decide +kernel
theorem d_Mo_closest_3 : decode c_Mo_closest 3 = .ok (.iconst 1, 1) := by decide +kernel
theorem d_Mo_closest_4 : decode c_Mo_closest 4 = .ok (.iadd, 1) := by decide +kernel
theorem d_Mo_closest_5 : decode c_Mo_closest 5 = .ok (.istore_n 2, 1) := by decide +kernel
theorem d_Mo_closest_6 : decode c_Mo_closest 6 = .ok (.aload_n 0, 1) := by decide +kernel
theorem d_Mo_closest_7 : decode c_Mo_closest 7 = .ok (.aload_n 1, 1) := by decide +kernel
theorem d_Mo_closest_8 : decode c_Mo_closest 8 = .ok (.iload_n 2, 1) := by decide +kernel
theorem d_Mo_closest_9 : decode c_Mo_closest 9 = .ok (.invokevirtual 185, 3) := by decide +kernel
theorem d_Mo_closest_12 : decode c_Mo_closest 12 = .ok (.ifCond .ne 14, 3) := by decide +kernel
theorem d_Mo_closest_15 : decode c_Mo_closest 15 = .ok (.iload_n 2, 1) := by decide +kernel
theorem d_Mo_closest_16 : decode c_Mo_closest 16 = .ok (.aload_n 1, 1) := by decide +kernel
theorem d_Mo_closest_17 : decode c_Mo_closest 17 = .ok (.iload_n 2, 1) := by decide +kernel
theorem d_Mo_closest_18 : decode c_Mo_closest 18 = .ok (.baload, 1) := by decide +kernel
theorem d_Mo_closest_19 : decode c_Mo_closest 19 = .ok (.iconst 1, 1) := by decide +kernel
theorem d_Mo_closest_20 : decode c_Mo_closest 20 = .ok (.iadd, 1) := by decide +kernel
theorem d_Mo_closest_21 : decode c_Mo_closest 21 = .ok (.iadd, 1) := by decide +kernel
theorem d_Mo_closest_22 : decode c_Mo_closest 22 = .ok (.istore_n 2, 1) := by decide +kernel
theorem d_Mo_closest_23 : decode c_Mo_closest 23 = .ok (.goto (-17), 3) := by decide +kernel
theorem d_Mo_closest_26 : decode c_Mo_closest 26 = .ok (.iload_n 2, 1) := by decide +kernel
theorem d_Mo_closest_27 : decode c_Mo_closest 27 = .ok (.ireturn, 1) := by decide +kernel
abbrev c_Mo_delegated : ByteArray := prog_12_method_32_code
abbrev y_Mo_delegated : MethodName := ⟨"ZoneAnswersModel", "delegated", "([B)V"⟩
theorem d_Mo_delegated_0 : decode c_Mo_delegated 0 = .ok (.aload_n 0, 1) := by decide +kernel
theorem d_Mo_delegated_1 : decode c_Mo_delegated 1 = .ok (.iconst 2, 1) := by decide +kernel
theorem d_Mo_delegated_2 : decode c_Mo_delegated 2 = .ok (.aload_n 1, 1) := by decide +kernel
theorem d_Mo_delegated_3 : decode c_Mo_delegated 3 = .ok (.aload_n 1, 1) := by decide +kernel
theorem d_Mo_delegated_4 : decode c_Mo_delegated 4 = .ok (.iconst 2, 1) := by decide +kernel
theorem d_Mo_delegated_5 : decode c_Mo_delegated 5 = .ok (.iconst (-1), 1) := by decide +kernel
theorem d_Mo_delegated_6 : decode c_Mo_delegated 6 = .ok (.invokevirtual 181, 3) := by decide +kernel
theorem d_Mo_delegated_9 : decode c_Mo_delegated 9 = .ok (.aload_n 0, 1) := by decide +kernel
theorem d_Mo_delegated_10 : decode c_Mo_delegated 10 = .ok (.getfield 208, 3) := by decide +kernel
theorem d_Mo_delegated_13 : decode c_Mo_delegated 13 = .ok (.ifCond .eq 32, 3) := by decide +kernel
theorem d_Mo_delegated_16 : decode c_Mo_delegated 16 = .ok (.aload_n 0, 1) := by decide +kernel
theorem d_Mo_delegated_17 : decode c_Mo_delegated 17 = .ok (.aload_n 1, 1) := by decide +kernel
theorem d_Mo_delegated_18 : decode c_Mo_delegated 18 = .ok (.iconst 0, 1) := by decide +kernel
theorem d_Mo_delegated_19 : decode c_Mo_delegated 19 = .ok (.bipush 43, 2) := by decide +kernel
theorem d_Mo_delegated_21 : decode c_Mo_delegated 21 = .ok (.invokevirtual 90, 3) := by decide +kernel
theorem d_Mo_delegated_24 : decode c_Mo_delegated 24 = .ok (.ifCond .eq 16, 3) := by decide +kernel
theorem d_Mo_delegated_27 : decode c_Mo_delegated 27 = .ok (.aload_n 0, 1) := by decide +kernel
theorem d_Mo_delegated_28 : decode c_Mo_delegated 28 = .ok (.iconst 2, 1) := by decide +kernel
theorem d_Mo_delegated_29 : decode c_Mo_delegated 29 = .ok (.aload_n 1, 1) := by decide +kernel
theorem d_Mo_delegated_30 : decode c_Mo_delegated 30 = .ok (.aload_n 1, 1) := by decide +kernel
theorem d_Mo_delegated_31 : decode c_Mo_delegated 31 = .ok (.bipush 43, 2) := by decide +kernel
theorem d_Mo_delegated_33 : decode c_Mo_delegated 33 = .ok (.iconst (-1), 1) := by decide +kernel
theorem d_Mo_delegated_34 : decode c_Mo_delegated 34 = .ok (.invokevirtual 181, 3) := by decide +kernel
theorem d_Mo_delegated_37 : decode c_Mo_delegated 37 = .ok (.goto 8, 3) := by decide +kernel
theorem d_Mo_delegated_40 : decode c_Mo_delegated 40 = .ok (.aload_n 0, 1) := by decide +kernel
theorem d_Mo_delegated_41 : decode c_Mo_delegated 41 = .ok (.aload_n 1, 1) := by decide +kernel
theorem d_Mo_delegated_42 : decode c_Mo_delegated 42 = .ok (.invokevirtual 215, 3) := by decide +kernel
theorem d_Mo_delegated_45 : decode c_Mo_delegated 45 = .ok (.iconst 0, 1) := by decide +kernel
theorem d_Mo_delegated_46 : decode c_Mo_delegated 46 = .ok (.istore_n 2, 1) := by decide +kernel
theorem d_Mo_delegated_47 : decode c_Mo_delegated 47 = .ok (.iload_n 2, 1) := by decide +kernel
theorem d_Mo_delegated_48 : decode c_Mo_delegated 48 = .ok (.aload_n 0, 1) := by decide +kernel
theorem d_Mo_delegated_49 : decode c_Mo_delegated 49 = .ok (.getfield 61, 3) := by decide +kernel
theorem d_Mo_delegated_52 : decode c_Mo_delegated 52 = .ok (.if_icmp .ge 51, 3) := by decide +kernel
theorem d_Mo_delegated_55 : decode c_Mo_delegated 55 = .ok (.aload_n 0, 1) := by decide +kernel
theorem d_Mo_delegated_56 : decode c_Mo_delegated 56 = .ok (.getfield 19, 3) := by decide +kernel
theorem d_Mo_delegated_59 : decode c_Mo_delegated 59 = .ok (.iload_n 2, 1) := by decide +kernel
theorem d_Mo_delegated_60 : decode c_Mo_delegated 60 = .ok (.aaload, 1) := by decide +kernel
theorem d_Mo_delegated_61 : decode c_Mo_delegated 61 = .ok (.getfield 67, 3) := by decide +kernel
theorem d_Mo_delegated_64 : decode c_Mo_delegated 64 = .ok (.iconst 2, 1) := by decide +kernel
theorem d_Mo_delegated_65 : decode c_Mo_delegated 65 = .ok (.if_icmp .ne 32, 3) := by decide +kernel
theorem d_Mo_delegated_68 : decode c_Mo_delegated 68 = .ok (.aload_n 0, 1) := by decide +kernel
theorem d_Mo_delegated_69 : decode c_Mo_delegated 69 = .ok (.getfield 19, 3) := by decide +kernel
theorem d_Mo_delegated_72 : decode c_Mo_delegated 72 = .ok (.iload_n 2, 1) := by decide +kernel
theorem d_Mo_delegated_73 : decode c_Mo_delegated 73 = .ok (.aaload, 1) := by decide +kernel
theorem d_Mo_delegated_74 : decode c_Mo_delegated 74 = .ok (.getfield 65, 3) := by decide +kernel
theorem d_Mo_delegated_77 : decode c_Mo_delegated 77 = .ok (.aload_n 1, 1) := by decide +kernel
theorem d_Mo_delegated_78 : decode c_Mo_delegated 78 = .ok (.invokestatic 80, 3) := by decide +kernel
theorem d_Mo_delegated_81 : decode c_Mo_delegated 81 = .ok (.ifCond .eq 16, 3) := by decide +kernel
theorem d_Mo_delegated_84 : decode c_Mo_delegated 84 = .ok (.aload_n 0, 1) := by decide +kernel
theorem d_Mo_delegated_85 : decode c_Mo_delegated 85 = .ok (.aload_n 0, 1) := by decide +kernel
theorem d_Mo_delegated_86 : decode c_Mo_delegated 86 = .ok (.getfield 19, 3) := by decide +kernel
theorem d_Mo_delegated_89 : decode c_Mo_delegated 89 = .ok (.iload_n 2, 1) := by decide +kernel
theorem d_Mo_delegated_90 : decode c_Mo_delegated 90 = .ok (.aaload, 1) := by decide +kernel
theorem d_Mo_delegated_91 : decode c_Mo_delegated 91 = .ok (.getfield 71, 3) := by decide +kernel
theorem d_Mo_delegated_94 : decode c_Mo_delegated 94 = .ok (.invokevirtual 225, 3) := by decide +kernel
theorem d_Mo_delegated_97 : decode c_Mo_delegated 97 = .ok (.iinc 2 1, 3) := by decide +kernel
theorem d_Mo_delegated_100 : decode c_Mo_delegated 100 = .ok (.goto (-53), 3) := by decide +kernel
theorem d_Mo_delegated_103 : decode c_Mo_delegated 103 = .ok (.return_, 1) := by decide +kernel
abbrev rm_Mo_closest : Room := { frames := 6, cells := 0, slots := 0, locals := 170 }
set_option maxHeartbeats 4000000 in
set_option maxRecDepth 100000 in
/-- closest(x), of the reference -/
theorem t_Mo_closest (l : Launch) (E : zc_E) (G : zg_G) (a c1 c2 : Nat) (ro : zRo) (lo : np_N) (rs : List zRt) (Wz : zW) (px : List Int32) (qp : Prop) (nq : Nat × Int32 × np_N × zWs) (th co se : Int32) (tp : List Int32) (v19 v20 : Value) (hst : rSt E G ro a c1 c2 lo rs Wz px qp nq th tp co se v19 v20) (b1 : Nat) (ls1 : np_N) (hn1 : rNm E G ro b1 ls1) (hlo : lo <:+ ls1) (hnt : ¬ vth (rVf rs) ls1) : zMi l E y_Mo_closest c_Mo_closest 3 (some .int) rm_Mo_closest [.ref a, .ref b1] G (fun (r : Int32) (G2 : zg_G) => (∃ k, 0 < k ∧ k ≤ ls1.length ∧ vcl (rVf rs) ls1 = ls1.drop k ∧ isCl (rVf rs) ls1 (ls1.drop k) ∧ r = nI (np_pos ls1 k)) ∧ G2 = G) := by
  refine zMi.of (by decide) (Nat.le_of_ble_eq_true rfl) ?_
  intro p e s m args below meth c Q hZ hG hret ls hl
  obtain ⟨hx, hb, hr, hts, hown, hlocks, hml, hnm, hbase, hK, hN, hQ⟩ := hZ
  have hl : lv_has ls 3 [(0, .ref a), (1, .ref b1)] := hl
  have hS : zg_S (zc_b E) s.heap s.heap [] := va_S.rf
  obtain ⟨h, eh0, eh1, eh2, hc⟩ := id hst
  obtain ⟨ra, rb, ⟨fm, rt1, rt2, rt3, rt4⟩, rtl, ⟨fo, rn1, rn2, rn3, rn4, rn5⟩, rr, rg, ras⟩ := id hc
  rw [eh0] at ra
  obtain ⟨⟨fr, rm4, hfr⟩, hn2, hRs⟩ := id rr.1
  obtain ⟨f_b1, n1_b1, n2_b1, n3_b1, n4_b1, n5_b1⟩ := id hn1
  have sm_b1 := n3_b1.2
  have hgd := hst.gd
  have cn1 := hn1.fn.2.count
  have hne1 : 0 < ls1.length := by
    rcases Nat.eq_zero_or_pos ls1.length with z | z
    · have e1 : ls1 = [] := List.length_eq_zero_iff.mp z
      exact absurd ⟨lo, hgd.top, by rw [e1]; exact List.nil_suffix⟩ hnt
    · exact z
  have hp1 : np_pos ls1 0 = 0 := np_pos0 ls1
  refine lv_aload_n hx hb d_Mo_closest_0 rfl (lv_at hl 1 rfl) ?_
  refine lv_iconst (v := 0) hx hb d_Mo_closest_1 (by decide) ?_
  refine zi_as (y := nI (np_pos ls1 0)) (by rw [hp1]; rfl) ?_
  refine zg_bald hx hb hK hG 0 n1_b1 rfl (vp_in_nI (by have := np_len_drop ls1 0 (Nat.zero_le _); unfold np_len; omega) (by omega)) d_Mo_closest_2 ?_
  refine zi_as (y := nI (ls1.getD 0 []).length) (np_rd n2_b1 n3_b1 hne1) ?_
  refine lv_iconst (v := 1) hx hb d_Mo_closest_3 (by decide) ?_
  refine lv_iadd hx hb d_Mo_closest_4 ?_
  refine zi_as (y := nI (np_pos ls1 1)) (by have q := np_step (ls := ls1) hne1; rw [hp1] at q; rw [← q]; show _ = (0 : Int32) + _; rw [Int32.zero_add]) ?_
  refine lv_istore_n (lv' := [(2, .int (nI (np_pos ls1 1))), (0, .ref a), (1, .ref b1)]) hx hb d_Mo_closest_5 rfl hl (by decide) rfl (fun ls hl => ?_)
  have loop6 : ∀ (N : Nat) (k : Nat) (H : Heap) (locs : List Loc), (ls1.length - k) < N → (0 < k) → (k ≤ ls1.length) → (∀ j, j < k → ¬ (np_len lo ≤ np_len (ls1.drop j) ∧ vth (rVf rs) (ls1.drop j))) → zP E G H → zg_S (zc_b E) s.heap H locs → ∀ (ls : Array Slot), lv_has ls 3 [(0, .ref a), (1, .ref b1), (2, .int (nI (np_pos ls1 k)))] → W p l e rm_Mo_closest s m args below meth c H locs 0 0 Q (F0 m 6 ls []) := by
    intro N
    induction N with
    | zero =>
      intro k H locs hlt
      exact absurd hlt (Nat.not_lt_zero _)
    | succ N ih =>
      intro k H locs hlt hk0 hk hno hG hS ls hl
      refine lv_aload_n hx hb d_Mo_closest_6 rfl (lv_at hl 0 rfl) ?_
      refine lv_aload_n hx hb d_Mo_closest_7 rfl (lv_at hl 1 rfl) ?_
      refine lv_iload_n hx hb d_Mo_closest_8 rfl (lv_at hl 2 rfl) ?_
      refine zk_i (va_runV (As := [.ref b1, .int (nI (np_pos ls1 k))]) (rest := []) ⟨hx, hb, hml, hown, hts⟩ (t_Mo_there_s l hst k b1 ls1 hn1 hk) (zcV 2 hts w_1540 w_1542 wp_52 w_30 w_1543 (by decide +kernel) ⟨Nat.le_of_ble_eq_true rfl, Nat.le_of_ble_eq_true rfl⟩) (zc_preV hbase hK hN hQ hG hS ra rfl) rfl rfl hl.1 rfl (lv_room (Nat.le_of_ble_eq_true rfl)) d_Mo_closest_9 ⟨(by decide), (by decide)⟩) hS (fun r9 G9 H locs hp9 hG hS => ?_)
      have hG : zP E G H := hp9.2 ▸ hG
      refine lv_if_ne (tgt := 26) hx hb d_Mo_closest_12 (by decide) (fun c12 => ?_) (fun c12 => ?_)
      · refine lv_iload_n hx hb d_Mo_closest_26 rfl (lv_at hl 2 rfl) ?_
        exact hret _ _ _ _ _ _ _ _ _ hr (rfl) (⟨⟨k, hk0, hk, rcl_y hgd hlo hk (hp9.1.nz c12).2.2 hno, isCl_of hgd hlo hk (hp9.1.nz c12).2.2 hno, rfl⟩, rfl⟩) hG hS (Nat.le_refl _) (Nat.le_refl _) d_Mo_closest_27
      · have hkl : k < ls1.length := by
          rcases Nat.lt_or_ge k ls1.length with q | q
          · exact q
          · refine absurd ?_ (fun z => hp9.1.z c12 ⟨hlo, z⟩)
            have el := suf_drop hlo
            rcases Nat.eq_zero_or_pos lo.length with w | w
            · rw [show k = ls1.length - lo.length by omega, ← el]; exact ⟨Nat.le_refl _, lo, hgd.top, List.suffix_refl _⟩
            · exact absurd ⟨by rw [← el]; exact Nat.le_refl _, by rw [← el]; exact ⟨lo, hgd.top, List.suffix_refl _⟩⟩ (hno (ls1.length - lo.length) (by have := hlo.length_le; omega))
        refine lv_iload_n hx hb d_Mo_closest_15 rfl (lv_at hl 2 rfl) ?_
        refine lv_aload_n hx hb d_Mo_closest_16 rfl (lv_at hl 1 rfl) ?_
        refine lv_iload_n hx hb d_Mo_closest_17 rfl (lv_at hl 2 rfl) ?_
        refine zg_bald hx hb hK hG 0 n1_b1 rfl (np_in hn1.fn.2 (by omega)) d_Mo_closest_18 ?_
        refine zi_as (y := nI (ls1.getD k []).length) (np_rd n2_b1 n3_b1 hkl) ?_
        refine lv_iconst (v := 1) hx hb d_Mo_closest_19 (by decide) ?_
        refine lv_iadd hx hb d_Mo_closest_20 ?_
        refine zi_as (y := nI (ls1.getD k []).length + 1) (rfl) ?_
        refine lv_iadd hx hb d_Mo_closest_21 ?_
        refine zi_as (y := nI (np_pos ls1 (k + 1))) (np_step hkl) ?_
        refine lv_istore_n (lv' := [(2, .int (nI (np_pos ls1 (k + 1)))), (0, .ref a), (1, .ref b1)]) hx hb d_Mo_closest_22 rfl hl (by decide) rfl (fun ls hl => ?_)
        refine lv_goto (tgt := 6) hx hb d_Mo_closest_23 (by decide) ?_
        exact ih (k + 1) _ _ (by omega) (by omega) (hkl) (fun j hj => by rcases Nat.lt_or_ge j k with q | q; exact hno j q; rw [show j = k by omega]; exact fun z => hp9.1.z c12 ⟨hlo, z⟩) hG hS ls (lv_sub hl [1, 2, 0] rfl)
  exact loop6 _ 1 _ _ (Nat.lt_succ_self _) (by decide) (hne1) (fun j hj => by rw [show j = 0 by omega]; exact fun z => hnt z.2) hG hS ls (lv_sub hl [1, 2, 0] rfl)
abbrev rm_Mo_delegated (c9 s9 : Nat) : Room := { frames := 10, cells := c9, slots := s9, locals := 300 }
set_option maxHeartbeats 4000000 in
set_option maxRecDepth 100000 in
/-- delegated(c), of the reference -/
theorem t_Mo_delegated (l : Launch) (E : zc_E) (G : zg_G) (a c1 c2 : Nat) (ro : zRo) (lo : np_N) (rs : List zRt) (Wz : zW) (wp : zWs) (th co se : Int32) (tp : List Int32) (v19 v20 : Value) (hst : rSt E G ro a c1 c2 lo rs Wz ([]) True (wln Wz, 0, [], wp) th tp co se v19 v20) (b1 : Nat) (ls1 : np_N) (hn1 : rNm E G ro b1 ls1) (hna : ¬ vaw (rVf rs) lo ls1) (hB : rBd c2 (vrf (rVf rs) lo (zscu se) Wz ls1)) : zMv l E y_Mo_delegated c_Mo_delegated 3 (rm_Mo_delegated (rPi c1 c2 (vrf (rVf rs) lo (zscu se) Wz ls1) 0 - rPi c1 c2 Wz 0) (rPi c1 c2 (vrf (rVf rs) lo (zscu se) Wz ls1) 0 - rPi c1 c2 Wz 0)) [.ref a, .ref b1] G (fun (G2 : zg_G) => ∃ r2, rSt E G2 r2 a c1 c2 lo rs (vrf (rVf rs) lo (zscu se) Wz ls1) ([]) True (wln (vrf (rVf rs) lo (zscu se) Wz ls1), 0, [], wp) th tp co se v19 v20 ∧ zfr ro zKr G r2 G2) := by
  refine zMv.of (by decide) (Nat.le_of_ble_eq_true rfl) ?_
  intro p e s m args below meth c Q hZ hG hret ls hl
  obtain ⟨hx, hb, hr, hts, hown, hlocks, hml, hnm, hbase, hK, hN, hQ⟩ := hZ
  have hl : lv_has ls 3 [(0, .ref a), (1, .ref b1)] := hl
  have hS : zg_S (zc_b E) s.heap s.heap [] := va_S.rf
  have hc1 : 0 < c1 := by have := hst.cs.1; omega
  have hc2 : 0 < c2 := by have := hst.cs.2.1; omega
  have hgd := hst.gd
  obtain ⟨h, eh0, eh1, eh2, hc⟩ := id hst
  obtain ⟨ra, rb, ⟨fm, rt1, rt2, rt3, rt4⟩, rtl, ⟨fo, rn1, rn2, rn3, rn4, rn5⟩, rr, rg, ras⟩ := id hc
  rw [eh0] at ra
  obtain ⟨⟨fr, rm4, hfr⟩, hn2, hRs⟩ := id rr.1
  have hn_b1 : rNm E G ro b1 ls1 := hn1
  obtain ⟨f_b1, n1_b1, n2_b1, n3_b1, n4_b1, n5_b1⟩ := id hn_b1
  have sm_b1 := n3_b1.2
  have hler : zLe (vrf1 (rVf rs) lo (zscu se) Wz ls1) (vrf (rVf rs) lo (zscu se) Wz ls1) := by rw [← rfo_all]; exact rfo_le (i := 0) (Nat.zero_le _)
  have hpir := rPi_le (n := 0) (m := 0) hc1 hc2 hler (rPw_le hler)
  have hwlr := wln_le hler
  have hbr := hB.le hc2 hler
  have hlez : zLe (Wz) (vrf1 (rVf rs) lo (zscu se) Wz ls1) := vrf1_le _ _ _ _ _
  have hpiz := rPi_le (n := 0) (m := 0) hc1 hc2 hlez (rPw_le hlez)
  have hwlz := wln_le hlez
  have hlea : zLe (Wz) (wad 2 Wz (vrw (rVf rs) ls1 ls1 2)) := zLe_wad _ _ _
  have hpia := rPi_le (n := 0) (m := 0) hc1 hc2 hlea (rPw_le hlea)
  have hwla := wln_le hlea
  refine lv_aload_n hx hb d_Mo_delegated_0 rfl (lv_at hl 0 rfl) ?_
  refine lv_iconst (v := 2) hx hb d_Mo_delegated_1 (by decide) ?_
  refine lv_aload_n hx hb d_Mo_delegated_2 rfl (lv_at hl 1 rfl) ?_
  refine lv_aload_n hx hb d_Mo_delegated_3 rfl (lv_at hl 1 rfl) ?_
  refine lv_iconst (v := 2) hx hb d_Mo_delegated_4 (by decide) ?_
  refine lv_iconst (v := -1) hx hb d_Mo_delegated_5 (by decide) ?_
  have haw : wln (wad 2 Wz (vrw (rVf rs) ls1 ls1 2)) ≤ wln (vrf1 (rVf rs) lo (zscu se) Wz ls1) := wln_le (vrf1_le2 _ _ _ _ _)
  have hap : rPi c1 c2 (wad 2 Wz (vrw (rVf rs) ls1 ls1 2)) 0 ≤ rPi c1 c2 (vrf1 (rVf rs) lo (zscu se) Wz ls1) 0 := by have q := vrf1_le2 (rVf rs) lo (zscu se) Wz ls1; exact rPi_le hc1 hc2 q (rPw_le q)
  have hGo6 := hG
  refine zk_v (va_runV (As := [.int 2, .ref b1, .ref b1, .int 2, .int (-1)]) (rest := []) ⟨hx, hb, hml, hown, hts⟩ (t_Mo_give l E G a c1 c2 ro lo rs Wz [] True (wln Wz, 2, ls1, wp) th co se tp v19 v20 (hst.nxt rfl 2 ls1) 2 (Or.inr (Or.inl rfl)) b1 ls1 hn_b1 b1 ls1 hn_b1 2 (by decide) (by have := hbr.1; omega) (fun _ => ⟨rfl, rfl⟩)) (zcV 5 hts w_1475 w_1477 wp_40 w_30 w_1478 (by decide +kernel) ⟨Nat.le_of_ble_eq_true rfl, Nat.le_of_ble_eq_true rfl⟩) (zc_preV hbase hK hN hQ hG hS ra rfl) rfl rfl hl.1 rfl (lv_room (Nat.le_of_ble_eq_true rfl)) d_Mo_delegated_6 ⟨(by dsimp only [List.length_nil]; omega), (by dsimp only [List.length_nil]; omega)⟩) hS (fun G6 H locs hp6 hG hS => ?_)
  obtain ⟨roqa, hstqa, hsqa⟩ := hp6
  have hstqa := hstqa.lift trivial (Or.inl (by show (2 : Int32) ≠ 1; decide)) 0 []
  have hfqa : zfr ro zKr G roqa G6 := hsqa
  refine zW_more (cells2 := rPi c1 c2 (wad 2 Wz (vrw (rVf rs) ls1 ls1 2)) 0 - rPi c1 c2 Wz 0 + 0) (slots2 := rPi c1 c2 (wad 2 Wz (vrw (rVf rs) ls1 ls1 2)) 0 - rPi c1 c2 Wz 0 + 0) (by dsimp only [List.length_nil]; omega) (by dsimp only [List.length_nil]; omega) ?_
  obtain ⟨hqa, eh0qa, eh1qa, eh2qa, hcqa⟩ := id hstqa
  obtain ⟨raqa, rbqa, ⟨fmqa, rt1qa, rt2qa, rt3qa, rt4qa⟩, rtlqa, ⟨foqa, rn1qa, rn2qa, rn3qa, rn4qa, rn5qa⟩, rrqa, rgqa, rasqa⟩ := id hcqa
  rw [eh0qa] at raqa
  obtain ⟨⟨frqa, rm4qa, hfrqa⟩, hn2qa, hRsqa⟩ := id rrqa.1
  have hn_b1qa : rNm E G6 roqa b1 ls1 := hn_b1.fr hsqa zKr_0
  obtain ⟨f_b1qa, n1_b1qa, n2_b1qa, n3_b1qa, n4_b1qa, n5_b1qa⟩ := id hn_b1qa
  have sm_b1qa := n3_b1qa.2
  refine lv_aload_n hx hb d_Mo_delegated_9 rfl (lv_at hl 0 rfl) ?_
  refine zg_get (ci := 11) (C := "ZoneAnswersModel") (T := T_Mo) (N := 21) hx hb hts zi_Mo hown hK hG raqa rfl 17 (by decide) (hts _ w_1298) (fun _ h9 => h9) rfl d_Mo_delegated_10 ?_
  refine lv_if_eq (tgt := 45) hx hb d_Mo_delegated_13 (by decide) (fun c13 => ?_) (fun c13 => ?_)
  · have hR1 : vrf1 (rVf rs) lo (zscu se) Wz ls1 = wad 2 Wz (vrw (rVf rs) ls1 ls1 2) := by rw [zscu_0 c13]; exact vrf1_no
    have hpe : rPi c1 c2 (vrf1 (rVf rs) lo (zscu se) Wz ls1) 0 = rPi c1 c2 (wad 2 Wz (vrw (rVf rs) ls1 ls1 2)) 0 := by rw [hR1]
    refine lv_iconst (v := 0) hx hb d_Mo_delegated_45 (by decide) ?_
    refine zi_as (y := nI 0) (nI_0.symm) ?_
    refine lv_istore_n (lv' := [(2, .int (nI 0)), (0, .ref a), (1, .ref b1)]) hx hb d_Mo_delegated_46 rfl hl (by decide) rfl (fun ls hl => ?_)
    have loop47 : ∀ (N : Nat) (Gv : zg_G) (i : Nat) (ro8 : zRo) (H : Heap) (locs : List Loc), (rs.length - i) < N → (i ≤ rs.length) → (rSt E Gv ro8 a c1 c2 lo rs (rfo rs ls1 (vrf1 (rVf rs) lo (zscu se) Wz ls1) i) ([]) True (wln (rfo rs ls1 (vrf1 (rVf rs) lo (zscu se) Wz ls1) i), 0, [], wp) th tp co se v19 v20) → (zfr ro zKr G ro8 Gv) → zP E Gv H → zg_S (zc_b E) s.heap H locs → ∀ (ls : Array Slot), lv_has ls 3 [(0, .ref a), (1, .ref b1), (2, .int (nI i))] → W p l e (rm_Mo_delegated (rPi c1 c2 (vrf (rVf rs) lo (zscu se) Wz ls1) 0 - rPi c1 c2 Wz 0) (rPi c1 c2 (vrf (rVf rs) lo (zscu se) Wz ls1) 0 - rPi c1 c2 Wz 0)) s m args below meth c H locs (rPi c1 c2 (rfo rs ls1 (vrf1 (rVf rs) lo (zscu se) Wz ls1) i) 0 - rPi c1 c2 Wz 0 + 0) (rPi c1 c2 (rfo rs ls1 (vrf1 (rVf rs) lo (zscu se) Wz ls1) i) 0 - rPi c1 c2 Wz 0 + 0) Q (F0 m 47 ls []) := by
      intro N
      induction N with
      | zero =>
        intro Gv i ro8 H locs hlt
        exact absurd hlt (Nat.not_lt_zero _)
      | succ N ih =>
        intro Gv i ro8 H locs hlt hi hst8 hf8 hG hS ls hl
        obtain ⟨h8, eh08, eh18, eh28, hc8⟩ := id hst8
        obtain ⟨ra8, rb8, ⟨fm8, rt18, rt28, rt38, rt48⟩, rtl8, ⟨fo8, rn18, rn28, rn38, rn48, rn58⟩, rr8, rg8, ras8⟩ := id hc8
        rw [eh08] at ra8
        obtain ⟨⟨fr8, rm48, hfr8⟩, hn28, hRs8⟩ := id rr8.1
        have hn18 := hn1.fr hf8 zKr_0
        obtain ⟨f_b18, n1_b18, n2_b18, n3_b18, n4_b18, n5_b18⟩ := id hn18
        have sm_b18 := n3_b18.2
        have hlei : zLe (rfo rs ls1 (vrf1 (rVf rs) lo (zscu se) Wz ls1) i) (vrf (rVf rs) lo (zscu se) Wz ls1) := by rw [← rfo_all]; exact rfo_le hi
        have hpii := rPi_le (n := 0) (m := 0) hc1 hc2 hlei (rPw_le hlei)
        have hwli := wln_le hlei
        have hle0 : zLe (vrf1 (rVf rs) lo (zscu se) Wz ls1) (rfo rs ls1 (vrf1 (rVf rs) lo (zscu se) Wz ls1) i) := rfo_le (i := 0) (Nat.zero_le _)
        have hpi0 := rPi_le (n := 0) (m := 0) hc1 hc2 hle0 (rPw_le hle0)
        have hwl0 := wln_le hle0
        refine lv_iload_n hx hb d_Mo_delegated_47 rfl (lv_at hl 2 rfl) ?_
        refine lv_aload_n hx hb d_Mo_delegated_48 rfl (lv_at hl 0 rfl) ?_
        refine zg_get (ci := 11) (C := "ZoneAnswersModel") (T := T_Mo) (N := 21) hx hb hts zi_Mo hown hK hG ra8 rfl 5 (by decide) (hts _ w_1286) (fun _ h9 => h9) rfl d_Mo_delegated_49 ?_
        refine lv_icmp_ge (tgt := 103) hx hb d_Mo_delegated_52 (by decide) (fun c52 => ?_) (fun c52 => ?_)
        · have b52 : rs.length ≤ i := (nI_leI (a := rs.length) (b := i) (by omega) (by omega)).mp c52
          exact hret _ _ _ _ _ _ _ (⟨ro8, by rw [← rfo_all, show rs.length = i by omega]; exact hst8, hf8⟩) hG hS (by dsimp only; omega) (by dsimp only; omega) d_Mo_delegated_103
        · have b52 : ¬ rs.length ≤ i := fun q => c52 ((nI_leI (a := rs.length) (b := i) (by omega) (by omega)).mpr q)
          have hin : i < rs.length := by omega
          obtain ⟨hr1, ⟨nf, hr2, hr3, hr4, hr5⟩, df, hr6, hr7, hr8⟩ := hRs8 _ (re_mem hin)
          have sm := hr4.2
          refine lv_aload_n hx hb d_Mo_delegated_55 rfl (lv_at hl 0 rfl) ?_
          refine zg_get (ci := 11) (C := "ZoneAnswersModel") (T := T_Mo) (N := 21) hx hb hts zi_Mo hown hK hG ra8 rfl 4 (by decide) (hts _ w_1285) (fun _ h9 => h9) rfl d_Mo_delegated_56 ?_
          refine lv_iload_n hx hb d_Mo_delegated_59 rfl (lv_at hl 2 rfl) ?_
          refine zg_aldq hx hb hK hG 4 rm48 rfl (vp_in_nI (by omega) (by omega)) d_Mo_delegated_60 ?_
          refine zr_as (y := fr8 i) (by rw [zi_n _ (by omega)]) ?_
          refine zr_some (a := rA (re rs i)) (hfr8 i hin) ?_
          refine zg_get (ci := 12) (C := "ZoneAnswersModel$Rec") (T := T_Re) (N := 5) hx hb hts zi_Re hown hK hG hr1 rfl 3 (by decide) (hts _ w_1268) (fun _ h9 => h9) rfl d_Mo_delegated_61 ?_
          refine lv_iconst (v := 2) hx hb d_Mo_delegated_64 (by decide) ?_
          refine lv_icmp_ne (tgt := 97) hx hb d_Mo_delegated_65 (by decide) (fun c65 => ?_) (fun c65 => ?_)
          · refine lv_iinc (v := nI (i + 1)) (lv' := [(2, .int (nI (i + 1))), (0, .ref a), (1, .ref b1)]) hx hb d_Mo_delegated_97 hl (k := 2) rfl (nI_add i 1) (by decide) rfl (fun ls hl => ?_)
            refine lv_goto (tgt := 47) hx hb d_Mo_delegated_100 (by decide) ?_
            have hno : rfo rs ls1 (vrf1 (rVf rs) lo (zscu se) Wz ls1) (i + 1) = rfo rs ls1 (vrf1 (rVf rs) lo (zscu se) Wz ls1) i := rfo_n hin (by first | exact fun z => c65 z.1 | exact fun z => hp78.1.z c81 ((zsm_n hr3 n2_b18 hr4 n3_b18).mpr z.2))
            refine zW_more (cells2 := rPi c1 c2 (rfo rs ls1 (vrf1 (rVf rs) lo (zscu se) Wz ls1) (i + 1)) 0 - rPi c1 c2 Wz 0 + 0) (slots2 := rPi c1 c2 (rfo rs ls1 (vrf1 (rVf rs) lo (zscu se) Wz ls1) (i + 1)) 0 - rPi c1 c2 Wz 0 + 0) (by rw [hno]; exact Nat.le_refl _) (by rw [hno]; exact Nat.le_refl _) ?_
            exact ih Gv (i + 1) ro8 _ _ (by omega) (by omega) (by rw [hno]; exact hst8) (hf8) hG hS ls (lv_sub hl [1, 2, 0] rfl)
          · refine lv_aload_n hx hb d_Mo_delegated_68 rfl (lv_at hl 0 rfl) ?_
            refine zg_get (ci := 11) (C := "ZoneAnswersModel") (T := T_Mo) (N := 21) hx hb hts zi_Mo hown hK hG ra8 rfl 4 (by decide) (hts _ w_1285) (fun _ h9 => h9) rfl d_Mo_delegated_69 ?_
            refine lv_iload_n hx hb d_Mo_delegated_72 rfl (lv_at hl 2 rfl) ?_
            refine zg_aldq hx hb hK hG 4 rm48 rfl (vp_in_nI (by omega) (by omega)) d_Mo_delegated_73 ?_
            refine zr_as (y := fr8 i) (by rw [zi_n _ (by omega)]) ?_
            refine zr_some (a := rA (re rs i)) (hfr8 i hin) ?_
            refine zg_get (ci := 12) (C := "ZoneAnswersModel$Rec") (T := T_Re) (N := 5) hx hb hts zi_Re hown hK hG hr1 rfl 0 (by decide) (hts _ w_1265) (fun _ h9 => h9) rfl d_Mo_delegated_74 ?_
            refine lv_aload_n hx hb d_Mo_delegated_77 rfl (lv_at hl 1 rfl) ?_
            refine zk_i (va_runS (As := [.ref (rN (re rs i)), .ref b1]) (rest := []) ⟨hx, hb, hml, hown, hts⟩ (t_Ns_same l E Gv (rN (re rs i)) (np_len (rM (re rs i))) nf hr2 b1 (np_len ls1) f_b18 n1_b18 (by omega) (by omega)) (zcS 2 hts w_1405 w_1406 w_33 w_1407 (by decide +kernel) ⟨Nat.le_of_ble_eq_true rfl, Nat.le_of_ble_eq_true rfl⟩) (zc_pre hbase hK hN hQ hG hS) rfl rfl hl.1 rfl (lv_room (Nat.le_of_ble_eq_true rfl)) d_Mo_delegated_78 ⟨(by dsimp only [List.length_nil]; omega), (by dsimp only [List.length_nil]; omega)⟩) hS (fun r78 G78 H locs hp78 hG hS => ?_)
            have hG : zP E Gv H := hp78.2 ▸ hG
            refine lv_if_eq (tgt := 97) hx hb d_Mo_delegated_81 (by decide) (fun c81 => ?_) (fun c81 => ?_)
            · refine lv_iinc (v := nI (i + 1)) (lv' := [(2, .int (nI (i + 1))), (0, .ref a), (1, .ref b1)]) hx hb d_Mo_delegated_97 hl (k := 2) rfl (nI_add i 1) (by decide) rfl (fun ls hl => ?_)
              refine lv_goto (tgt := 47) hx hb d_Mo_delegated_100 (by decide) ?_
              have hno : rfo rs ls1 (vrf1 (rVf rs) lo (zscu se) Wz ls1) (i + 1) = rfo rs ls1 (vrf1 (rVf rs) lo (zscu se) Wz ls1) i := rfo_n hin (by first | exact fun z => c65 z.1 | exact fun z => hp78.1.z c81 ((zsm_n hr3 n2_b18 hr4 n3_b18).mpr z.2))
              refine zW_more (cells2 := rPi c1 c2 (rfo rs ls1 (vrf1 (rVf rs) lo (zscu se) Wz ls1) (i + 1)) 0 - rPi c1 c2 Wz 0 + 0) (slots2 := rPi c1 c2 (rfo rs ls1 (vrf1 (rVf rs) lo (zscu se) Wz ls1) (i + 1)) 0 - rPi c1 c2 Wz 0 + 0) (by rw [hno]; exact Nat.le_refl _) (by rw [hno]; exact Nat.le_refl _) ?_
              exact ih Gv (i + 1) ro8 _ _ (by omega) (by omega) (by rw [hno]; exact hst8) (hf8) hG hS ls (lv_sub hl [1, 2, 0] rfl)
            · refine lv_aload_n hx hb d_Mo_delegated_84 rfl (lv_at hl 0 rfl) ?_
              refine lv_aload_n hx hb d_Mo_delegated_85 rfl (lv_at hl 0 rfl) ?_
              refine zg_get (ci := 11) (C := "ZoneAnswersModel") (T := T_Mo) (N := 21) hx hb hts zi_Mo hown hK hG ra8 rfl 4 (by decide) (hts _ w_1285) (fun _ h9 => h9) rfl d_Mo_delegated_86 ?_
              refine lv_iload_n hx hb d_Mo_delegated_89 rfl (lv_at hl 2 rfl) ?_
              refine zg_aldq hx hb hK hG 4 rm48 rfl (vp_in_nI (by omega) (by omega)) d_Mo_delegated_90 ?_
              refine zr_as (y := fr8 i) (by rw [zi_n _ (by omega)]) ?_
              refine zr_some (a := rA (re rs i)) (hfr8 i hin) ?_
              refine zg_get (ci := 12) (C := "ZoneAnswersModel$Rec") (T := T_Re) (N := 5) hx hb hts zi_Re hown hK hG hr1 rfl 1 (by decide) (hts _ w_1266) (fun _ h9 => h9) rfl d_Mo_delegated_91 ?_
              have hyes : rT (re rs i) = 2 ∧ rM (re rs i) = ls1 := ⟨c65, (zsm_n hr3 n2_b18 hr4 n3_b18).mp (hp78.1.nz c81)⟩
              have hdn := hst8.dn hin (Or.inl hyes.1)
              rw [hyes.1] at hdn
              have eW9 : rfo rs ls1 (vrf1 (rVf rs) lo (zscu se) Wz ls1) (i + 1) = vao (rVf rs) (rfo rs ls1 (vrf1 (rVf rs) lo (zscu se) Wz ls1) i) (vtg 2 (rB (re rs i))) := rfo_y hin hyes
              have eP9 : rPi c1 c2 (rfo rs ls1 (vrf1 (rVf rs) lo (zscu se) Wz ls1) (i + 1)) 0 = rPi c1 c2 (rMr (rVf rs) (rfo rs ls1 (vrf1 (rVf rs) lo (zscu se) Wz ls1) i) (vtg 2 (rB (re rs i))) 2) 0 := by rw [eW9]; rfl
              have hlej : zLe (rfo rs ls1 (vrf1 (rVf rs) lo (zscu se) Wz ls1) (i + 1)) (vrf (rVf rs) lo (zscu se) Wz ls1) := by rw [← rfo_all]; exact rfo_le hin
              have hpij := rPi_le (n := 0) (m := 0) hc1 hc2 hlej (rPw_le hlej)
              have hwlj := wln_le hlej
              have hlek : zLe (rfo rs ls1 (vrf1 (rVf rs) lo (zscu se) Wz ls1) i) (rfo rs ls1 (vrf1 (rVf rs) lo (zscu se) Wz ls1) (i + 1)) := rfo_le (Nat.le_succ i)
              have hpik := rPi_le (n := 0) (m := 0) hc1 hc2 hlek (rPw_le hlek)
              have hwlk := wln_le hlek
              have hGo94 := hG
              refine zk_v (va_runV (As := [.ref (rD (re rs i))]) (rest := []) ⟨hx, hb, hml, hown, hts⟩ (t_Mo_more l E Gv a c1 c2 ro8 lo rs (rfo rs ls1 (vrf1 (rVf rs) lo (zscu se) Wz ls1) i) wp th co se tp v19 v20 hst8 (rD (re rs i)) (vtg 2 (rB (re rs i))) hdn (by rw [← eW9]; have := hB.1; omega)) (zcV 1 hts w_1532 w_1534 wp_50 w_30 w_1535 (by decide +kernel) ⟨Nat.le_of_ble_eq_true rfl, Nat.le_of_ble_eq_true rfl⟩) (zc_preV hbase hK hN hQ hG hS ra8 rfl) rfl rfl hl.1 rfl (lv_room (Nat.le_of_ble_eq_true rfl)) d_Mo_delegated_94 ⟨(by dsimp only [List.length_nil]; omega), (by dsimp only [List.length_nil]; omega)⟩) hS (fun G94 H locs hp94 hG hS => ?_)
              obtain ⟨ro9, hst9, hf9⟩ := hp94
              have hst9 : rSt E G94 ro9 a c1 c2 lo rs (rfo rs ls1 (vrf1 (rVf rs) lo (zscu se) Wz ls1) (i + 1)) ([]) True (wln (rfo rs ls1 (vrf1 (rVf rs) lo (zscu se) Wz ls1) (i + 1)), 0, [], wp) th tp co se v19 v20 := by rw [rfo_y hin hyes]; exact hst9
              have hf9 : zfr ro zKr G ro9 G94 := hf8.tr hf9
              refine lv_iinc (v := nI (i + 1)) (lv' := [(2, .int (nI (i + 1))), (0, .ref a), (1, .ref b1)]) hx hb d_Mo_delegated_97 hl (k := 2) rfl (nI_add i 1) (by decide) rfl (fun ls hl => ?_)
              refine lv_goto (tgt := 47) hx hb d_Mo_delegated_100 (by decide) ?_
              refine zW_more (cells2 := rPi c1 c2 (rfo rs ls1 (vrf1 (rVf rs) lo (zscu se) Wz ls1) (i + 1)) 0 - rPi c1 c2 Wz 0 + 0) (slots2 := rPi c1 c2 (rfo rs ls1 (vrf1 (rVf rs) lo (zscu se) Wz ls1) (i + 1)) 0 - rPi c1 c2 Wz 0 + 0) (by dsimp only [List.length_nil]; omega) (by dsimp only [List.length_nil]; omega) ?_
              exact ih G94 (i + 1) ro9 _ _ (by omega) (by omega) (hst9) (hf9) hG hS ls (lv_sub hl [1, 2, 0] rfl)
    have hst0 : rSt E G6 roqa a c1 c2 lo rs (rfo rs ls1 (vrf1 (rVf rs) lo (zscu se) Wz ls1) 0) ([]) True (wln (rfo rs ls1 (vrf1 (rVf rs) lo (zscu se) Wz ls1) 0), 0, [], wp) th tp co se v19 v20 := by show rSt E G6 roqa a c1 c2 lo rs (vrf1 (rVf rs) lo (zscu se) Wz ls1) ([]) True (wln (vrf1 (rVf rs) lo (zscu se) Wz ls1), 0, [], wp) th tp co se v19 v20; rw [hR1]; exact hstqa
    have hpe0 : rPi c1 c2 (rfo rs ls1 (vrf1 (rVf rs) lo (zscu se) Wz ls1) 0) 0 = rPi c1 c2 (vrf1 (rVf rs) lo (zscu se) Wz ls1) 0 := rfl
    refine zW_more (cells2 := rPi c1 c2 (rfo rs ls1 (vrf1 (rVf rs) lo (zscu se) Wz ls1) 0) 0 - rPi c1 c2 Wz 0 + 0) (slots2 := rPi c1 c2 (rfo rs ls1 (vrf1 (rVf rs) lo (zscu se) Wz ls1) 0) 0 - rPi c1 c2 Wz 0 + 0) (by omega) (by omega) ?_
    exact loop47 _ G6 0 roqa _ _ (Nat.lt_succ_self _) (Nat.zero_le _) (hst0) (hfqa) hG hS ls (lv_sub hl [1, 2, 0] rfl)
  · have hsc := zscu_1 c13
    refine lv_aload_n hx hb d_Mo_delegated_16 rfl (lv_at hl 0 rfl) ?_
    refine lv_aload_n hx hb d_Mo_delegated_17 rfl (lv_at hl 1 rfl) ?_
    refine lv_iconst (v := 0) hx hb d_Mo_delegated_18 (by decide) ?_
    refine zi_as (y := nI (np_pos ls1 0)) (by rw [np_pos0]; rfl) ?_
    refine lv_bipush (v := 43) hx hb d_Mo_delegated_19 (by decide) ?_
    refine zk_i (va_runV (As := [.ref b1, .int (nI (np_pos ls1 0)), .int 43]) (rest := []) ⟨hx, hb, hml, hown, hts⟩ (t_Mo_has_s l hstqa 0 43 b1 ls1 hn_b1qa (Nat.zero_le _)) (zcV 3 hts w_1408 w_1410 wp_30 w_30 w_1411 (by decide +kernel) ⟨Nat.le_of_ble_eq_true rfl, Nat.le_of_ble_eq_true rfl⟩) (zc_preV hbase hK hN hQ hG hS raqa rfl) rfl rfl hl.1 rfl (lv_room (Nat.le_of_ble_eq_true rfl)) d_Mo_delegated_21 ⟨(by dsimp only [List.length_nil]; omega), (by dsimp only [List.length_nil]; omega)⟩) hS (fun r21 G21 H locs hp21 hG hS => ?_)
    have hG : zP E G6 H := hp21.2 ▸ hG
    refine lv_if_eq (tgt := 40) hx hb d_Mo_delegated_24 (by decide) (fun c24 => ?_) (fun c24 => ?_)
    · have hno43 : (rVf rs) ls1 43 = [] := Classical.byContradiction (fun z => hp21.1.z c24 z)
      have hR1 : vrf1 (rVf rs) lo (zscu se) Wz ls1 = vpr (rVf rs) lo true (wad 2 Wz (vrw (rVf rs) ls1 ls1 2)) ls1 := by rw [hsc]; exact vrf1_l hno43
      have hpe : rPi c1 c2 (vrf1 (rVf rs) lo (zscu se) Wz ls1) 0 = rPi c1 c2 (vpr (rVf rs) lo true (wad 2 Wz (vrw (rVf rs) ls1 ls1 2)) ls1) 0 := by rw [hR1]
      have hbal : rBd c2 (vpr (rVf rs) lo true (wad 2 Wz (vrw (rVf rs) ls1 ls1 2)) ls1) := by rw [← hR1]; exact hbr
      have hleb : zLe (wad 2 Wz (vrw (rVf rs) ls1 ls1 2)) (vpr (rVf rs) lo true (wad 2 Wz (vrw (rVf rs) ls1 ls1 2)) ls1) := vpr_le _ _ _ _ _
      have hpib := rPi_le (n := 0) (m := 0) hc1 hc2 hleb (rPw_le hleb)
      have hwlb := wln_le hleb
      refine lv_aload_n hx hb d_Mo_delegated_40 rfl (lv_at hl 0 rfl) ?_
      refine lv_aload_n hx hb d_Mo_delegated_41 rfl (lv_at hl 1 rfl) ?_
      have hGo42 := hG
      refine zk_v (va_runV (As := [.ref b1]) (rest := []) ⟨hx, hb, hml, hown, hts⟩ (t_Mo_link l E G6 a c1 c2 roqa lo rs (wad 2 Wz (vrw (rVf rs) ls1 ls1 2)) wp th co se tp v19 v20 hstqa b1 ls1 hn_b1qa hna (by have := hbal.1; omega) hbal.2) (zcV 1 hts w_1493 w_1495 wp_43 w_30 w_1496 (by decide +kernel) ⟨Nat.le_of_ble_eq_true rfl, Nat.le_of_ble_eq_true rfl⟩) (zc_preV hbase hK hN hQ hG hS raqa rfl) rfl rfl hl.1 rfl (lv_room (Nat.le_of_ble_eq_true rfl)) d_Mo_delegated_42 ⟨(by dsimp only [List.length_nil]; omega), (by dsimp only [List.length_nil]; omega)⟩) hS (fun G42 H locs hp42 hG hS => ?_)
      obtain ⟨roqd, hstqd, hsqd⟩ := hp42
      have hfqd : zfr ro zKr G roqd G42 := hfqa.tr hsqd
      refine zW_more (cells2 := rPi c1 c2 (vpr (rVf rs) lo true (wad 2 Wz (vrw (rVf rs) ls1 ls1 2)) ls1) 0 - rPi c1 c2 Wz 0 + 0) (slots2 := rPi c1 c2 (vpr (rVf rs) lo true (wad 2 Wz (vrw (rVf rs) ls1 ls1 2)) ls1) 0 - rPi c1 c2 Wz 0 + 0) (by dsimp only [List.length_nil]; omega) (by dsimp only [List.length_nil]; omega) ?_
      obtain ⟨hqd, eh0qd, eh1qd, eh2qd, hcqd⟩ := id hstqd
      obtain ⟨raqd, rbqd, ⟨fmqd, rt1qd, rt2qd, rt3qd, rt4qd⟩, rtlqd, ⟨foqd, rn1qd, rn2qd, rn3qd, rn4qd, rn5qd⟩, rrqd, rgqd, rasqd⟩ := id hcqd
      rw [eh0qd] at raqd
      obtain ⟨⟨frqd, rm4qd, hfrqd⟩, hn2qd, hRsqd⟩ := id rrqd.1
      have hn_b1qd : rNm E G42 roqd b1 ls1 := hn_b1qa.fr hsqd zKr_0
      obtain ⟨f_b1qd, n1_b1qd, n2_b1qd, n3_b1qd, n4_b1qd, n5_b1qd⟩ := id hn_b1qd
      have sm_b1qd := n3_b1qd.2
      refine lv_iconst (v := 0) hx hb d_Mo_delegated_45 (by decide) ?_
      refine zi_as (y := nI 0) (nI_0.symm) ?_
      refine lv_istore_n (lv' := [(2, .int (nI 0)), (0, .ref a), (1, .ref b1)]) hx hb d_Mo_delegated_46 rfl hl (by decide) rfl (fun ls hl => ?_)
      have loop47 : ∀ (N : Nat) (Gv : zg_G) (i : Nat) (ro8 : zRo) (H : Heap) (locs : List Loc), (rs.length - i) < N → (i ≤ rs.length) → (rSt E Gv ro8 a c1 c2 lo rs (rfo rs ls1 (vrf1 (rVf rs) lo (zscu se) Wz ls1) i) ([]) True (wln (rfo rs ls1 (vrf1 (rVf rs) lo (zscu se) Wz ls1) i), 0, [], wp) th tp co se v19 v20) → (zfr ro zKr G ro8 Gv) → zP E Gv H → zg_S (zc_b E) s.heap H locs → ∀ (ls : Array Slot), lv_has ls 3 [(0, .ref a), (1, .ref b1), (2, .int (nI i))] → W p l e (rm_Mo_delegated (rPi c1 c2 (vrf (rVf rs) lo (zscu se) Wz ls1) 0 - rPi c1 c2 Wz 0) (rPi c1 c2 (vrf (rVf rs) lo (zscu se) Wz ls1) 0 - rPi c1 c2 Wz 0)) s m args below meth c H locs (rPi c1 c2 (rfo rs ls1 (vrf1 (rVf rs) lo (zscu se) Wz ls1) i) 0 - rPi c1 c2 Wz 0 + 0) (rPi c1 c2 (rfo rs ls1 (vrf1 (rVf rs) lo (zscu se) Wz ls1) i) 0 - rPi c1 c2 Wz 0 + 0) Q (F0 m 47 ls []) := by
        intro N
        induction N with
        | zero =>
          intro Gv i ro8 H locs hlt
          exact absurd hlt (Nat.not_lt_zero _)
        | succ N ih =>
          intro Gv i ro8 H locs hlt hi hst8 hf8 hG hS ls hl
          obtain ⟨h8, eh08, eh18, eh28, hc8⟩ := id hst8
          obtain ⟨ra8, rb8, ⟨fm8, rt18, rt28, rt38, rt48⟩, rtl8, ⟨fo8, rn18, rn28, rn38, rn48, rn58⟩, rr8, rg8, ras8⟩ := id hc8
          rw [eh08] at ra8
          obtain ⟨⟨fr8, rm48, hfr8⟩, hn28, hRs8⟩ := id rr8.1
          have hn18 := hn1.fr hf8 zKr_0
          obtain ⟨f_b18, n1_b18, n2_b18, n3_b18, n4_b18, n5_b18⟩ := id hn18
          have sm_b18 := n3_b18.2
          have hlei : zLe (rfo rs ls1 (vrf1 (rVf rs) lo (zscu se) Wz ls1) i) (vrf (rVf rs) lo (zscu se) Wz ls1) := by rw [← rfo_all]; exact rfo_le hi
          have hpii := rPi_le (n := 0) (m := 0) hc1 hc2 hlei (rPw_le hlei)
          have hwli := wln_le hlei
          have hle0 : zLe (vrf1 (rVf rs) lo (zscu se) Wz ls1) (rfo rs ls1 (vrf1 (rVf rs) lo (zscu se) Wz ls1) i) := rfo_le (i := 0) (Nat.zero_le _)
          have hpi0 := rPi_le (n := 0) (m := 0) hc1 hc2 hle0 (rPw_le hle0)
          have hwl0 := wln_le hle0
          refine lv_iload_n hx hb d_Mo_delegated_47 rfl (lv_at hl 2 rfl) ?_
          refine lv_aload_n hx hb d_Mo_delegated_48 rfl (lv_at hl 0 rfl) ?_
          refine zg_get (ci := 11) (C := "ZoneAnswersModel") (T := T_Mo) (N := 21) hx hb hts zi_Mo hown hK hG ra8 rfl 5 (by decide) (hts _ w_1286) (fun _ h9 => h9) rfl d_Mo_delegated_49 ?_
          refine lv_icmp_ge (tgt := 103) hx hb d_Mo_delegated_52 (by decide) (fun c52 => ?_) (fun c52 => ?_)
          · have b52 : rs.length ≤ i := (nI_leI (a := rs.length) (b := i) (by omega) (by omega)).mp c52
            exact hret _ _ _ _ _ _ _ (⟨ro8, by rw [← rfo_all, show rs.length = i by omega]; exact hst8, hf8⟩) hG hS (by dsimp only; omega) (by dsimp only; omega) d_Mo_delegated_103
          · have b52 : ¬ rs.length ≤ i := fun q => c52 ((nI_leI (a := rs.length) (b := i) (by omega) (by omega)).mpr q)
            have hin : i < rs.length := by omega
            obtain ⟨hr1, ⟨nf, hr2, hr3, hr4, hr5⟩, df, hr6, hr7, hr8⟩ := hRs8 _ (re_mem hin)
            have sm := hr4.2
            refine lv_aload_n hx hb d_Mo_delegated_55 rfl (lv_at hl 0 rfl) ?_
            refine zg_get (ci := 11) (C := "ZoneAnswersModel") (T := T_Mo) (N := 21) hx hb hts zi_Mo hown hK hG ra8 rfl 4 (by decide) (hts _ w_1285) (fun _ h9 => h9) rfl d_Mo_delegated_56 ?_
            refine lv_iload_n hx hb d_Mo_delegated_59 rfl (lv_at hl 2 rfl) ?_
            refine zg_aldq hx hb hK hG 4 rm48 rfl (vp_in_nI (by omega) (by omega)) d_Mo_delegated_60 ?_
            refine zr_as (y := fr8 i) (by rw [zi_n _ (by omega)]) ?_
            refine zr_some (a := rA (re rs i)) (hfr8 i hin) ?_
            refine zg_get (ci := 12) (C := "ZoneAnswersModel$Rec") (T := T_Re) (N := 5) hx hb hts zi_Re hown hK hG hr1 rfl 3 (by decide) (hts _ w_1268) (fun _ h9 => h9) rfl d_Mo_delegated_61 ?_
            refine lv_iconst (v := 2) hx hb d_Mo_delegated_64 (by decide) ?_
            refine lv_icmp_ne (tgt := 97) hx hb d_Mo_delegated_65 (by decide) (fun c65 => ?_) (fun c65 => ?_)
            · refine lv_iinc (v := nI (i + 1)) (lv' := [(2, .int (nI (i + 1))), (0, .ref a), (1, .ref b1)]) hx hb d_Mo_delegated_97 hl (k := 2) rfl (nI_add i 1) (by decide) rfl (fun ls hl => ?_)
              refine lv_goto (tgt := 47) hx hb d_Mo_delegated_100 (by decide) ?_
              have hno : rfo rs ls1 (vrf1 (rVf rs) lo (zscu se) Wz ls1) (i + 1) = rfo rs ls1 (vrf1 (rVf rs) lo (zscu se) Wz ls1) i := rfo_n hin (by first | exact fun z => c65 z.1 | exact fun z => hp78.1.z c81 ((zsm_n hr3 n2_b18 hr4 n3_b18).mpr z.2))
              refine zW_more (cells2 := rPi c1 c2 (rfo rs ls1 (vrf1 (rVf rs) lo (zscu se) Wz ls1) (i + 1)) 0 - rPi c1 c2 Wz 0 + 0) (slots2 := rPi c1 c2 (rfo rs ls1 (vrf1 (rVf rs) lo (zscu se) Wz ls1) (i + 1)) 0 - rPi c1 c2 Wz 0 + 0) (by rw [hno]; exact Nat.le_refl _) (by rw [hno]; exact Nat.le_refl _) ?_
              exact ih Gv (i + 1) ro8 _ _ (by omega) (by omega) (by rw [hno]; exact hst8) (hf8) hG hS ls (lv_sub hl [1, 2, 0] rfl)
            · refine lv_aload_n hx hb d_Mo_delegated_68 rfl (lv_at hl 0 rfl) ?_
              refine zg_get (ci := 11) (C := "ZoneAnswersModel") (T := T_Mo) (N := 21) hx hb hts zi_Mo hown hK hG ra8 rfl 4 (by decide) (hts _ w_1285) (fun _ h9 => h9) rfl d_Mo_delegated_69 ?_
              refine lv_iload_n hx hb d_Mo_delegated_72 rfl (lv_at hl 2 rfl) ?_
              refine zg_aldq hx hb hK hG 4 rm48 rfl (vp_in_nI (by omega) (by omega)) d_Mo_delegated_73 ?_
              refine zr_as (y := fr8 i) (by rw [zi_n _ (by omega)]) ?_
              refine zr_some (a := rA (re rs i)) (hfr8 i hin) ?_
              refine zg_get (ci := 12) (C := "ZoneAnswersModel$Rec") (T := T_Re) (N := 5) hx hb hts zi_Re hown hK hG hr1 rfl 0 (by decide) (hts _ w_1265) (fun _ h9 => h9) rfl d_Mo_delegated_74 ?_
              refine lv_aload_n hx hb d_Mo_delegated_77 rfl (lv_at hl 1 rfl) ?_
              refine zk_i (va_runS (As := [.ref (rN (re rs i)), .ref b1]) (rest := []) ⟨hx, hb, hml, hown, hts⟩ (t_Ns_same l E Gv (rN (re rs i)) (np_len (rM (re rs i))) nf hr2 b1 (np_len ls1) f_b18 n1_b18 (by omega) (by omega)) (zcS 2 hts w_1405 w_1406 w_33 w_1407 (by decide +kernel) ⟨Nat.le_of_ble_eq_true rfl, Nat.le_of_ble_eq_true rfl⟩) (zc_pre hbase hK hN hQ hG hS) rfl rfl hl.1 rfl (lv_room (Nat.le_of_ble_eq_true rfl)) d_Mo_delegated_78 ⟨(by dsimp only [List.length_nil]; omega), (by dsimp only [List.length_nil]; omega)⟩) hS (fun r78 G78 H locs hp78 hG hS => ?_)
              have hG : zP E Gv H := hp78.2 ▸ hG
              refine lv_if_eq (tgt := 97) hx hb d_Mo_delegated_81 (by decide) (fun c81 => ?_) (fun c81 => ?_)
              · refine lv_iinc (v := nI (i + 1)) (lv' := [(2, .int (nI (i + 1))), (0, .ref a), (1, .ref b1)]) hx hb d_Mo_delegated_97 hl (k := 2) rfl (nI_add i 1) (by decide) rfl (fun ls hl => ?_)
                refine lv_goto (tgt := 47) hx hb d_Mo_delegated_100 (by decide) ?_
                have hno : rfo rs ls1 (vrf1 (rVf rs) lo (zscu se) Wz ls1) (i + 1) = rfo rs ls1 (vrf1 (rVf rs) lo (zscu se) Wz ls1) i := rfo_n hin (by first | exact fun z => c65 z.1 | exact fun z => hp78.1.z c81 ((zsm_n hr3 n2_b18 hr4 n3_b18).mpr z.2))
                refine zW_more (cells2 := rPi c1 c2 (rfo rs ls1 (vrf1 (rVf rs) lo (zscu se) Wz ls1) (i + 1)) 0 - rPi c1 c2 Wz 0 + 0) (slots2 := rPi c1 c2 (rfo rs ls1 (vrf1 (rVf rs) lo (zscu se) Wz ls1) (i + 1)) 0 - rPi c1 c2 Wz 0 + 0) (by rw [hno]; exact Nat.le_refl _) (by rw [hno]; exact Nat.le_refl _) ?_
                exact ih Gv (i + 1) ro8 _ _ (by omega) (by omega) (by rw [hno]; exact hst8) (hf8) hG hS ls (lv_sub hl [1, 2, 0] rfl)
              · refine lv_aload_n hx hb d_Mo_delegated_84 rfl (lv_at hl 0 rfl) ?_
                refine lv_aload_n hx hb d_Mo_delegated_85 rfl (lv_at hl 0 rfl) ?_
                refine zg_get (ci := 11) (C := "ZoneAnswersModel") (T := T_Mo) (N := 21) hx hb hts zi_Mo hown hK hG ra8 rfl 4 (by decide) (hts _ w_1285) (fun _ h9 => h9) rfl d_Mo_delegated_86 ?_
                refine lv_iload_n hx hb d_Mo_delegated_89 rfl (lv_at hl 2 rfl) ?_
                refine zg_aldq hx hb hK hG 4 rm48 rfl (vp_in_nI (by omega) (by omega)) d_Mo_delegated_90 ?_
                refine zr_as (y := fr8 i) (by rw [zi_n _ (by omega)]) ?_
                refine zr_some (a := rA (re rs i)) (hfr8 i hin) ?_
                refine zg_get (ci := 12) (C := "ZoneAnswersModel$Rec") (T := T_Re) (N := 5) hx hb hts zi_Re hown hK hG hr1 rfl 1 (by decide) (hts _ w_1266) (fun _ h9 => h9) rfl d_Mo_delegated_91 ?_
                have hyes : rT (re rs i) = 2 ∧ rM (re rs i) = ls1 := ⟨c65, (zsm_n hr3 n2_b18 hr4 n3_b18).mp (hp78.1.nz c81)⟩
                have hdn := hst8.dn hin (Or.inl hyes.1)
                rw [hyes.1] at hdn
                have eW9 : rfo rs ls1 (vrf1 (rVf rs) lo (zscu se) Wz ls1) (i + 1) = vao (rVf rs) (rfo rs ls1 (vrf1 (rVf rs) lo (zscu se) Wz ls1) i) (vtg 2 (rB (re rs i))) := rfo_y hin hyes
                have eP9 : rPi c1 c2 (rfo rs ls1 (vrf1 (rVf rs) lo (zscu se) Wz ls1) (i + 1)) 0 = rPi c1 c2 (rMr (rVf rs) (rfo rs ls1 (vrf1 (rVf rs) lo (zscu se) Wz ls1) i) (vtg 2 (rB (re rs i))) 2) 0 := by rw [eW9]; rfl
                have hlej : zLe (rfo rs ls1 (vrf1 (rVf rs) lo (zscu se) Wz ls1) (i + 1)) (vrf (rVf rs) lo (zscu se) Wz ls1) := by rw [← rfo_all]; exact rfo_le hin
                have hpij := rPi_le (n := 0) (m := 0) hc1 hc2 hlej (rPw_le hlej)
                have hwlj := wln_le hlej
                have hlek : zLe (rfo rs ls1 (vrf1 (rVf rs) lo (zscu se) Wz ls1) i) (rfo rs ls1 (vrf1 (rVf rs) lo (zscu se) Wz ls1) (i + 1)) := rfo_le (Nat.le_succ i)
                have hpik := rPi_le (n := 0) (m := 0) hc1 hc2 hlek (rPw_le hlek)
                have hwlk := wln_le hlek
                have hGo94 := hG
                refine zk_v (va_runV (As := [.ref (rD (re rs i))]) (rest := []) ⟨hx, hb, hml, hown, hts⟩ (t_Mo_more l E Gv a c1 c2 ro8 lo rs (rfo rs ls1 (vrf1 (rVf rs) lo (zscu se) Wz ls1) i) wp th co se tp v19 v20 hst8 (rD (re rs i)) (vtg 2 (rB (re rs i))) hdn (by rw [← eW9]; have := hB.1; omega)) (zcV 1 hts w_1532 w_1534 wp_50 w_30 w_1535 (by decide +kernel) ⟨Nat.le_of_ble_eq_true rfl, Nat.le_of_ble_eq_true rfl⟩) (zc_preV hbase hK hN hQ hG hS ra8 rfl) rfl rfl hl.1 rfl (lv_room (Nat.le_of_ble_eq_true rfl)) d_Mo_delegated_94 ⟨(by dsimp only [List.length_nil]; omega), (by dsimp only [List.length_nil]; omega)⟩) hS (fun G94 H locs hp94 hG hS => ?_)
                obtain ⟨ro9, hst9, hf9⟩ := hp94
                have hst9 : rSt E G94 ro9 a c1 c2 lo rs (rfo rs ls1 (vrf1 (rVf rs) lo (zscu se) Wz ls1) (i + 1)) ([]) True (wln (rfo rs ls1 (vrf1 (rVf rs) lo (zscu se) Wz ls1) (i + 1)), 0, [], wp) th tp co se v19 v20 := by rw [rfo_y hin hyes]; exact hst9
                have hf9 : zfr ro zKr G ro9 G94 := hf8.tr hf9
                refine lv_iinc (v := nI (i + 1)) (lv' := [(2, .int (nI (i + 1))), (0, .ref a), (1, .ref b1)]) hx hb d_Mo_delegated_97 hl (k := 2) rfl (nI_add i 1) (by decide) rfl (fun ls hl => ?_)
                refine lv_goto (tgt := 47) hx hb d_Mo_delegated_100 (by decide) ?_
                refine zW_more (cells2 := rPi c1 c2 (rfo rs ls1 (vrf1 (rVf rs) lo (zscu se) Wz ls1) (i + 1)) 0 - rPi c1 c2 Wz 0 + 0) (slots2 := rPi c1 c2 (rfo rs ls1 (vrf1 (rVf rs) lo (zscu se) Wz ls1) (i + 1)) 0 - rPi c1 c2 Wz 0 + 0) (by dsimp only [List.length_nil]; omega) (by dsimp only [List.length_nil]; omega) ?_
                exact ih G94 (i + 1) ro9 _ _ (by omega) (by omega) (hst9) (hf9) hG hS ls (lv_sub hl [1, 2, 0] rfl)
      have hst0 : rSt E G42 roqd a c1 c2 lo rs (rfo rs ls1 (vrf1 (rVf rs) lo (zscu se) Wz ls1) 0) ([]) True (wln (rfo rs ls1 (vrf1 (rVf rs) lo (zscu se) Wz ls1) 0), 0, [], wp) th tp co se v19 v20 := by show rSt E G42 roqd a c1 c2 lo rs (vrf1 (rVf rs) lo (zscu se) Wz ls1) ([]) True (wln (vrf1 (rVf rs) lo (zscu se) Wz ls1), 0, [], wp) th tp co se v19 v20; rw [hR1]; exact hstqd
      have hpe0 : rPi c1 c2 (rfo rs ls1 (vrf1 (rVf rs) lo (zscu se) Wz ls1) 0) 0 = rPi c1 c2 (vrf1 (rVf rs) lo (zscu se) Wz ls1) 0 := rfl
      refine zW_more (cells2 := rPi c1 c2 (rfo rs ls1 (vrf1 (rVf rs) lo (zscu se) Wz ls1) 0) 0 - rPi c1 c2 Wz 0 + 0) (slots2 := rPi c1 c2 (rfo rs ls1 (vrf1 (rVf rs) lo (zscu se) Wz ls1) 0) 0 - rPi c1 c2 Wz 0 + 0) (by omega) (by omega) ?_
      exact loop47 _ G42 0 roqd _ _ (Nat.lt_succ_self _) (Nat.zero_le _) (hst0) (hfqd) hG hS ls (lv_sub hl [1, 2, 0] rfl)
    · have hR1 : vrf1 (rVf rs) lo (zscu se) Wz ls1 = wad 2 (wad 2 Wz (vrw (rVf rs) ls1 ls1 2)) (vrw (rVf rs) ls1 ls1 43) := by rw [hsc]; exact vrf1_y (hp21.1.nz c24)
      have hpe : rPi c1 c2 (vrf1 (rVf rs) lo (zscu se) Wz ls1) 0 = rPi c1 c2 (wad 2 (wad 2 Wz (vrw (rVf rs) ls1 ls1 2)) (vrw (rVf rs) ls1 ls1 43)) 0 := by rw [hR1]
      have hwe : wln (vrf1 (rVf rs) lo (zscu se) Wz ls1) = wln (wad 2 (wad 2 Wz (vrw (rVf rs) ls1 ls1 2)) (vrw (rVf rs) ls1 ls1 43)) := by rw [hR1]
      have hleb : zLe (wad 2 Wz (vrw (rVf rs) ls1 ls1 2)) (wad 2 (wad 2 Wz (vrw (rVf rs) ls1 ls1 2)) (vrw (rVf rs) ls1 ls1 43)) := zLe_wad _ _ _
      have hpib := rPi_le (n := 0) (m := 0) hc1 hc2 hleb (rPw_le hleb)
      have hwlb := wln_le hleb
      refine lv_aload_n hx hb d_Mo_delegated_27 rfl (lv_at hl 0 rfl) ?_
      refine lv_iconst (v := 2) hx hb d_Mo_delegated_28 (by decide) ?_
      refine lv_aload_n hx hb d_Mo_delegated_29 rfl (lv_at hl 1 rfl) ?_
      refine lv_aload_n hx hb d_Mo_delegated_30 rfl (lv_at hl 1 rfl) ?_
      refine lv_bipush (v := 43) hx hb d_Mo_delegated_31 (by decide) ?_
      refine lv_iconst (v := -1) hx hb d_Mo_delegated_33 (by decide) ?_
      have hGo34 := hG
      refine zk_v (va_runV (As := [.int 2, .ref b1, .ref b1, .int 43, .int (-1)]) (rest := []) ⟨hx, hb, hml, hown, hts⟩ (t_Mo_give l E G6 a c1 c2 roqa lo rs (wad 2 Wz (vrw (rVf rs) ls1 ls1 2)) [] True (wln (wad 2 Wz (vrw (rVf rs) ls1 ls1 2)), 2, ls1, wp) th co se tp v19 v20 (hstqa.nxt rfl 2 ls1) 2 (Or.inr (Or.inl rfl)) b1 ls1 hn_b1qa b1 ls1 hn_b1qa 43 (by decide) (by have := hbr.1; omega) (fun _ => ⟨rfl, rfl⟩)) (zcV 5 hts w_1475 w_1477 wp_40 w_30 w_1478 (by decide +kernel) ⟨Nat.le_of_ble_eq_true rfl, Nat.le_of_ble_eq_true rfl⟩) (zc_preV hbase hK hN hQ hG hS raqa rfl) rfl rfl hl.1 rfl (lv_room (Nat.le_of_ble_eq_true rfl)) d_Mo_delegated_34 ⟨(by dsimp only [List.length_nil]; omega), (by dsimp only [List.length_nil]; omega)⟩) hS (fun G34 H locs hp34 hG hS => ?_)
      obtain ⟨roqb, hstqb, hsqb⟩ := hp34
      have hstqb := hstqb.lift trivial (Or.inl (by show (2 : Int32) ≠ 1; decide)) 0 []
      have hfqb : zfr ro zKr G roqb G34 := hfqa.tr hsqb
      refine zW_more (cells2 := rPi c1 c2 (wad 2 (wad 2 Wz (vrw (rVf rs) ls1 ls1 2)) (vrw (rVf rs) ls1 ls1 43)) 0 - rPi c1 c2 Wz 0 + 0) (slots2 := rPi c1 c2 (wad 2 (wad 2 Wz (vrw (rVf rs) ls1 ls1 2)) (vrw (rVf rs) ls1 ls1 43)) 0 - rPi c1 c2 Wz 0 + 0) (by dsimp only [List.length_nil]; omega) (by dsimp only [List.length_nil]; omega) ?_
      obtain ⟨hqb, eh0qb, eh1qb, eh2qb, hcqb⟩ := id hstqb
      obtain ⟨raqb, rbqb, ⟨fmqb, rt1qb, rt2qb, rt3qb, rt4qb⟩, rtlqb, ⟨foqb, rn1qb, rn2qb, rn3qb, rn4qb, rn5qb⟩, rrqb, rgqb, rasqb⟩ := id hcqb
      rw [eh0qb] at raqb
      obtain ⟨⟨frqb, rm4qb, hfrqb⟩, hn2qb, hRsqb⟩ := id rrqb.1
      have hn_b1qb : rNm E G34 roqb b1 ls1 := hn_b1qa.fr hsqb zKr_0
      obtain ⟨f_b1qb, n1_b1qb, n2_b1qb, n3_b1qb, n4_b1qb, n5_b1qb⟩ := id hn_b1qb
      have sm_b1qb := n3_b1qb.2
      refine lv_goto (tgt := 45) hx hb d_Mo_delegated_37 (by decide) ?_
      refine lv_iconst (v := 0) hx hb d_Mo_delegated_45 (by decide) ?_
      refine zi_as (y := nI 0) (nI_0.symm) ?_
      refine lv_istore_n (lv' := [(2, .int (nI 0)), (0, .ref a), (1, .ref b1)]) hx hb d_Mo_delegated_46 rfl hl (by decide) rfl (fun ls hl => ?_)
      have loop47 : ∀ (N : Nat) (Gv : zg_G) (i : Nat) (ro8 : zRo) (H : Heap) (locs : List Loc), (rs.length - i) < N → (i ≤ rs.length) → (rSt E Gv ro8 a c1 c2 lo rs (rfo rs ls1 (vrf1 (rVf rs) lo (zscu se) Wz ls1) i) ([]) True (wln (rfo rs ls1 (vrf1 (rVf rs) lo (zscu se) Wz ls1) i), 0, [], wp) th tp co se v19 v20) → (zfr ro zKr G ro8 Gv) → zP E Gv H → zg_S (zc_b E) s.heap H locs → ∀ (ls : Array Slot), lv_has ls 3 [(0, .ref a), (1, .ref b1), (2, .int (nI i))] → W p l e (rm_Mo_delegated (rPi c1 c2 (vrf (rVf rs) lo (zscu se) Wz ls1) 0 - rPi c1 c2 Wz 0) (rPi c1 c2 (vrf (rVf rs) lo (zscu se) Wz ls1) 0 - rPi c1 c2 Wz 0)) s m args below meth c H locs (rPi c1 c2 (rfo rs ls1 (vrf1 (rVf rs) lo (zscu se) Wz ls1) i) 0 - rPi c1 c2 Wz 0 + 0) (rPi c1 c2 (rfo rs ls1 (vrf1 (rVf rs) lo (zscu se) Wz ls1) i) 0 - rPi c1 c2 Wz 0 + 0) Q (F0 m 47 ls []) := by
        intro N
        induction N with
        | zero =>
          intro Gv i ro8 H locs hlt
          exact absurd hlt (Nat.not_lt_zero _)
        | succ N ih =>
          intro Gv i ro8 H locs hlt hi hst8 hf8 hG hS ls hl
          obtain ⟨h8, eh08, eh18, eh28, hc8⟩ := id hst8
          obtain ⟨ra8, rb8, ⟨fm8, rt18, rt28, rt38, rt48⟩, rtl8, ⟨fo8, rn18, rn28, rn38, rn48, rn58⟩, rr8, rg8, ras8⟩ := id hc8
          rw [eh08] at ra8
          obtain ⟨⟨fr8, rm48, hfr8⟩, hn28, hRs8⟩ := id rr8.1
          have hn18 := hn1.fr hf8 zKr_0
          obtain ⟨f_b18, n1_b18, n2_b18, n3_b18, n4_b18, n5_b18⟩ := id hn18
          have sm_b18 := n3_b18.2
          have hlei : zLe (rfo rs ls1 (vrf1 (rVf rs) lo (zscu se) Wz ls1) i) (vrf (rVf rs) lo (zscu se) Wz ls1) := by rw [← rfo_all]; exact rfo_le hi
          have hpii := rPi_le (n := 0) (m := 0) hc1 hc2 hlei (rPw_le hlei)
          have hwli := wln_le hlei
          have hle0 : zLe (vrf1 (rVf rs) lo (zscu se) Wz ls1) (rfo rs ls1 (vrf1 (rVf rs) lo (zscu se) Wz ls1) i) := rfo_le (i := 0) (Nat.zero_le _)
          have hpi0 := rPi_le (n := 0) (m := 0) hc1 hc2 hle0 (rPw_le hle0)
          have hwl0 := wln_le hle0
          refine lv_iload_n hx hb d_Mo_delegated_47 rfl (lv_at hl 2 rfl) ?_
          refine lv_aload_n hx hb d_Mo_delegated_48 rfl (lv_at hl 0 rfl) ?_
          refine zg_get (ci := 11) (C := "ZoneAnswersModel") (T := T_Mo) (N := 21) hx hb hts zi_Mo hown hK hG ra8 rfl 5 (by decide) (hts _ w_1286) (fun _ h9 => h9) rfl d_Mo_delegated_49 ?_
          refine lv_icmp_ge (tgt := 103) hx hb d_Mo_delegated_52 (by decide) (fun c52 => ?_) (fun c52 => ?_)
          · have b52 : rs.length ≤ i := (nI_leI (a := rs.length) (b := i) (by omega) (by omega)).mp c52
            exact hret _ _ _ _ _ _ _ (⟨ro8, by rw [← rfo_all, show rs.length = i by omega]; exact hst8, hf8⟩) hG hS (by dsimp only; omega) (by dsimp only; omega) d_Mo_delegated_103
          · have b52 : ¬ rs.length ≤ i := fun q => c52 ((nI_leI (a := rs.length) (b := i) (by omega) (by omega)).mpr q)
            have hin : i < rs.length := by omega
            obtain ⟨hr1, ⟨nf, hr2, hr3, hr4, hr5⟩, df, hr6, hr7, hr8⟩ := hRs8 _ (re_mem hin)
            have sm := hr4.2
            refine lv_aload_n hx hb d_Mo_delegated_55 rfl (lv_at hl 0 rfl) ?_
            refine zg_get (ci := 11) (C := "ZoneAnswersModel") (T := T_Mo) (N := 21) hx hb hts zi_Mo hown hK hG ra8 rfl 4 (by decide) (hts _ w_1285) (fun _ h9 => h9) rfl d_Mo_delegated_56 ?_
            refine lv_iload_n hx hb d_Mo_delegated_59 rfl (lv_at hl 2 rfl) ?_
            refine zg_aldq hx hb hK hG 4 rm48 rfl (vp_in_nI (by omega) (by omega)) d_Mo_delegated_60 ?_
            refine zr_as (y := fr8 i) (by rw [zi_n _ (by omega)]) ?_
            refine zr_some (a := rA (re rs i)) (hfr8 i hin) ?_
            refine zg_get (ci := 12) (C := "ZoneAnswersModel$Rec") (T := T_Re) (N := 5) hx hb hts zi_Re hown hK hG hr1 rfl 3 (by decide) (hts _ w_1268) (fun _ h9 => h9) rfl d_Mo_delegated_61 ?_
            refine lv_iconst (v := 2) hx hb d_Mo_delegated_64 (by decide) ?_
            refine lv_icmp_ne (tgt := 97) hx hb d_Mo_delegated_65 (by decide) (fun c65 => ?_) (fun c65 => ?_)
            · refine lv_iinc (v := nI (i + 1)) (lv' := [(2, .int (nI (i + 1))), (0, .ref a), (1, .ref b1)]) hx hb d_Mo_delegated_97 hl (k := 2) rfl (nI_add i 1) (by decide) rfl (fun ls hl => ?_)
              refine lv_goto (tgt := 47) hx hb d_Mo_delegated_100 (by decide) ?_
              have hno : rfo rs ls1 (vrf1 (rVf rs) lo (zscu se) Wz ls1) (i + 1) = rfo rs ls1 (vrf1 (rVf rs) lo (zscu se) Wz ls1) i := rfo_n hin (by first | exact fun z => c65 z.1 | exact fun z => hp78.1.z c81 ((zsm_n hr3 n2_b18 hr4 n3_b18).mpr z.2))
              refine zW_more (cells2 := rPi c1 c2 (rfo rs ls1 (vrf1 (rVf rs) lo (zscu se) Wz ls1) (i + 1)) 0 - rPi c1 c2 Wz 0 + 0) (slots2 := rPi c1 c2 (rfo rs ls1 (vrf1 (rVf rs) lo (zscu se) Wz ls1) (i + 1)) 0 - rPi c1 c2 Wz 0 + 0) (by rw [hno]; exact Nat.le_refl _) (by rw [hno]; exact Nat.le_refl _) ?_
              exact ih Gv (i + 1) ro8 _ _ (by omega) (by omega) (by rw [hno]; exact hst8) (hf8) hG hS ls (lv_sub hl [1, 2, 0] rfl)
            · refine lv_aload_n hx hb d_Mo_delegated_68 rfl (lv_at hl 0 rfl) ?_
              refine zg_get (ci := 11) (C := "ZoneAnswersModel") (T := T_Mo) (N := 21) hx hb hts zi_Mo hown hK hG ra8 rfl 4 (by decide) (hts _ w_1285) (fun _ h9 => h9) rfl d_Mo_delegated_69 ?_
              refine lv_iload_n hx hb d_Mo_delegated_72 rfl (lv_at hl 2 rfl) ?_
              refine zg_aldq hx hb hK hG 4 rm48 rfl (vp_in_nI (by omega) (by omega)) d_Mo_delegated_73 ?_
              refine zr_as (y := fr8 i) (by rw [zi_n _ (by omega)]) ?_
              refine zr_some (a := rA (re rs i)) (hfr8 i hin) ?_
              refine zg_get (ci := 12) (C := "ZoneAnswersModel$Rec") (T := T_Re) (N := 5) hx hb hts zi_Re hown hK hG hr1 rfl 0 (by decide) (hts _ w_1265) (fun _ h9 => h9) rfl d_Mo_delegated_74 ?_
              refine lv_aload_n hx hb d_Mo_delegated_77 rfl (lv_at hl 1 rfl) ?_
              refine zk_i (va_runS (As := [.ref (rN (re rs i)), .ref b1]) (rest := []) ⟨hx, hb, hml, hown, hts⟩ (t_Ns_same l E Gv (rN (re rs i)) (np_len (rM (re rs i))) nf hr2 b1 (np_len ls1) f_b18 n1_b18 (by omega) (by omega)) (zcS 2 hts w_1405 w_1406 w_33 w_1407 (by decide +kernel) ⟨Nat.le_of_ble_eq_true rfl, Nat.le_of_ble_eq_true rfl⟩) (zc_pre hbase hK hN hQ hG hS) rfl rfl hl.1 rfl (lv_room (Nat.le_of_ble_eq_true rfl)) d_Mo_delegated_78 ⟨(by dsimp only [List.length_nil]; omega), (by dsimp only [List.length_nil]; omega)⟩) hS (fun r78 G78 H locs hp78 hG hS => ?_)
              have hG : zP E Gv H := hp78.2 ▸ hG
              refine lv_if_eq (tgt := 97) hx hb d_Mo_delegated_81 (by decide) (fun c81 => ?_) (fun c81 => ?_)
              · refine lv_iinc (v := nI (i + 1)) (lv' := [(2, .int (nI (i + 1))), (0, .ref a), (1, .ref b1)]) hx hb d_Mo_delegated_97 hl (k := 2) rfl (nI_add i 1) (by decide) rfl (fun ls hl => ?_)
                refine lv_goto (tgt := 47) hx hb d_Mo_delegated_100 (by decide) ?_
                have hno : rfo rs ls1 (vrf1 (rVf rs) lo (zscu se) Wz ls1) (i + 1) = rfo rs ls1 (vrf1 (rVf rs) lo (zscu se) Wz ls1) i := rfo_n hin (by first | exact fun z => c65 z.1 | exact fun z => hp78.1.z c81 ((zsm_n hr3 n2_b18 hr4 n3_b18).mpr z.2))
                refine zW_more (cells2 := rPi c1 c2 (rfo rs ls1 (vrf1 (rVf rs) lo (zscu se) Wz ls1) (i + 1)) 0 - rPi c1 c2 Wz 0 + 0) (slots2 := rPi c1 c2 (rfo rs ls1 (vrf1 (rVf rs) lo (zscu se) Wz ls1) (i + 1)) 0 - rPi c1 c2 Wz 0 + 0) (by rw [hno]; exact Nat.le_refl _) (by rw [hno]; exact Nat.le_refl _) ?_
                exact ih Gv (i + 1) ro8 _ _ (by omega) (by omega) (by rw [hno]; exact hst8) (hf8) hG hS ls (lv_sub hl [1, 2, 0] rfl)
              · refine lv_aload_n hx hb d_Mo_delegated_84 rfl (lv_at hl 0 rfl) ?_
                refine lv_aload_n hx hb d_Mo_delegated_85 rfl (lv_at hl 0 rfl) ?_
                refine zg_get (ci := 11) (C := "ZoneAnswersModel") (T := T_Mo) (N := 21) hx hb hts zi_Mo hown hK hG ra8 rfl 4 (by decide) (hts _ w_1285) (fun _ h9 => h9) rfl d_Mo_delegated_86 ?_
                refine lv_iload_n hx hb d_Mo_delegated_89 rfl (lv_at hl 2 rfl) ?_
                refine zg_aldq hx hb hK hG 4 rm48 rfl (vp_in_nI (by omega) (by omega)) d_Mo_delegated_90 ?_
                refine zr_as (y := fr8 i) (by rw [zi_n _ (by omega)]) ?_
                refine zr_some (a := rA (re rs i)) (hfr8 i hin) ?_
                refine zg_get (ci := 12) (C := "ZoneAnswersModel$Rec") (T := T_Re) (N := 5) hx hb hts zi_Re hown hK hG hr1 rfl 1 (by decide) (hts _ w_1266) (fun _ h9 => h9) rfl d_Mo_delegated_91 ?_
                have hyes : rT (re rs i) = 2 ∧ rM (re rs i) = ls1 := ⟨c65, (zsm_n hr3 n2_b18 hr4 n3_b18).mp (hp78.1.nz c81)⟩
                have hdn := hst8.dn hin (Or.inl hyes.1)
                rw [hyes.1] at hdn
                have eW9 : rfo rs ls1 (vrf1 (rVf rs) lo (zscu se) Wz ls1) (i + 1) = vao (rVf rs) (rfo rs ls1 (vrf1 (rVf rs) lo (zscu se) Wz ls1) i) (vtg 2 (rB (re rs i))) := rfo_y hin hyes
                have eP9 : rPi c1 c2 (rfo rs ls1 (vrf1 (rVf rs) lo (zscu se) Wz ls1) (i + 1)) 0 = rPi c1 c2 (rMr (rVf rs) (rfo rs ls1 (vrf1 (rVf rs) lo (zscu se) Wz ls1) i) (vtg 2 (rB (re rs i))) 2) 0 := by rw [eW9]; rfl
                have hlej : zLe (rfo rs ls1 (vrf1 (rVf rs) lo (zscu se) Wz ls1) (i + 1)) (vrf (rVf rs) lo (zscu se) Wz ls1) := by rw [← rfo_all]; exact rfo_le hin
                have hpij := rPi_le (n := 0) (m := 0) hc1 hc2 hlej (rPw_le hlej)
                have hwlj := wln_le hlej
                have hlek : zLe (rfo rs ls1 (vrf1 (rVf rs) lo (zscu se) Wz ls1) i) (rfo rs ls1 (vrf1 (rVf rs) lo (zscu se) Wz ls1) (i + 1)) := rfo_le (Nat.le_succ i)
                have hpik := rPi_le (n := 0) (m := 0) hc1 hc2 hlek (rPw_le hlek)
                have hwlk := wln_le hlek
                have hGo94 := hG
                refine zk_v (va_runV (As := [.ref (rD (re rs i))]) (rest := []) ⟨hx, hb, hml, hown, hts⟩ (t_Mo_more l E Gv a c1 c2 ro8 lo rs (rfo rs ls1 (vrf1 (rVf rs) lo (zscu se) Wz ls1) i) wp th co se tp v19 v20 hst8 (rD (re rs i)) (vtg 2 (rB (re rs i))) hdn (by rw [← eW9]; have := hB.1; omega)) (zcV 1 hts w_1532 w_1534 wp_50 w_30 w_1535 (by decide +kernel) ⟨Nat.le_of_ble_eq_true rfl, Nat.le_of_ble_eq_true rfl⟩) (zc_preV hbase hK hN hQ hG hS ra8 rfl) rfl rfl hl.1 rfl (lv_room (Nat.le_of_ble_eq_true rfl)) d_Mo_delegated_94 ⟨(by dsimp only [List.length_nil]; omega), (by dsimp only [List.length_nil]; omega)⟩) hS (fun G94 H locs hp94 hG hS => ?_)
                obtain ⟨ro9, hst9, hf9⟩ := hp94
                have hst9 : rSt E G94 ro9 a c1 c2 lo rs (rfo rs ls1 (vrf1 (rVf rs) lo (zscu se) Wz ls1) (i + 1)) ([]) True (wln (rfo rs ls1 (vrf1 (rVf rs) lo (zscu se) Wz ls1) (i + 1)), 0, [], wp) th tp co se v19 v20 := by rw [rfo_y hin hyes]; exact hst9
                have hf9 : zfr ro zKr G ro9 G94 := hf8.tr hf9
                refine lv_iinc (v := nI (i + 1)) (lv' := [(2, .int (nI (i + 1))), (0, .ref a), (1, .ref b1)]) hx hb d_Mo_delegated_97 hl (k := 2) rfl (nI_add i 1) (by decide) rfl (fun ls hl => ?_)
                refine lv_goto (tgt := 47) hx hb d_Mo_delegated_100 (by decide) ?_
                refine zW_more (cells2 := rPi c1 c2 (rfo rs ls1 (vrf1 (rVf rs) lo (zscu se) Wz ls1) (i + 1)) 0 - rPi c1 c2 Wz 0 + 0) (slots2 := rPi c1 c2 (rfo rs ls1 (vrf1 (rVf rs) lo (zscu se) Wz ls1) (i + 1)) 0 - rPi c1 c2 Wz 0 + 0) (by dsimp only [List.length_nil]; omega) (by dsimp only [List.length_nil]; omega) ?_
                exact ih G94 (i + 1) ro9 _ _ (by omega) (by omega) (hst9) (hf9) hG hS ls (lv_sub hl [1, 2, 0] rfl)
      have hst0 : rSt E G34 roqb a c1 c2 lo rs (rfo rs ls1 (vrf1 (rVf rs) lo (zscu se) Wz ls1) 0) ([]) True (wln (rfo rs ls1 (vrf1 (rVf rs) lo (zscu se) Wz ls1) 0), 0, [], wp) th tp co se v19 v20 := by show rSt E G34 roqb a c1 c2 lo rs (vrf1 (rVf rs) lo (zscu se) Wz ls1) ([]) True (wln (vrf1 (rVf rs) lo (zscu se) Wz ls1), 0, [], wp) th tp co se v19 v20; rw [hR1]; exact hstqb
      have hpe0 : rPi c1 c2 (rfo rs ls1 (vrf1 (rVf rs) lo (zscu se) Wz ls1) 0) 0 = rPi c1 c2 (vrf1 (rVf rs) lo (zscu se) Wz ls1) 0 := rfl
      refine zW_more (cells2 := rPi c1 c2 (rfo rs ls1 (vrf1 (rVf rs) lo (zscu se) Wz ls1) 0) 0 - rPi c1 c2 Wz 0 + 0) (slots2 := rPi c1 c2 (rfo rs ls1 (vrf1 (rVf rs) lo (zscu se) Wz ls1) 0) 0 - rPi c1 c2 Wz 0 + 0) (by omega) (by omega) ?_
      exact loop47 _ G34 0 roqb _ _ (Nat.lt_succ_self _) (Nat.zero_le _) (hst0) (hfqb) hG hS ls (lv_sub hl [1, 2, 0] rfl)
