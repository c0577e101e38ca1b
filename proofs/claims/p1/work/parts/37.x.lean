/-- an int of a small number with sign -/
def zd (z : Int) : Int32 := Int32.ofInt z
theorem zd_sub (a b : Nat) : nI a - nI b = zd ((a : Int) - b) := by
  unfold zd
  rw [Int32.ofInt_sub]
  rfl
theorem zd_0 {z : Int} (h1 : -1000 < z) (h2 : z < 1000) : zd z = 0 ↔ z = 0 := by
  have e : (zd z).toInt = z := Int32.toInt_ofInt_of_le (by omega) (by omega)
  constructor
  · intro h; rw [h] at e; rw [← e]; rfl
  · intro h; rw [h]; rfl
theorem nk_l_bd {A : List Nat} : ∀ {B : List Nat}, (∀ j, A.getD j 0 < 256) → (∀ j, B.getD j 0 < 256) → A.length ≤ 63 → B.length ≤ 63 → -1000 < nk_l A B ∧ nk_l A B < 1000 := by
  induction A with
  | nil =>
    intro B h1 h2 h3 h4
    cases B with
    | nil => exact ⟨by decide, by decide⟩
    | cons b y => show -1000 < -((b :: y).length : Int) ∧ -((b :: y).length : Int) < 1000; omega
  | cons a A ih =>
    intro B h1 h2 h3 h4
    cases B with
    | nil => show -1000 < ((a :: A).length : Int) ∧ ((a :: A).length : Int) < 1000; omega
    | cons b B =>
      have q1 : a < 256 := h1 0
      have q2 : b < 256 := h2 0
      unfold nk_l
      split
      · exact ih (fun j => by have := h1 (j + 1); simpa using this) (fun j => by have := h2 (j + 1); simpa using this) (by simp at h3; omega) (by simp at h4; omega)
      · omega
theorem zu_lt {f : Nat → Int32} (hf : sb_Fit f) {x n j : Nat} : (zu f x n).getD j 0 < 256 := by
  rcases Nat.lt_or_ge j n with q | q
  · obtain ⟨c, h1, h2⟩ := zu8 (hf (x + j))
    rw [zu_at q h1 h2]; exact h1
  · rw [List.getD_eq_getElem?_getD, List.getElem?_eq_none (by rw [zu_len]; exact q)]
    decide
theorem nk_l_md {A B : List Nat} : nk_l (A.drop (min A.length B.length)) (B.drop (min A.length B.length)) = (A.length : Int) - B.length := by
  rw [nk_l_end (fun j hj => absurd hj (by rw [List.length_drop, List.length_drop]; omega)), List.length_drop, List.length_drop]
  omega
theorem nk_l_bk {A B : List Nat} {j c1 c2 : Nat} (h0 : 0 < j) (h1 : j ≤ A.length) (h2 : j ≤ B.length) (e1 : A.getD (j - 1) 0 = c1) (e2 : B.getD (j - 1) 0 = c2) : nk_l (A.drop (j - 1)) (B.drop (j - 1)) = if c1 = c2 then nk_l (A.drop j) (B.drop j) else (c1 : Int) - c2 := by
  have q1 : j - 1 < A.length := by omega
  have q2 : j - 1 < B.length := by omega
  rw [List.drop_eq_getElem_cons q1, List.drop_eq_getElem_cons q2, show j - 1 + 1 = j by omega]
  rw [List.getD_eq_getElem?_getD, List.getElem?_eq_getElem q1] at e1
  rw [List.getD_eq_getElem?_getD, List.getElem?_eq_getElem q2] at e2
  simp only [Option.getD_some] at e1 e2
  rw [e1, e2]
  rfl
theorem zky_take {ls : np_N} {p : Nat} (h : p < ls.length) : zky (ls.take (p + 1)) = (ls.getD p []).map (fun v => (v &&& 255).toNatClampNeg) :: zky (ls.take p) := by
  have e : ls.getD p [] = ls[p] := by rw [List.getD_eq_getElem?_getD, List.getElem?_eq_getElem h]; rfl
  unfold zky
  rw [e, ← List.take_append_getElem h, List.reverse_append, List.map_append]
  rfl
theorem nk_d_c {a b : List Nat} {x y : nk_K} : nk_d (a :: x) (b :: y) = if nk_l a b = 0 then nk_d x y else nk_l a b := rfl
theorem nk_d_ini {x y : np_N} {w : Nat} (hw : w = min x.length y.length) : nk_d (zky (x.take (x.length - w))) (zky (y.take (y.length - w))) = (x.length : Int) - y.length := by
  rw [nk_d_end (fun j hj => absurd hj (by rw [zky_len, zky_len, List.length_take, List.length_take]; omega)), zky_len, zky_len, List.length_take, List.length_take]
  omega
theorem w_182 : (.methodLink "ZoneAnswers$Name" 23 ⟨"java/lang/Math", "min", "(II)I"⟩ : Cond) ∈ zw := zw_at 182 (by decide +kernel) (by decide +kernel)
abbrev c_Na_order : ByteArray := prog_4_method_7_code
abbrev y_Na_order : MethodName := ⟨"ZoneAnswers$Name", "order", "(LZoneAnswers$Name;)I"⟩
theorem d_Na_order_0 : decode c_Na_order 0 = .ok (.aload_n 0, 1) := by decide +kernel
theorem d_Na_order_1 : decode c_Na_order 1 = .ok (.getfield 15, 3) := by decide +kernel
theorem d_Na_order_4 : decode c_Na_order 4 = .ok (.aload_n 1, 1) := by decide +kernel
theorem d_Na_order_5 : decode c_Na_order 5 = .ok (.getfield 15, 3) := by decide +kernel
theorem d_Na_order_8 : decode c_Na_order 8 = .ok (.invokestatic 23, 3) := by decide +kernel
theorem d_Na_order_11 : decode c_Na_order 11 = .ok (.istore_n 2, 1) := by decide +kernel
theorem d_Na_order_12 : decode c_Na_order 12 = .ok (.aload_n 0, 1) := by decide +kernel
theorem d_Na_order_13 : decode c_Na_order 13 = .ok (.iload_n 2, 1) := by decide +kernel
theorem d_Na_order_14 : decode c_Na_order 14 = .ok (.invokevirtual 19, 3) := by decide +kernel
theorem d_Na_order_17 : decode c_Na_order 17 = .ok (.istore_n 3, 1) := by decide +kernel
theorem d_Na_order_18 : decode c_Na_order 18 = .ok (.aload_n 1, 1) := by decide +kernel
theorem d_Na_order_19 : decode c_Na_order 19 = .ok (.iload_n 2, 1) := by decide +kernel
theorem d_Na_order_20 : decode c_Na_order 20 = .ok (.invokevirtual 19, 3) := by decide +kernel
theorem d_Na_order_23 : decode c_Na_order 23 = .ok (.istore 4, 2) := by decide +kernel
theorem d_Na_order_25 : decode c_Na_order 25 = .ok (.aload_n 0, 1) := by decide +kernel
theorem d_Na_order_26 : decode c_Na_order 26 = .ok (.getfield 15, 3) := by decide +kernel
theorem d_Na_order_29 : decode c_Na_order 29 = .ok (.aload_n 1, 1) := by decide +kernel
theorem d_Na_order_30 : decode c_Na_order 30 = .ok (.getfield 15, 3) := by decide +kernel
theorem d_Na_order_33 : decode c_Na_order 33 = .ok (.isub, 1) := by decide +kernel
theorem d_Na_order_34 : decode c_Na_order 34 = .ok (.istore 5, 2) := by decide +kernel
theorem d_Na_order_36 : decode c_Na_order 36 = .ok (.iload_n 2, 1) := by decide +kernel
theorem d_Na_order_37 : decode c_Na_order 37 = .ok (.istore 6, 2) := by decide +kernel
theorem d_Na_order_39 : decode c_Na_order 39 = .ok (.iload 6, 2) := by decide +kernel
theorem d_Na_order_41 : decode c_Na_order 41 = .ok (.ifCond .le 127, 3) := by decide +kernel
theorem d_Na_order_44 : decode c_Na_order 44 = .ok (.aload_n 0, 1) := by decide +kernel
theorem d_Na_order_45 : decode c_Na_order 45 = .ok (.getfield 9, 3) := by decide +kernel
theorem d_Na_order_48 : decode c_Na_order 48 = .ok (.iload_n 3, 1) := by decide +kernel
theorem d_Na_order_49 : decode c_Na_order 49 = .ok (.baload, 1) := by decide +kernel
theorem d_Na_order_50 : decode c_Na_order 50 = .ok (.istore 7, 2) := by decide +kernel
theorem d_Na_order_52 : decode c_Na_order 52 = .ok (.aload_n 1, 1) := by decide +kernel
theorem d_Na_order_53 : decode c_Na_order 53 = .ok (.getfield 9, 3) := by decide +kernel
theorem d_Na_order_56 : decode c_Na_order 56 = .ok (.iload 4, 2) := by decide +kernel
theorem d_Na_order_58 : decode c_Na_order 58 = .ok (.baload, 1) := by decide +kernel
theorem d_Na_order_59 : decode c_Na_order 59 = .ok (.istore 8, 2) := by decide +kernel
theorem d_Na_order_61 : decode c_Na_order 61 = .ok (.iload 7, 2) := by decide +kernel
theorem d_Na_order_63 : decode c_Na_order 63 = .ok (.iload 8, 2) := by decide +kernel
theorem d_Na_order_65 : decode c_Na_order 65 = .ok (.isub, 1) := by decide +kernel
theorem d_Na_order_66 : decode c_Na_order 66 = .ok (.istore 9, 2) := by decide +kernel
theorem d_Na_order_68 : decode c_Na_order 68 = .ok (.iload 7, 2) := by decide +kernel
theorem d_Na_order_70 : decode c_Na_order 70 = .ok (.iload 8, 2) := by decide +kernel
theorem d_Na_order_72 : decode c_Na_order 72 = .ok (.invokestatic 23, 3) := by decide +kernel
theorem d_Na_order_75 : decode c_Na_order 75 = .ok (.istore 10, 2) := by decide +kernel
theorem d_Na_order_77 : decode c_Na_order 77 = .ok (.iload 10, 2) := by decide +kernel
theorem d_Na_order_79 : decode c_Na_order 79 = .ok (.ifCond .le 53, 3) := by decide +kernel
theorem d_Na_order_82 : decode c_Na_order 82 = .ok (.aload_n 0, 1) := by decide +kernel
theorem d_Na_order_83 : decode c_Na_order 83 = .ok (.getfield 9, 3) := by decide +kernel
theorem d_Na_order_86 : decode c_Na_order 86 = .ok (.iload_n 3, 1) := by decide +kernel
theorem d_Na_order_87 : decode c_Na_order 87 = .ok (.iload 10, 2) := by decide +kernel
theorem d_Na_order_89 : decode c_Na_order 89 = .ok (.iadd, 1) := by decide +kernel
theorem d_Na_order_90 : decode c_Na_order 90 = .ok (.baload, 1) := by decide +kernel
theorem d_Na_order_91 : decode c_Na_order 91 = .ok (.sipush 255, 3) := by decide +kernel
theorem d_Na_order_94 : decode c_Na_order 94 = .ok (.iand, 1) := by decide +kernel
theorem d_Na_order_95 : decode c_Na_order 95 = .ok (.aload_n 1, 1) := by decide +kernel
theorem d_Na_order_96 : decode c_Na_order 96 = .ok (.getfield 9, 3) := by decide +kernel
theorem d_Na_order_99 : decode c_Na_order 99 = .ok (.iload 4, 2) := by decide +kernel
theorem d_Na_order_101 : decode c_Na_order 101 = .ok (.iload 10, 2) := by decide +kernel
theorem d_Na_order_103 : decode c_Na_order 103 = .ok (.iadd, 1) := by decide +kernel
theorem d_Na_order_104 : decode c_Na_order 104 = .ok (.baload, 1) := by decide +kernel
theorem d_Na_order_105 : decode c_Na_order 105 = .ok (.sipush 255, 3) := by decide +kernel
theorem d_Na_order_108 : decode c_Na_order 108 = .ok (.iand, 1) := by decide +kernel
theorem d_Na_order_109 : decode c_Na_order 109 = .ok (.isub, 1) := by decide +kernel
theorem d_Na_order_110 : decode c_Na_order 110 = .ok (.istore 11, 2) := by decide +kernel
theorem d_Na_order_112 : decode c_Na_order 112 = .ok (.iload 11, 2) := by decide +kernel
theorem d_Na_order_114 : decode c_Na_order 114 = .ok (.ifCond .eq 8, 3) := by decide +kernel
theorem d_Na_order_117 : decode c_Na_order 117 = .ok (.iload 11, 2) := by decide +kernel
theorem d_Na_order_119 : decode c_Na_order 119 = .ok (.goto 5, 3) := by decide +kernel
theorem d_Na_order_122 : decode c_Na_order 122 = .ok (.iload 9, 2) := by decide +kernel
theorem d_Na_order_124 : decode c_Na_order 124 = .ok (.istore 9, 2) := by decide +kernel
theorem d_Na_order_126 : decode c_Na_order 126 = .ok (.iinc 10 (-1), 3) := by decide +kernel
theorem d_Na_order_129 : decode c_Na_order 129 = .ok (.goto (-52), 3) := by decide +kernel
theorem d_Na_order_132 : decode c_Na_order 132 = .ok (.iload 9, 2) := by decide +kernel
theorem d_Na_order_134 : decode c_Na_order 134 = .ok (.ifCond .eq 8, 3) := by decide +kernel
theorem d_Na_order_137 : decode c_Na_order 137 = .ok (.iload 9, 2) := by decide +kernel
theorem d_Na_order_139 : decode c_Na_order 139 = .ok (.goto 5, 3) := by decide +kernel
theorem d_Na_order_142 : decode c_Na_order 142 = .ok (.iload 5, 2) := by decide +kernel
theorem d_Na_order_144 : decode c_Na_order 144 = .ok (.istore 5, 2) := by decide +kernel
theorem d_Na_order_146 : decode c_Na_order 146 = .ok (.iload_n 3, 1) := by decide +kernel
theorem d_Na_order_147 : decode c_Na_order 147 = .ok (.iload 7, 2) := by decide +kernel
theorem d_Na_order_149 : decode c_Na_order 149 = .ok (.iconst 1, 1) := by decide +kernel
theorem d_Na_order_150 : decode c_Na_order 150 = .ok (.iadd, 1) := by decide +kernel
theorem d_Na_order_151 : decode c_Na_order 151 = .ok (.iadd, 1) := by decide +kernel
theorem d_Na_order_152 : decode c_Na_order 152 = .ok (.istore_n 3, 1) := by decide +kernel
theorem d_Na_order_153 : decode c_Na_order 153 = .ok (.iload 4, 2) := by decide +kernel
theorem d_Na_order_155 : decode c_Na_order 155 = .ok (.iload 8, 2) := by decide +kernel
theorem d_Na_order_157 : decode c_Na_order 157 = .ok (.iconst 1, 1) := by decide +kernel
theorem d_Na_order_158 : decode c_Na_order 158 = .ok (.iadd, 1) := by decide +kernel
theorem d_Na_order_159 : decode c_Na_order 159 = .ok (.iadd, 1) := by decide +kernel
theorem d_Na_order_160 : decode c_Na_order 160 = .ok (.istore 4, 2) := by decide +kernel
theorem d_Na_order_162 : decode c_Na_order 162 = .ok (.iinc 6 (-1), 3) := by decide +kernel
theorem d_Na_order_165 : decode c_Na_order 165 = .ok (.goto (-126), 3) := by decide +kernel
theorem d_Na_order_168 : decode c_Na_order 168 = .ok (.iload 5, 2) := by decide +kernel
theorem d_Na_order_170 : decode c_Na_order 170 = .ok (.ireturn, 1) := by decide +kernel
abbrev rm_Na_order : Room := { frames := 1, cells := 0, slots := 0, locals := 40 }
set_option maxHeartbeats 4000000 in
set_option maxRecDepth 100000 in
/-- Name.order(other) -/
theorem t_Na_order (l : Launch) (E : zc_E) (G : zg_G) (a0 b0 : Nat) (ls0 : np_N) (f0 : Nat → Int32) (ha0 : G a0 = some (.inr (3, [.ref b0, .int (nI ls0.length)]))) (hb0 : G b0 = some (.inl (E.2.1 0, np_len ls0, .inl f0))) (hf0 : np_f ls0 f0) (hg0 : np_g ls0) (hft0 : sb_Fit f0) (a1 b1 : Nat) (ls1 : np_N) (f1 : Nat → Int32) (ha1 : G a1 = some (.inr (3, [.ref b1, .int (nI ls1.length)]))) (hb1 : G b1 = some (.inl (E.2.1 0, np_len ls1, .inl f1))) (hf1 : np_f ls1 f1) (hg1 : np_g ls1) (hft1 : sb_Fit f1) : zMi l E y_Na_order c_Na_order 12 (some .int) rm_Na_order [.ref a0, .ref a1] G (fun (r : Int32) (G2 : zg_G) => r = zd (nk_d (zky ls0) (zky ls1)) ∧ G2 = G) := by
  refine zMi.of (by decide) (Nat.le_of_ble_eq_true rfl) ?_
  intro p e s m args below meth c Q hZ hG hret ls hl
  obtain ⟨hx, hb, hr, hts, hown, hlocks, hml, hnm, hbase, hK, hN, hQ⟩ := hZ
  have hl : lv_has ls 12 [(0, .ref a0), (1, .ref a1)] := hl
  have hS : zg_S (zc_b E) s.heap s.heap [] := va_S.rf
  have zl0 := hg0.2
  have zc0 := hg0.count
  have zl1 := hg1.2
  have zc1 := hg1.count
  refine lv_aload_n hx hb d_Na_order_0 rfl (lv_at hl 0 rfl) ?_
  refine zg_get (ci := 3) (C := "ZoneAnswers$Name") (T := T_Na) (N := 2) hx hb hts zi_Na hown hK hG ha0 rfl 1 (by decide) (hts _ w_116) (fun _ h9 => h9) rfl d_Na_order_1 ?_
  refine lv_aload_n hx hb d_Na_order_4 rfl (lv_at hl 1 rfl) ?_
  refine zg_get (ci := 3) (C := "ZoneAnswers$Name") (T := T_Na) (N := 2) hx hb hts zi_Na hown hK hG ha1 rfl 1 (by decide) (hts _ w_116) (fun _ h9 => h9) rfl d_Na_order_5 ?_
  refine va_mmin hx hb (hml.trans hl.1.symm) hown (hts _ w_182) (hts _ w_183) (hts _ w_11) (hts _ w_184) (Nat.le_of_ble_eq_true rfl) (Nat.le_of_ble_eq_true rfl) (by decide) (by decide) d_Na_order_8 ?_
  refine zi_as (y := nI (min ls0.length ls1.length)) (zi_min (by omega) (by omega)) ?_
  refine lv_istore_n (lv' := [(2, .int (nI (min ls0.length ls1.length))), (0, .ref a0), (1, .ref a1)]) hx hb d_Na_order_11 rfl hl (by decide) rfl (fun ls hl => ?_)
  refine lv_aload_n hx hb d_Na_order_12 rfl (lv_at hl 1 rfl) ?_
  refine lv_iload_n hx hb d_Na_order_13 rfl (lv_at hl 0 rfl) ?_
  refine zk_i (va_runV (As := [.int (nI (min ls0.length ls1.length))]) (rest := []) ⟨hx, hb, hml, hown, hts⟩ (t_Na_tail l E G a0 b0 ls0 f0 ha0 hb0 hf0 hg0 (min ls0.length ls1.length) (by omega)) (zcV 1 hts w_185 w_187 wp_1 w_7 w_188 (by decide +kernel) ⟨Nat.le_of_ble_eq_true rfl, Nat.le_of_ble_eq_true rfl⟩) (zc_preV hbase hK hN hQ hG hS ha0 rfl) rfl rfl hl.1 rfl (lv_room (Nat.le_of_ble_eq_true rfl)) d_Na_order_14 ⟨(by decide), (by decide)⟩) hS (fun r14 G14 H locs hp14 hG hS => ?_)
  have hG : zP E G H := hp14.2 ▸ hG
  refine zi_as (y := nI (np_pos ls0 (ls0.length - min ls0.length ls1.length))) hp14.1 ?_
  refine lv_istore_n (lv' := [(3, .int (nI (np_pos ls0 (ls0.length - min ls0.length ls1.length)))), (2, .int (nI (min ls0.length ls1.length))), (0, .ref a0), (1, .ref a1)]) hx hb d_Na_order_17 rfl hl (by decide) rfl (fun ls hl => ?_)
  refine lv_aload_n hx hb d_Na_order_18 rfl (lv_at hl 3 rfl) ?_
  refine lv_iload_n hx hb d_Na_order_19 rfl (lv_at hl 1 rfl) ?_
  refine zk_i (va_runV (As := [.int (nI (min ls0.length ls1.length))]) (rest := []) ⟨hx, hb, hml, hown, hts⟩ (t_Na_tail l E G a1 b1 ls1 f1 ha1 hb1 hf1 hg1 (min ls0.length ls1.length) (by omega)) (zcV 1 hts w_185 w_187 wp_1 w_7 w_188 (by decide +kernel) ⟨Nat.le_of_ble_eq_true rfl, Nat.le_of_ble_eq_true rfl⟩) (zc_preV hbase hK hN hQ hG hS ha1 rfl) rfl rfl hl.1 rfl (lv_room (Nat.le_of_ble_eq_true rfl)) d_Na_order_20 ⟨(by decide), (by decide)⟩) hS (fun r20 G20 H locs hp20 hG hS => ?_)
  have hG : zP E G H := hp20.2 ▸ hG
  refine zi_as (y := nI (np_pos ls1 (ls1.length - min ls0.length ls1.length))) hp20.1 ?_
  refine lv_istore (lv' := [(4, .int (nI (np_pos ls1 (ls1.length - min ls0.length ls1.length)))), (3, .int (nI (np_pos ls0 (ls0.length - min ls0.length ls1.length)))), (2, .int (nI (min ls0.length ls1.length))), (0, .ref a0), (1, .ref a1)]) hx hb d_Na_order_23 hl (by decide) rfl (fun ls hl => ?_)
  refine lv_aload_n hx hb d_Na_order_25 rfl (lv_at hl 3 rfl) ?_
  refine zg_get (ci := 3) (C := "ZoneAnswers$Name") (T := T_Na) (N := 2) hx hb hts zi_Na hown hK hG ha0 rfl 1 (by decide) (hts _ w_116) (fun _ h9 => h9) rfl d_Na_order_26 ?_
  refine lv_aload_n hx hb d_Na_order_29 rfl (lv_at hl 4 rfl) ?_
  refine zg_get (ci := 3) (C := "ZoneAnswers$Name") (T := T_Na) (N := 2) hx hb hts zi_Na hown hK hG ha1 rfl 1 (by decide) (hts _ w_116) (fun _ h9 => h9) rfl d_Na_order_30 ?_
  refine lv_isub hx hb d_Na_order_33 ?_
  refine zi_as (y := zd ((ls0.length : Int) - ls1.length)) (zd_sub _ _) ?_
  refine lv_istore (lv' := [(5, .int (zd ((ls0.length : Int) - ls1.length))), (4, .int (nI (np_pos ls1 (ls1.length - min ls0.length ls1.length)))), (3, .int (nI (np_pos ls0 (ls0.length - min ls0.length ls1.length)))), (2, .int (nI (min ls0.length ls1.length))), (0, .ref a0), (1, .ref a1)]) hx hb d_Na_order_34 hl (by decide) rfl (fun ls hl => ?_)
  refine lv_iload_n hx hb d_Na_order_36 rfl (lv_at hl 3 rfl) ?_
  refine lv_istore (lv' := [(6, .int (nI (min ls0.length ls1.length))), (5, .int (zd ((ls0.length : Int) - ls1.length))), (4, .int (nI (np_pos ls1 (ls1.length - min ls0.length ls1.length)))), (3, .int (nI (np_pos ls0 (ls0.length - min ls0.length ls1.length)))), (2, .int (nI (min ls0.length ls1.length))), (0, .ref a0), (1, .ref a1)]) hx hb d_Na_order_37 hl (by decide) rfl (fun ls hl => ?_)
  have loop39 : ∀ (N : Nat) (i : Nat) (dv : Int32) (H : Heap) (locs : List Loc), (min ls0.length ls1.length - i) < N → (i ≤ min ls0.length ls1.length) → (dv = zd (nk_d (zky (ls0.take (ls0.length - min ls0.length ls1.length + i))) (zky (ls1.take (ls1.length - min ls0.length ls1.length + i))))) → zP E G H → zg_S (zc_b E) s.heap H locs → ∀ (ls : Array Slot), lv_has ls 12 [(0, .ref a0), (1, .ref a1), (3, .int (nI (np_pos ls0 (ls0.length - min ls0.length ls1.length + i)))), (4, .int (nI (np_pos ls1 (ls1.length - min ls0.length ls1.length + i)))), (5, .int dv), (6, .int (nI (min ls0.length ls1.length - i)))] → W p l e rm_Na_order s m args below meth c H locs 0 0 Q (F0 m 39 ls []) := by
    intro N
    induction N with
    | zero =>
      intro i dv H locs hlt
      exact absurd hlt (Nat.not_lt_zero _)
    | succ N ih =>
      intro i dv H locs hlt hi hdv hG hS ls hl
      have ih39 := ih
      refine lv_iload hx hb d_Na_order_39 (lv_at hl 5 rfl) ?_
      refine lv_if_le (tgt := 168) hx hb d_Na_order_41 (by decide) (fun c41 => ?_) (fun c41 => ?_)
      · have b41 : (min ls0.length ls1.length - i) ≤ 0 := (nI_leI (a := (min ls0.length ls1.length - i)) (b := 0) (by omega) (by omega)).mp c41
        refine lv_iload hx hb d_Na_order_168 (lv_at hl 4 rfl) ?_
        exact hret _ _ _ _ _ _ _ _ _ hr (rfl) (⟨by rw [hdv, show ls0.length - min ls0.length ls1.length + i = ls0.length by omega, show ls1.length - min ls0.length ls1.length + i = ls1.length by omega, List.take_length, List.take_length], rfl⟩) hG hS (Nat.le_refl _) (Nat.le_refl _) d_Na_order_170
      · have b41 : ¬ (min ls0.length ls1.length - i) ≤ 0 := fun q => c41 ((nI_leI (a := (min ls0.length ls1.length - i)) (b := 0) (by omega) (by omega)).mpr q)
        have w0 := np_pos_succ ls0 (ls0.length - min ls0.length ls1.length + i) (by omega)
        have w1 := np_pos_succ ls1 (ls1.length - min ls0.length ls1.length + i) (by omega)
        have v0 := np_pos_le ls0 (ls0.length - min ls0.length ls1.length + i + 1) (by omega)
        have v1 := np_pos_le ls1 (ls1.length - min ls0.length ls1.length + i + 1) (by omega)
        have lb0 := hg0.lab (k := ls0.length - min ls0.length ls1.length + i) (by omega)
        have lb1 := hg1.lab (k := ls1.length - min ls0.length ls1.length + i) (by omega)
        refine lv_aload_n hx hb d_Na_order_44 rfl (lv_at hl 0 rfl) ?_
        refine zg_get (ci := 3) (C := "ZoneAnswers$Name") (T := T_Na) (N := 2) hx hb hts zi_Na hown hK hG ha0 rfl 0 (by decide) (hts _ w_113) (fun _ h9 => h9) rfl d_Na_order_45 ?_
        refine lv_iload_n hx hb d_Na_order_48 rfl (lv_at hl 2 rfl) ?_
        refine zg_bald hx hb hK hG 0 hb0 rfl (np_in hg0 (by omega)) d_Na_order_49 ?_
        refine zi_as (y := nI ((ls0.getD (ls0.length - min ls0.length ls1.length + i) []).length)) (np_rd hf0 hg0 (by omega)) ?_
        refine lv_istore (lv' := [(7, .int (nI ((ls0.getD (ls0.length - min ls0.length ls1.length + i) []).length))), (0, .ref a0), (1, .ref a1), (3, .int (nI (np_pos ls0 (ls0.length - min ls0.length ls1.length + i)))), (4, .int (nI (np_pos ls1 (ls1.length - min ls0.length ls1.length + i)))), (5, .int dv), (6, .int (nI (min ls0.length ls1.length - i)))]) hx hb d_Na_order_50 hl (by decide) rfl (fun ls hl => ?_)
        refine lv_aload_n hx hb d_Na_order_52 rfl (lv_at hl 2 rfl) ?_
        refine zg_get (ci := 3) (C := "ZoneAnswers$Name") (T := T_Na) (N := 2) hx hb hts zi_Na hown hK hG ha1 rfl 0 (by decide) (hts _ w_113) (fun _ h9 => h9) rfl d_Na_order_53 ?_
        refine lv_iload hx hb d_Na_order_56 (lv_at hl 4 rfl) ?_
        refine zg_bald hx hb hK hG 0 hb1 rfl (np_in hg1 (by omega)) d_Na_order_58 ?_
        refine zi_as (y := nI ((ls1.getD (ls1.length - min ls0.length ls1.length + i) []).length)) (np_rd hf1 hg1 (by omega)) ?_
        refine lv_istore (lv' := [(8, .int (nI ((ls1.getD (ls1.length - min ls0.length ls1.length + i) []).length))), (7, .int (nI ((ls0.getD (ls0.length - min ls0.length ls1.length + i) []).length))), (0, .ref a0), (1, .ref a1), (3, .int (nI (np_pos ls0 (ls0.length - min ls0.length ls1.length + i)))), (4, .int (nI (np_pos ls1 (ls1.length - min ls0.length ls1.length + i)))), (5, .int dv), (6, .int (nI (min ls0.length ls1.length - i)))]) hx hb d_Na_order_59 hl (by decide) rfl (fun ls hl => ?_)
        refine lv_iload hx hb d_Na_order_61 (lv_at hl 1 rfl) ?_
        refine lv_iload hx hb d_Na_order_63 (lv_at hl 0 rfl) ?_
        refine lv_isub hx hb d_Na_order_65 ?_
        refine zi_as (y := zd ((((ls0.getD (ls0.length - min ls0.length ls1.length + i) []).length) : Int) - ((ls1.getD (ls1.length - min ls0.length ls1.length + i) []).length))) (zd_sub _ _) ?_
        refine lv_istore (lv' := [(9, .int (zd ((((ls0.getD (ls0.length - min ls0.length ls1.length + i) []).length) : Int) - ((ls1.getD (ls1.length - min ls0.length ls1.length + i) []).length)))), (8, .int (nI ((ls1.getD (ls1.length - min ls0.length ls1.length + i) []).length))), (7, .int (nI ((ls0.getD (ls0.length - min ls0.length ls1.length + i) []).length))), (0, .ref a0), (1, .ref a1), (3, .int (nI (np_pos ls0 (ls0.length - min ls0.length ls1.length + i)))), (4, .int (nI (np_pos ls1 (ls1.length - min ls0.length ls1.length + i)))), (5, .int dv), (6, .int (nI (min ls0.length ls1.length - i)))]) hx hb d_Na_order_66 hl (by decide) rfl (fun ls hl => ?_)
        refine lv_iload hx hb d_Na_order_68 (lv_at hl 2 rfl) ?_
        refine lv_iload hx hb d_Na_order_70 (lv_at hl 1 rfl) ?_
        refine va_mmin hx hb (hml.trans hl.1.symm) hown (hts _ w_182) (hts _ w_183) (hts _ w_11) (hts _ w_184) (Nat.le_of_ble_eq_true rfl) (Nat.le_of_ble_eq_true rfl) (by decide) (by decide) d_Na_order_72 ?_
        refine zi_as (y := nI (min ((ls0.getD (ls0.length - min ls0.length ls1.length + i) []).length) ((ls1.getD (ls1.length - min ls0.length ls1.length + i) []).length))) (zi_min (by omega) (by omega)) ?_
        refine lv_istore (lv' := [(10, .int (nI (min ((ls0.getD (ls0.length - min ls0.length ls1.length + i) []).length) ((ls1.getD (ls1.length - min ls0.length ls1.length + i) []).length)))), (9, .int (zd ((((ls0.getD (ls0.length - min ls0.length ls1.length + i) []).length) : Int) - ((ls1.getD (ls1.length - min ls0.length ls1.length + i) []).length)))), (8, .int (nI ((ls1.getD (ls1.length - min ls0.length ls1.length + i) []).length))), (7, .int (nI ((ls0.getD (ls0.length - min ls0.length ls1.length + i) []).length))), (0, .ref a0), (1, .ref a1), (3, .int (nI (np_pos ls0 (ls0.length - min ls0.length ls1.length + i)))), (4, .int (nI (np_pos ls1 (ls1.length - min ls0.length ls1.length + i)))), (5, .int dv), (6, .int (nI (min ls0.length ls1.length - i)))]) hx hb d_Na_order_75 hl (by decide) rfl (fun ls hl => ?_)
        have loop77 : ∀ (N : Nat) (j : Nat) (zv : Int32), j < N → (j ≤ min ((ls0.getD (ls0.length - min ls0.length ls1.length + i) []).length) ((ls1.getD (ls1.length - min ls0.length ls1.length + i) []).length)) → (zv = zd (nk_l ((zu f0 (np_pos ls0 (ls0.length - min ls0.length ls1.length + i) + 1) ((ls0.getD (ls0.length - min ls0.length ls1.length + i) []).length)).drop j) ((zu f1 (np_pos ls1 (ls1.length - min ls0.length ls1.length + i) + 1) ((ls1.getD (ls1.length - min ls0.length ls1.length + i) []).length)).drop j))) → ∀ (ls : Array Slot), lv_has ls 12 [(0, .ref a0), (1, .ref a1), (3, .int (nI (np_pos ls0 (ls0.length - min ls0.length ls1.length + i)))), (4, .int (nI (np_pos ls1 (ls1.length - min ls0.length ls1.length + i)))), (5, .int dv), (6, .int (nI (min ls0.length ls1.length - i))), (7, .int (nI ((ls0.getD (ls0.length - min ls0.length ls1.length + i) []).length))), (8, .int (nI ((ls1.getD (ls1.length - min ls0.length ls1.length + i) []).length))), (9, .int zv), (10, .int (nI j))] → W p l e rm_Na_order s m args below meth c H locs 0 0 Q (F0 m 77 ls []) := by
          intro N
          induction N with
          | zero =>
            intro j zv hlt
            exact absurd hlt (Nat.not_lt_zero _)
          | succ N ih =>
            intro j zv hlt hj hz ls hl
            refine lv_iload hx hb d_Na_order_77 (lv_at hl 9 rfl) ?_
            refine lv_if_le (tgt := 132) hx hb d_Na_order_79 (by decide) (fun c79 => ?_) (fun c79 => ?_)
            · have b79 : j ≤ 0 := (nI_leI (a := j) (b := 0) (by omega) (by omega)).mp c79
              have hz0 := hz
              rw [show j = 0 by omega, List.drop_zero, List.drop_zero] at hz0
              have hbd := (nk_l_bd (A := zu f0 (np_pos ls0 (ls0.length - min ls0.length ls1.length + i) + 1) ((ls0.getD (ls0.length - min ls0.length ls1.length + i) []).length)) (B := zu f1 (np_pos ls1 (ls1.length - min ls0.length ls1.length + i) + 1) ((ls1.getD (ls1.length - min ls0.length ls1.length + i) []).length)) (fun _ => zu_lt hft0) (fun _ => zu_lt hft1) (by rw [zu_len]; omega) (by rw [zu_len]; omega))
              have hc0 : nk_d (zky (ls0.take (ls0.length - min ls0.length ls1.length + i + 1))) (zky (ls1.take (ls1.length - min ls0.length ls1.length + i + 1))) = if nk_l (zu f0 (np_pos ls0 (ls0.length - min ls0.length ls1.length + i) + 1) ((ls0.getD (ls0.length - min ls0.length ls1.length + i) []).length)) (zu f1 (np_pos ls1 (ls1.length - min ls0.length ls1.length + i) + 1) ((ls1.getD (ls1.length - min ls0.length ls1.length + i) []).length)) = 0 then nk_d (zky (ls0.take (ls0.length - min ls0.length ls1.length + i))) (zky (ls1.take (ls1.length - min ls0.length ls1.length + i))) else nk_l (zu f0 (np_pos ls0 (ls0.length - min ls0.length ls1.length + i) + 1) ((ls0.getD (ls0.length - min ls0.length ls1.length + i) []).length)) (zu f1 (np_pos ls1 (ls1.length - min ls0.length ls1.length + i) + 1) ((ls1.getD (ls1.length - min ls0.length ls1.length + i) []).length)) := by rw [zky_take (by omega), zky_take (by omega), nk_d_c, zu_lab hf0 (by omega), zu_lab hf1 (by omega)]
              refine lv_iload hx hb d_Na_order_132 (lv_at hl 8 rfl) ?_
              refine lv_if_eq (tgt := 142) hx hb d_Na_order_134 (by decide) (fun c134 => ?_) (fun c134 => ?_)
              · rw [if_pos ((zd_0 hbd.1 hbd.2).mp (hz0.symm.trans c134))] at hc0
                refine lv_iload hx hb d_Na_order_142 (lv_at hl 4 rfl) ?_
                refine lv_istore (lv' := [(5, .int dv), (0, .ref a0), (1, .ref a1), (3, .int (nI (np_pos ls0 (ls0.length - min ls0.length ls1.length + i)))), (4, .int (nI (np_pos ls1 (ls1.length - min ls0.length ls1.length + i)))), (6, .int (nI (min ls0.length ls1.length - i))), (7, .int (nI ((ls0.getD (ls0.length - min ls0.length ls1.length + i) []).length))), (8, .int (nI ((ls1.getD (ls1.length - min ls0.length ls1.length + i) []).length))), (9, .int zv), (10, .int (nI j))]) hx hb d_Na_order_144 hl (by decide) rfl (fun ls hl => ?_)
                refine lv_iload_n hx hb d_Na_order_146 rfl (lv_at hl 3 rfl) ?_
                refine lv_iload hx hb d_Na_order_147 (lv_at hl 6 rfl) ?_
                refine lv_iconst (v := 1) hx hb d_Na_order_149 (by decide) ?_
                refine lv_iadd hx hb d_Na_order_150 ?_
                refine lv_iadd hx hb d_Na_order_151 ?_
                refine zi_as (y := nI (np_pos ls0 (ls0.length - min ls0.length ls1.length + i + 1))) (np_step (by omega)) ?_
                refine lv_istore_n (lv' := [(3, .int (nI (np_pos ls0 (ls0.length - min ls0.length ls1.length + i + 1)))), (5, .int dv), (0, .ref a0), (1, .ref a1), (4, .int (nI (np_pos ls1 (ls1.length - min ls0.length ls1.length + i)))), (6, .int (nI (min ls0.length ls1.length - i))), (7, .int (nI ((ls0.getD (ls0.length - min ls0.length ls1.length + i) []).length))), (8, .int (nI ((ls1.getD (ls1.length - min ls0.length ls1.length + i) []).length))), (9, .int zv), (10, .int (nI j))]) hx hb d_Na_order_152 rfl hl (by decide) rfl (fun ls hl => ?_)
                refine lv_iload hx hb d_Na_order_153 (lv_at hl 4 rfl) ?_
                refine lv_iload hx hb d_Na_order_155 (lv_at hl 7 rfl) ?_
                refine lv_iconst (v := 1) hx hb d_Na_order_157 (by decide) ?_
                refine lv_iadd hx hb d_Na_order_158 ?_
                refine lv_iadd hx hb d_Na_order_159 ?_
                refine zi_as (y := nI (np_pos ls1 (ls1.length - min ls0.length ls1.length + i + 1))) (np_step (by omega)) ?_
                refine lv_istore (lv' := [(4, .int (nI (np_pos ls1 (ls1.length - min ls0.length ls1.length + i + 1)))), (3, .int (nI (np_pos ls0 (ls0.length - min ls0.length ls1.length + i + 1)))), (5, .int dv), (0, .ref a0), (1, .ref a1), (6, .int (nI (min ls0.length ls1.length - i))), (7, .int (nI ((ls0.getD (ls0.length - min ls0.length ls1.length + i) []).length))), (8, .int (nI ((ls1.getD (ls1.length - min ls0.length ls1.length + i) []).length))), (9, .int zv), (10, .int (nI j))]) hx hb d_Na_order_160 hl (by decide) rfl (fun ls hl => ?_)
                refine lv_iinc (v := nI (min ls0.length ls1.length - i - 1)) (lv' := [(6, .int (nI (min ls0.length ls1.length - i - 1))), (4, .int (nI (np_pos ls1 (ls1.length - min ls0.length ls1.length + i + 1)))), (3, .int (nI (np_pos ls0 (ls0.length - min ls0.length ls1.length + i + 1)))), (5, .int dv), (0, .ref a0), (1, .ref a1), (7, .int (nI ((ls0.getD (ls0.length - min ls0.length ls1.length + i) []).length))), (8, .int (nI ((ls1.getD (ls1.length - min ls0.length ls1.length + i) []).length))), (9, .int zv), (10, .int (nI j))]) hx hb d_Na_order_162 hl (k := 5) rfl (zi_dec (by omega)) (by decide) rfl (fun ls hl => ?_)
                refine lv_goto (tgt := 39) hx hb d_Na_order_165 (by decide) ?_
                exact ih39 (i + 1) dv _ _ (by omega) (by omega) (by first | exact hdv.trans (congrArg zd hc0.symm) | exact hz0.trans (congrArg zd hc0.symm)) hG hS ls (lv_sub hl [4, 5, 2, 1, 3, 0] rfl)
              · rw [if_neg (fun q => c134 (hz0.trans ((zd_0 hbd.1 hbd.2).mpr q)))] at hc0
                refine lv_iload hx hb d_Na_order_137 (lv_at hl 8 rfl) ?_
                refine lv_goto (tgt := 144) hx hb d_Na_order_139 (by decide) ?_
                refine lv_istore (lv' := [(5, .int zv), (0, .ref a0), (1, .ref a1), (3, .int (nI (np_pos ls0 (ls0.length - min ls0.length ls1.length + i)))), (4, .int (nI (np_pos ls1 (ls1.length - min ls0.length ls1.length + i)))), (6, .int (nI (min ls0.length ls1.length - i))), (7, .int (nI ((ls0.getD (ls0.length - min ls0.length ls1.length + i) []).length))), (8, .int (nI ((ls1.getD (ls1.length - min ls0.length ls1.length + i) []).length))), (9, .int zv), (10, .int (nI j))]) hx hb d_Na_order_144 hl (by decide) rfl (fun ls hl => ?_)
                refine lv_iload_n hx hb d_Na_order_146 rfl (lv_at hl 3 rfl) ?_
                refine lv_iload hx hb d_Na_order_147 (lv_at hl 6 rfl) ?_
                refine lv_iconst (v := 1) hx hb d_Na_order_149 (by decide) ?_
                refine lv_iadd hx hb d_Na_order_150 ?_
                refine lv_iadd hx hb d_Na_order_151 ?_
                refine zi_as (y := nI (np_pos ls0 (ls0.length - min ls0.length ls1.length + i + 1))) (np_step (by omega)) ?_
                refine lv_istore_n (lv' := [(3, .int (nI (np_pos ls0 (ls0.length - min ls0.length ls1.length + i + 1)))), (5, .int zv), (0, .ref a0), (1, .ref a1), (4, .int (nI (np_pos ls1 (ls1.length - min ls0.length ls1.length + i)))), (6, .int (nI (min ls0.length ls1.length - i))), (7, .int (nI ((ls0.getD (ls0.length - min ls0.length ls1.length + i) []).length))), (8, .int (nI ((ls1.getD (ls1.length - min ls0.length ls1.length + i) []).length))), (9, .int zv), (10, .int (nI j))]) hx hb d_Na_order_152 rfl hl (by decide) rfl (fun ls hl => ?_)
                refine lv_iload hx hb d_Na_order_153 (lv_at hl 4 rfl) ?_
                refine lv_iload hx hb d_Na_order_155 (lv_at hl 7 rfl) ?_
                refine lv_iconst (v := 1) hx hb d_Na_order_157 (by decide) ?_
                refine lv_iadd hx hb d_Na_order_158 ?_
                refine lv_iadd hx hb d_Na_order_159 ?_
                refine zi_as (y := nI (np_pos ls1 (ls1.length - min ls0.length ls1.length + i + 1))) (np_step (by omega)) ?_
                refine lv_istore (lv' := [(4, .int (nI (np_pos ls1 (ls1.length - min ls0.length ls1.length + i + 1)))), (3, .int (nI (np_pos ls0 (ls0.length - min ls0.length ls1.length + i + 1)))), (5, .int zv), (0, .ref a0), (1, .ref a1), (6, .int (nI (min ls0.length ls1.length - i))), (7, .int (nI ((ls0.getD (ls0.length - min ls0.length ls1.length + i) []).length))), (8, .int (nI ((ls1.getD (ls1.length - min ls0.length ls1.length + i) []).length))), (9, .int zv), (10, .int (nI j))]) hx hb d_Na_order_160 hl (by decide) rfl (fun ls hl => ?_)
                refine lv_iinc (v := nI (min ls0.length ls1.length - i - 1)) (lv' := [(6, .int (nI (min ls0.length ls1.length - i - 1))), (4, .int (nI (np_pos ls1 (ls1.length - min ls0.length ls1.length + i + 1)))), (3, .int (nI (np_pos ls0 (ls0.length - min ls0.length ls1.length + i + 1)))), (5, .int zv), (0, .ref a0), (1, .ref a1), (7, .int (nI ((ls0.getD (ls0.length - min ls0.length ls1.length + i) []).length))), (8, .int (nI ((ls1.getD (ls1.length - min ls0.length ls1.length + i) []).length))), (9, .int zv), (10, .int (nI j))]) hx hb d_Na_order_162 hl (k := 5) rfl (zi_dec (by omega)) (by decide) rfl (fun ls hl => ?_)
                refine lv_goto (tgt := 39) hx hb d_Na_order_165 (by decide) ?_
                exact ih39 (i + 1) zv _ _ (by omega) (by omega) (by first | exact hdv.trans (congrArg zd hc0.symm) | exact hz0.trans (congrArg zd hc0.symm)) hG hS ls (lv_sub hl [4, 5, 2, 1, 3, 0] rfl)
            · have b79 : ¬ j ≤ 0 := fun q => c79 ((nI_leI (a := j) (b := 0) (by omega) (by omega)).mpr q)
              obtain ⟨c1, h11, h12⟩ := zu8 (hft0 (np_pos ls0 (ls0.length - min ls0.length ls1.length + i) + j))
              obtain ⟨c2, h21, h22⟩ := zu8 (hft1 (np_pos ls1 (ls1.length - min ls0.length ls1.length + i) + j))
              have u1 : (zu f0 (np_pos ls0 (ls0.length - min ls0.length ls1.length + i) + 1) ((ls0.getD (ls0.length - min ls0.length ls1.length + i) []).length)).getD (j - 1) 0 = c1 := zu_at (by omega) h11 (by rw [show np_pos ls0 (ls0.length - min ls0.length ls1.length + i) + 1 + (j - 1) = np_pos ls0 (ls0.length - min ls0.length ls1.length + i) + j by omega]; exact h12)
              have u2 : (zu f1 (np_pos ls1 (ls1.length - min ls0.length ls1.length + i) + 1) ((ls1.getD (ls1.length - min ls0.length ls1.length + i) []).length)).getD (j - 1) 0 = c2 := zu_at (by omega) h21 (by rw [show np_pos ls1 (ls1.length - min ls0.length ls1.length + i) + 1 + (j - 1) = np_pos ls1 (ls1.length - min ls0.length ls1.length + i) + j by omega]; exact h22)
              have hbk := nk_l_bk (A := zu f0 (np_pos ls0 (ls0.length - min ls0.length ls1.length + i) + 1) ((ls0.getD (ls0.length - min ls0.length ls1.length + i) []).length)) (B := zu f1 (np_pos ls1 (ls1.length - min ls0.length ls1.length + i) + 1) ((ls1.getD (ls1.length - min ls0.length ls1.length + i) []).length)) (j := j) (by omega) (by rw [zu_len]; omega) (by rw [zu_len]; omega) u1 u2
              refine lv_aload_n hx hb d_Na_order_82 rfl (lv_at hl 0 rfl) ?_
              refine zg_get (ci := 3) (C := "ZoneAnswers$Name") (T := T_Na) (N := 2) hx hb hts zi_Na hown hK hG ha0 rfl 0 (by decide) (hts _ w_113) (fun _ h9 => h9) rfl d_Na_order_83 ?_
              refine lv_iload_n hx hb d_Na_order_86 rfl (lv_at hl 2 rfl) ?_
              refine lv_iload hx hb d_Na_order_87 (lv_at hl 9 rfl) ?_
              refine lv_iadd hx hb d_Na_order_89 ?_
              refine zi_as (y := nI (np_pos ls0 (ls0.length - min ls0.length ls1.length + i) + j)) (nI_add (np_pos ls0 (ls0.length - min ls0.length ls1.length + i)) j) ?_
              refine zg_bald hx hb hK hG 0 hb0 rfl (vp_in_nI (by omega) (by omega)) d_Na_order_90 ?_
              refine zi_as (y := f0 (np_pos ls0 (ls0.length - min ls0.length ls1.length + i) + j)) (by rw [zi_n _ (by omega)]) ?_
              refine lv_sipush (v := 255) hx hb d_Na_order_91 (by decide) ?_
              refine lv_iand hx hb d_Na_order_94 ?_
              refine zi_as (y := nI c1) (by rw [h12]; exact (sb_byte c1 h11).1) ?_
              refine lv_aload_n hx hb d_Na_order_95 rfl (lv_at hl 1 rfl) ?_
              refine zg_get (ci := 3) (C := "ZoneAnswers$Name") (T := T_Na) (N := 2) hx hb hts zi_Na hown hK hG ha1 rfl 0 (by decide) (hts _ w_113) (fun _ h9 => h9) rfl d_Na_order_96 ?_
              refine lv_iload hx hb d_Na_order_99 (lv_at hl 3 rfl) ?_
              refine lv_iload hx hb d_Na_order_101 (lv_at hl 9 rfl) ?_
              refine lv_iadd hx hb d_Na_order_103 ?_
              refine zi_as (y := nI (np_pos ls1 (ls1.length - min ls0.length ls1.length + i) + j)) (nI_add (np_pos ls1 (ls1.length - min ls0.length ls1.length + i)) j) ?_
              refine zg_bald hx hb hK hG 0 hb1 rfl (vp_in_nI (by omega) (by omega)) d_Na_order_104 ?_
              refine zi_as (y := f1 (np_pos ls1 (ls1.length - min ls0.length ls1.length + i) + j)) (by rw [zi_n _ (by omega)]) ?_
              refine lv_sipush (v := 255) hx hb d_Na_order_105 (by decide) ?_
              refine lv_iand hx hb d_Na_order_108 ?_
              refine zi_as (y := nI c2) (by rw [h22]; exact (sb_byte c2 h21).1) ?_
              refine lv_isub hx hb d_Na_order_109 ?_
              refine zi_as (y := zd ((c1 : Int) - c2)) (zd_sub _ _) ?_
              refine lv_istore (lv' := [(11, .int (zd ((c1 : Int) - c2))), (0, .ref a0), (1, .ref a1), (3, .int (nI (np_pos ls0 (ls0.length - min ls0.length ls1.length + i)))), (4, .int (nI (np_pos ls1 (ls1.length - min ls0.length ls1.length + i)))), (5, .int dv), (6, .int (nI (min ls0.length ls1.length - i))), (7, .int (nI ((ls0.getD (ls0.length - min ls0.length ls1.length + i) []).length))), (8, .int (nI ((ls1.getD (ls1.length - min ls0.length ls1.length + i) []).length))), (9, .int zv), (10, .int (nI j))]) hx hb d_Na_order_110 hl (by decide) rfl (fun ls hl => ?_)
              refine lv_iload hx hb d_Na_order_112 (lv_at hl 0 rfl) ?_
              refine lv_if_eq (tgt := 122) hx hb d_Na_order_114 (by decide) (fun c114 => ?_) (fun c114 => ?_)
              · have hcc : c1 = c2 := by have := (zd_0 (by omega) (by omega)).mp c114; omega
                rw [if_pos hcc] at hbk
                refine lv_iload hx hb d_Na_order_122 (lv_at hl 9 rfl) ?_
                refine lv_istore (lv' := [(9, .int zv), (11, .int (zd ((c1 : Int) - c2))), (0, .ref a0), (1, .ref a1), (3, .int (nI (np_pos ls0 (ls0.length - min ls0.length ls1.length + i)))), (4, .int (nI (np_pos ls1 (ls1.length - min ls0.length ls1.length + i)))), (5, .int dv), (6, .int (nI (min ls0.length ls1.length - i))), (7, .int (nI ((ls0.getD (ls0.length - min ls0.length ls1.length + i) []).length))), (8, .int (nI ((ls1.getD (ls1.length - min ls0.length ls1.length + i) []).length))), (10, .int (nI j))]) hx hb d_Na_order_124 hl (by decide) rfl (fun ls hl => ?_)
                refine lv_iinc (v := nI (j - 1)) (lv' := [(10, .int (nI (j - 1))), (9, .int zv), (11, .int (zd ((c1 : Int) - c2))), (0, .ref a0), (1, .ref a1), (3, .int (nI (np_pos ls0 (ls0.length - min ls0.length ls1.length + i)))), (4, .int (nI (np_pos ls1 (ls1.length - min ls0.length ls1.length + i)))), (5, .int dv), (6, .int (nI (min ls0.length ls1.length - i))), (7, .int (nI ((ls0.getD (ls0.length - min ls0.length ls1.length + i) []).length))), (8, .int (nI ((ls1.getD (ls1.length - min ls0.length ls1.length + i) []).length)))]) hx hb d_Na_order_126 hl (k := 10) rfl (zi_dec (by omega)) (by decide) rfl (fun ls hl => ?_)
                refine lv_goto (tgt := 77) hx hb d_Na_order_129 (by decide) ?_
                exact ih (j - 1) zv (by omega) (by omega) (by first | exact hz.trans (congrArg zd hbk.symm) | exact congrArg zd hbk.symm) ls (lv_sub hl [3, 4, 5, 6, 7, 8, 9, 10, 1, 0] rfl)
              · have hcc : ¬ c1 = c2 := fun q => c114 ((zd_0 (by omega) (by omega)).mpr (by omega))
                rw [if_neg hcc] at hbk
                refine lv_iload hx hb d_Na_order_117 (lv_at hl 0 rfl) ?_
                refine lv_goto (tgt := 124) hx hb d_Na_order_119 (by decide) ?_
                refine lv_istore (lv' := [(9, .int (zd ((c1 : Int) - c2))), (11, .int (zd ((c1 : Int) - c2))), (0, .ref a0), (1, .ref a1), (3, .int (nI (np_pos ls0 (ls0.length - min ls0.length ls1.length + i)))), (4, .int (nI (np_pos ls1 (ls1.length - min ls0.length ls1.length + i)))), (5, .int dv), (6, .int (nI (min ls0.length ls1.length - i))), (7, .int (nI ((ls0.getD (ls0.length - min ls0.length ls1.length + i) []).length))), (8, .int (nI ((ls1.getD (ls1.length - min ls0.length ls1.length + i) []).length))), (10, .int (nI j))]) hx hb d_Na_order_124 hl (by decide) rfl (fun ls hl => ?_)
                refine lv_iinc (v := nI (j - 1)) (lv' := [(10, .int (nI (j - 1))), (9, .int (zd ((c1 : Int) - c2))), (11, .int (zd ((c1 : Int) - c2))), (0, .ref a0), (1, .ref a1), (3, .int (nI (np_pos ls0 (ls0.length - min ls0.length ls1.length + i)))), (4, .int (nI (np_pos ls1 (ls1.length - min ls0.length ls1.length + i)))), (5, .int dv), (6, .int (nI (min ls0.length ls1.length - i))), (7, .int (nI ((ls0.getD (ls0.length - min ls0.length ls1.length + i) []).length))), (8, .int (nI ((ls1.getD (ls1.length - min ls0.length ls1.length + i) []).length)))]) hx hb d_Na_order_126 hl (k := 10) rfl (zi_dec (by omega)) (by decide) rfl (fun ls hl => ?_)
                refine lv_goto (tgt := 77) hx hb d_Na_order_129 (by decide) ?_
                exact ih (j - 1) (zd ((c1 : Int) - c2)) (by omega) (by omega) (by first | exact hz.trans (congrArg zd hbk.symm) | exact congrArg zd hbk.symm) ls (lv_sub hl [3, 4, 5, 6, 7, 8, 9, 10, 1, 0] rfl)
        exact loop77 _ (min ((ls0.getD (ls0.length - min ls0.length ls1.length + i) []).length) ((ls1.getD (ls1.length - min ls0.length ls1.length + i) []).length)) (zd ((((ls0.getD (ls0.length - min ls0.length ls1.length + i) []).length) : Int) - ((ls1.getD (ls1.length - min ls0.length ls1.length + i) []).length))) (Nat.lt_succ_self _) (Nat.le_refl _) (by have z9 := nk_l_md (A := zu f0 (np_pos ls0 (ls0.length - min ls0.length ls1.length + i) + 1) ((ls0.getD (ls0.length - min ls0.length ls1.length + i) []).length)) (B := zu f1 (np_pos ls1 (ls1.length - min ls0.length ls1.length + i) + 1) ((ls1.getD (ls1.length - min ls0.length ls1.length + i) []).length)); rw [zu_len, zu_len] at z9; rw [z9]) ls (lv_sub hl [4, 5, 6, 7, 8, 9, 3, 2, 1, 0] rfl)
  exact loop39 _ 0 (zd ((ls0.length : Int) - ls1.length)) _ _ (Nat.lt_succ_self _) (Nat.zero_le _) (congrArg zd (nk_d_ini rfl).symm) hG hS ls (lv_sub hl [5, 6, 3, 2, 1, 0] rfl)
