/-- how many labels, up to the i-th, both have in one run -/
def zrun (A B : np_N) (x y : Nat) : Nat → Nat
  | 0 => 0
  | i + 1 => if A.getD (x + i) [] = B.getD (y + i) [] then zrun A B x y i + 1 else 0
theorem np_lb {ls : np_N} {f : Nat → Int32} (hf : np_f ls f) {i t : Nat} (h : i < ls.length) (ht : t < (ls.getD i []).length) : f (np_pos ls i + 1 + t) = (ls.getD i []).getD t 0 := by
  have h1 := hf.drop (Nat.le_of_lt h)
  have e : ls.getD i [] = ls[i] := by rw [List.getD_eq_getElem?_getD, List.getElem?_eq_getElem h]; rfl
  rw [List.drop_eq_getElem_cons h] at h1
  obtain ⟨-, h2, -⟩ := np_f_cons.mp h1
  rw [e] at ht ⊢
  rw [← h2 t ht]
  congr 1
  omega
theorem zgd {l : List Int32} {t : Nat} (h : t < l.length) : l.getD t 0 = l[t] := by
  rw [List.getD_eq_getElem?_getD, List.getElem?_eq_getElem h]
  rfl
theorem zlab_eq {A B : np_N} {f g : Nat → Int32} (hf : np_f A f) (hg : np_f B g) {p q : Nat} (hp : p < A.length) (hq : q < B.length) : A.getD p [] = B.getD q [] ↔ ((A.getD p []).length = (B.getD q []).length ∧ ∀ t, t < (A.getD p []).length → f (np_pos A p + 1 + t) = g (np_pos B q + 1 + t)) := by
  constructor
  · intro h
    refine ⟨by rw [h], fun t ht => ?_⟩
    rw [np_lb hf hp ht, np_lb hg hq (by rw [← h]; exact ht), h]
  · rintro ⟨h1, h2⟩
    refine List.ext_getElem h1 fun t t1 t2 => ?_
    have := h2 t t1
    rw [np_lb hf hp t1, np_lb hg hq t2, zgd t1, zgd t2] at this
    exact this
theorem zsh_t {f g : Nat → Int32} {A B j : Nat} (h1 : 1 ≤ j) (h : ∀ t, t + 1 < j → f (A + 1 + t) = g (B + 1 + t)) (c : f (A + j) = g (B + j)) : ∀ t, t + 1 < j + 1 → f (A + 1 + t) = g (B + 1 + t) := by
  intro t ht
  rcases Nat.lt_or_ge (t + 1) j with q | q
  · exact h t q
  · rw [show A + 1 + t = A + j by omega, show B + 1 + t = B + j by omega]; exact c
theorem zsh_f {f g : Nat → Int32} {A B j : Nat} (h1 : 1 ≤ j) (c : ¬ f (A + j) = g (B + j)) : ¬ ∀ t, t + 1 < j + 1 → f (A + 1 + t) = g (B + 1 + t) := by
  intro h
  have := h (j - 1) (by omega)
  rw [show A + 1 + (j - 1) = A + j by omega, show B + 1 + (j - 1) = B + j by omega] at this
  exact c this
theorem zrun_no {A B : np_N} {f g : Nat → Int32} {x y i j : Nat} (hf : np_f A f) (hg : np_f B g) (hp : x + i < A.length) (hq : y + i < B.length) (hj : j ≤ (A.getD (x + i) []).length + 1) (h : ¬ ((A.getD (x + i) []).length = (B.getD (y + i) []).length ∧ ∀ t, t + 1 < j → f (np_pos A (x + i) + 1 + t) = g (np_pos B (y + i) + 1 + t))) : zrun A B x y (i + 1) = 0 := by
  unfold zrun
  rw [if_neg]
  intro e
  obtain ⟨h1, h2⟩ := (zlab_eq hf hg hp hq).mp e
  exact h ⟨h1, fun t ht => h2 t (by omega)⟩
theorem zrun_ye {A B : np_N} {f g : Nat → Int32} {x y i j : Nat} (hf : np_f A f) (hg : np_f B g) (hp : x + i < A.length) (hq : y + i < B.length) (hj : (A.getD (x + i) []).length < j) (h : (A.getD (x + i) []).length = (B.getD (y + i) []).length ∧ ∀ t, t + 1 < j → f (np_pos A (x + i) + 1 + t) = g (np_pos B (y + i) + 1 + t)) : zrun A B x y (i + 1) = zrun A B x y i + 1 := by
  have e : A.getD (x + i) [] = B.getD (y + i) [] := (zlab_eq hf hg hp hq).mpr ⟨h.1, fun t ht => h.2 t (by omega)⟩
  show (if A.getD (x + i) [] = B.getD (y + i) [] then zrun A B x y i + 1 else 0) = _
  rw [if_pos e]
theorem zrun_le (A B : np_N) (x y : Nat) : ∀ i, zrun A B x y i ≤ i := by
  intro i
  induction i with
  | zero => exact Nat.le_refl _
  | succ i ih =>
    unfold zrun
    split <;> omega
theorem w_1096 : (.methodLink "ZoneAnswers$Zone" 166 ⟨"java/lang/Math", "min", "(II)I"⟩ : Cond) ∈ zw := zw_at 1096 (by decide +kernel) (by decide +kernel)
abbrev c_Na_shared : ByteArray := prog_4_method_6_code
abbrev y_Na_shared : MethodName := ⟨"ZoneAnswers$Name", "shared", "(LZoneAnswers$Name;)I"⟩
theorem d_Na_shared_0 : decode c_Na_shared 0 = .ok (.aload_n 0, 1) := by decide +kernel
theorem d_Na_shared_1 : decode c_Na_shared 1 = .ok (.getfield 15, 3) := by decide +kernel
theorem d_Na_shared_4 : decode c_Na_shared 4 = .ok (.aload_n 1, 1) := by decide +kernel
theorem d_Na_shared_5 : decode c_Na_shared 5 = .ok (.getfield 15, 3) := by decide +kernel
theorem d_Na_shared_8 : decode c_Na_shared 8 = .ok (.invokestatic 23, 3) := by decide +kernel
theorem d_Na_shared_11 : decode c_Na_shared 11 = .ok (.istore_n 2, 1) := by decide +kernel
theorem d_Na_shared_12 : decode c_Na_shared 12 = .ok (.aload_n 0, 1) := by decide +kernel
theorem d_Na_shared_13 : decode c_Na_shared 13 = .ok (.iload_n 2, 1) := by decide +kernel
theorem d_Na_shared_14 : decode c_Na_shared 14 = .ok (.invokevirtual 19, 3) := by decide +kernel
theorem d_Na_shared_17 : decode c_Na_shared 17 = .ok (.istore_n 3, 1) := by decide +kernel
theorem d_Na_shared_18 : decode c_Na_shared 18 = .ok (.aload_n 1, 1) := by decide +kernel
theorem d_Na_shared_19 : decode c_Na_shared 19 = .ok (.iload_n 2, 1) := by decide +kernel
theorem d_Na_shared_20 : decode c_Na_shared 20 = .ok (.invokevirtual 19, 3) := by decide +kernel
theorem d_Na_shared_23 : decode c_Na_shared 23 = .ok (.istore 4, 2) := by decide +kernel
theorem d_Na_shared_25 : decode c_Na_shared 25 = .ok (.iconst 0, 1) := by decide +kernel
theorem d_Na_shared_26 : decode c_Na_shared 26 = .ok (.istore 5, 2) := by decide +kernel
theorem d_Na_shared_28 : decode c_Na_shared 28 = .ok (.iload_n 2, 1) := by decide +kernel
theorem d_Na_shared_29 : decode c_Na_shared 29 = .ok (.istore 6, 2) := by decide +kernel
theorem d_Na_shared_31 : decode c_Na_shared 31 = .ok (.iload 6, 2) := by decide +kernel
theorem d_Na_shared_33 : decode c_Na_shared 33 = .ok (.ifCond .le 122, 3) := by decide +kernel
theorem d_Na_shared_36 : decode c_Na_shared 36 = .ok (.aload_n 0, 1) := by decide +kernel
theorem d_Na_shared_37 : decode c_Na_shared 37 = .ok (.getfield 9, 3) := by decide +kernel
theorem d_Na_shared_40 : decode c_Na_shared 40 = .ok (.iload_n 3, 1) := by decide +kernel
theorem d_Na_shared_41 : decode c_Na_shared 41 = .ok (.baload, 1) := by decide +kernel
theorem d_Na_shared_42 : decode c_Na_shared 42 = .ok (.istore 7, 2) := by decide +kernel
theorem d_Na_shared_44 : decode c_Na_shared 44 = .ok (.iload 7, 2) := by decide +kernel
theorem d_Na_shared_46 : decode c_Na_shared 46 = .ok (.aload_n 1, 1) := by decide +kernel
theorem d_Na_shared_47 : decode c_Na_shared 47 = .ok (.getfield 9, 3) := by decide +kernel
theorem d_Na_shared_50 : decode c_Na_shared 50 = .ok (.iload 4, 2) := by decide +kernel
theorem d_Na_shared_52 : decode c_Na_shared 52 = .ok (.baload, 1) := by decide +kernel
theorem d_Na_shared_53 : decode c_Na_shared 53 = .ok (.if_icmp .ne 7, 3) := by decide +kernel
theorem d_Na_shared_56 : decode c_Na_shared 56 = .ok (.iconst 1, 1) := by decide +kernel
theorem d_Na_shared_57 : decode c_Na_shared 57 = .ok (.goto 4, 3) := by decide +kernel
theorem d_Na_shared_60 : decode c_Na_shared 60 = .ok (.iconst 0, 1) := by decide +kernel
theorem d_Na_shared_61 : decode c_Na_shared 61 = .ok (.istore 8, 2) := by decide +kernel
theorem d_Na_shared_63 : decode c_Na_shared 63 = .ok (.iconst 1, 1) := by decide +kernel
theorem d_Na_shared_64 : decode c_Na_shared 64 = .ok (.istore 9, 2) := by decide +kernel
theorem d_Na_shared_66 : decode c_Na_shared 66 = .ok (.iload 8, 2) := by decide +kernel
theorem d_Na_shared_68 : decode c_Na_shared 68 = .ok (.ifCond .eq 45, 3) := by decide +kernel
theorem d_Na_shared_71 : decode c_Na_shared 71 = .ok (.iload 9, 2) := by decide +kernel
theorem d_Na_shared_73 : decode c_Na_shared 73 = .ok (.iload 7, 2) := by decide +kernel
theorem d_Na_shared_75 : decode c_Na_shared 75 = .ok (.if_icmp .gt 38, 3) := by decide +kernel
theorem d_Na_shared_78 : decode c_Na_shared 78 = .ok (.aload_n 0, 1) := by decide +kernel
theorem d_Na_shared_79 : decode c_Na_shared 79 = .ok (.getfield 9, 3) := by decide +kernel
theorem d_Na_shared_82 : decode c_Na_shared 82 = .ok (.iload_n 3, 1) := by decide +kernel
theorem d_Na_shared_83 : decode c_Na_shared 83 = .ok (.iload 9, 2) := by decide +kernel
theorem d_Na_shared_85 : decode c_Na_shared 85 = .ok (.iadd, 1) := by decide +kernel
theorem d_Na_shared_86 : decode c_Na_shared 86 = .ok (.baload, 1) := by decide +kernel
theorem d_Na_shared_87 : decode c_Na_shared 87 = .ok (.aload_n 1, 1) := by decide +kernel
theorem d_Na_shared_88 : decode c_Na_shared 88 = .ok (.getfield 9, 3) := by decide +kernel
theorem d_Na_shared_91 : decode c_Na_shared 91 = .ok (.iload 4, 2) := by decide +kernel
theorem d_Na_shared_93 : decode c_Na_shared 93 = .ok (.iload 9, 2) := by decide +kernel
theorem d_Na_shared_95 : decode c_Na_shared 95 = .ok (.iadd, 1) := by decide +kernel
theorem d_Na_shared_96 : decode c_Na_shared 96 = .ok (.baload, 1) := by decide +kernel
theorem d_Na_shared_97 : decode c_Na_shared 97 = .ok (.if_icmp .ne 7, 3) := by decide +kernel
theorem d_Na_shared_100 : decode c_Na_shared 100 = .ok (.iconst 1, 1) := by decide +kernel
theorem d_Na_shared_101 : decode c_Na_shared 101 = .ok (.goto 4, 3) := by decide +kernel
theorem d_Na_shared_104 : decode c_Na_shared 104 = .ok (.iconst 0, 1) := by decide +kernel
theorem d_Na_shared_105 : decode c_Na_shared 105 = .ok (.istore 8, 2) := by decide +kernel
theorem d_Na_shared_107 : decode c_Na_shared 107 = .ok (.iinc 9 1, 3) := by decide +kernel
theorem d_Na_shared_110 : decode c_Na_shared 110 = .ok (.goto (-44), 3) := by decide +kernel
theorem d_Na_shared_113 : decode c_Na_shared 113 = .ok (.iload 8, 2) := by decide +kernel
theorem d_Na_shared_115 : decode c_Na_shared 115 = .ok (.ifCond .eq 10, 3) := by decide +kernel
theorem d_Na_shared_118 : decode c_Na_shared 118 = .ok (.iload 5, 2) := by decide +kernel
theorem d_Na_shared_120 : decode c_Na_shared 120 = .ok (.iconst 1, 1) := by decide +kernel
theorem d_Na_shared_121 : decode c_Na_shared 121 = .ok (.iadd, 1) := by decide +kernel
theorem d_Na_shared_122 : decode c_Na_shared 122 = .ok (.goto 4, 3) := by decide +kernel
theorem d_Na_shared_125 : decode c_Na_shared 125 = .ok (.iconst 0, 1) := by decide +kernel
theorem d_Na_shared_126 : decode c_Na_shared 126 = .ok (.istore 5, 2) := by decide +kernel
theorem d_Na_shared_128 : decode c_Na_shared 128 = .ok (.iload_n 3, 1) := by decide +kernel
theorem d_Na_shared_129 : decode c_Na_shared 129 = .ok (.iload 7, 2) := by decide +kernel
theorem d_Na_shared_131 : decode c_Na_shared 131 = .ok (.iconst 1, 1) := by decide +kernel
theorem d_Na_shared_132 : decode c_Na_shared 132 = .ok (.iadd, 1) := by decide +kernel
theorem d_Na_shared_133 : decode c_Na_shared 133 = .ok (.iadd, 1) := by decide +kernel
theorem d_Na_shared_134 : decode c_Na_shared 134 = .ok (.istore_n 3, 1) := by decide +kernel
theorem d_Na_shared_135 : decode c_Na_shared 135 = .ok (.iload 4, 2) := by decide +kernel
theorem d_Na_shared_137 : decode c_Na_shared 137 = .ok (.aload_n 1, 1) := by decide +kernel
theorem d_Na_shared_138 : decode c_Na_shared 138 = .ok (.getfield 9, 3) := by decide +kernel
theorem d_Na_shared_141 : decode c_Na_shared 141 = .ok (.iload 4, 2) := by decide +kernel
theorem d_Na_shared_143 : decode c_Na_shared 143 = .ok (.baload, 1) := by decide +kernel
theorem d_Na_shared_144 : decode c_Na_shared 144 = .ok (.iconst 1, 1) := by decide +kernel
theorem d_Na_shared_145 : decode c_Na_shared 145 = .ok (.iadd, 1) := by decide +kernel
theorem d_Na_shared_146 : decode c_Na_shared 146 = .ok (.iadd, 1) := by decide +kernel
theorem d_Na_shared_147 : decode c_Na_shared 147 = .ok (.istore 4, 2) := by decide +kernel
theorem d_Na_shared_149 : decode c_Na_shared 149 = .ok (.iinc 6 (-1), 3) := by decide +kernel
theorem d_Na_shared_152 : decode c_Na_shared 152 = .ok (.goto (-121), 3) := by decide +kernel
theorem d_Na_shared_155 : decode c_Na_shared 155 = .ok (.iload 5, 2) := by decide +kernel
theorem d_Na_shared_157 : decode c_Na_shared 157 = .ok (.ireturn, 1) := by decide +kernel
abbrev c_Zo_linkTime : ByteArray := prog_10_method_22_code
abbrev y_Zo_linkTime : MethodName := ⟨"ZoneAnswers$Zone", "linkTime", "()I"⟩
theorem d_Zo_linkTime_0 : decode c_Zo_linkTime 0 = .ok (.aload_n 0, 1) := by decide +kernel
theorem d_Zo_linkTime_1 : decode c_Zo_linkTime 1 = .ok (.getfield 29, 3) := by decide +kernel
theorem d_Zo_linkTime_4 : decode c_Zo_linkTime 4 = .ok (.aload_n 0, 1) := by decide +kernel
theorem d_Zo_linkTime_5 : decode c_Zo_linkTime 5 = .ok (.getfield 29, 3) := by decide +kernel
theorem d_Zo_linkTime_8 : decode c_Zo_linkTime 8 = .ok (.arraylength, 1) := by decide +kernel
theorem d_Zo_linkTime_9 : decode c_Zo_linkTime 9 = .ok (.iconst 4, 1) := by decide +kernel
theorem d_Zo_linkTime_10 : decode c_Zo_linkTime 10 = .ok (.isub, 1) := by decide +kernel
theorem d_Zo_linkTime_11 : decode c_Zo_linkTime 11 = .ok (.invokestatic 55, 3) := by decide +kernel
theorem d_Zo_linkTime_14 : decode c_Zo_linkTime 14 = .ok (.istore_n 1, 1) := by decide +kernel
theorem d_Zo_linkTime_15 : decode c_Zo_linkTime 15 = .ok (.iload_n 1, 1) := by decide +kernel
theorem d_Zo_linkTime_16 : decode c_Zo_linkTime 16 = .ok (.ifCond .ge 13, 3) := by decide +kernel
theorem d_Zo_linkTime_19 : decode c_Zo_linkTime 19 = .ok (.aload_n 0, 1) := by decide +kernel
theorem d_Zo_linkTime_20 : decode c_Zo_linkTime 20 = .ok (.getfield 42, 3) := by decide +kernel
theorem d_Zo_linkTime_23 : decode c_Zo_linkTime 23 = .ok (.getfield 46, 3) := by decide +kernel
theorem d_Zo_linkTime_26 : decode c_Zo_linkTime 26 = .ok (.goto 14, 3) := by decide +kernel
theorem d_Zo_linkTime_29 : decode c_Zo_linkTime 29 = .ok (.aload_n 0, 1) := by decide +kernel
theorem d_Zo_linkTime_30 : decode c_Zo_linkTime 30 = .ok (.getfield 42, 3) := by decide +kernel
theorem d_Zo_linkTime_33 : decode c_Zo_linkTime 33 = .ok (.getfield 46, 3) := by decide +kernel
theorem d_Zo_linkTime_36 : decode c_Zo_linkTime 36 = .ok (.iload_n 1, 1) := by decide +kernel
theorem d_Zo_linkTime_37 : decode c_Zo_linkTime 37 = .ok (.invokestatic 166, 3) := by decide +kernel
theorem d_Zo_linkTime_40 : decode c_Zo_linkTime 40 = .ok (.ireturn, 1) := by decide +kernel
abbrev rm_Na_shared : Room := { frames := 1, cells := 0, slots := 0, locals := 40 }
set_option maxHeartbeats 4000000 in
set_option maxRecDepth 100000 in
/-- Name.shared(other) -/
theorem t_Na_shared (l : Launch) (E : zc_E) (G : zg_G) (a0 b0 : Nat) (ls0 : np_N) (f0 : Nat → Int32) (ha0 : G a0 = some (.inr (3, [.ref b0, .int (nI ls0.length)]))) (hb0 : G b0 = some (.inl (E.2.1 0, np_len ls0, .inl f0))) (hf0 : np_f ls0 f0) (hg0 : np_g ls0) (a1 b1 : Nat) (ls1 : np_N) (f1 : Nat → Int32) (ha1 : G a1 = some (.inr (3, [.ref b1, .int (nI ls1.length)]))) (hb1 : G b1 = some (.inl (E.2.1 0, np_len ls1, .inl f1))) (hf1 : np_f ls1 f1) (hg1 : np_g ls1) : zMi l E y_Na_shared c_Na_shared 10 (some .int) rm_Na_shared [.ref a0, .ref a1] G (fun (r : Int32) (G2 : zg_G) => r = nI (zrun ls0 ls1 (ls0.length - min ls0.length ls1.length) (ls1.length - min ls0.length ls1.length) (min ls0.length ls1.length)) ∧ G2 = G) := by
  refine zMi.of (by decide) (Nat.le_of_ble_eq_true rfl) ?_
  intro p e s m args below meth c Q hZ hG hret ls hl
  obtain ⟨hx, hb, hr, hts, hown, hlocks, hml, hnm, hbase, hK, hN, hQ⟩ := hZ
  have hl : lv_has ls 10 [(0, .ref a0), (1, .ref a1)] := hl
  have hS : zg_S (zc_b E) s.heap s.heap [] := va_S.rf
  have zl0 := hg0.2
  have zc0 := hg0.count
  have zl1 := hg1.2
  have zc1 := hg1.count
  refine lv_aload_n hx hb d_Na_shared_0 rfl (lv_at hl 0 rfl) ?_
  refine zg_get (ci := 3) (C := "ZoneAnswers$Name") (T := T_Na) (N := 2) hx hb hts zi_Na hown hK hG ha0 rfl 1 (by decide) (hts _ w_116) (fun _ h9 => h9) rfl d_Na_shared_1 ?_
  refine lv_aload_n hx hb d_Na_shared_4 rfl (lv_at hl 1 rfl) ?_
  refine zg_get (ci := 3) (C := "ZoneAnswers$Name") (T := T_Na) (N := 2) hx hb hts zi_Na hown hK hG ha1 rfl 1 (by decide) (hts _ w_116) (fun _ h9 => h9) rfl d_Na_shared_5 ?_
  refine va_mmin hx hb (hml.trans hl.1.symm) hown (hts _ w_182) (hts _ w_183) (hts _ w_11) (hts _ w_184) (Nat.le_of_ble_eq_true rfl) (Nat.le_of_ble_eq_true rfl) (by decide) (by decide) d_Na_shared_8 ?_
  refine zi_as (y := nI (min ls0.length ls1.length)) (zi_min (by omega) (by omega)) ?_
  refine lv_istore_n (lv' := [(2, .int (nI (min ls0.length ls1.length))), (0, .ref a0), (1, .ref a1)]) hx hb d_Na_shared_11 rfl hl (by decide) rfl (fun ls hl => ?_)
  refine lv_aload_n hx hb d_Na_shared_12 rfl (lv_at hl 1 rfl) ?_
  refine lv_iload_n hx hb d_Na_shared_13 rfl (lv_at hl 0 rfl) ?_
  refine zk_i (va_runV (As := [.int (nI (min ls0.length ls1.length))]) (rest := []) ⟨hx, hb, hml, hown, hts⟩ (t_Na_tail l E G a0 b0 ls0 f0 ha0 hb0 hf0 hg0 (min ls0.length ls1.length) (by omega)) (zcV 1 hts w_185 w_187 wp_1 w_7 w_188 (by decide +kernel) ⟨Nat.le_of_ble_eq_true rfl, Nat.le_of_ble_eq_true rfl⟩) (zc_preV hbase hK hN hQ hG hS ha0 rfl) rfl rfl hl.1 rfl (lv_room (Nat.le_of_ble_eq_true rfl)) d_Na_shared_14 ⟨(by decide), (by decide)⟩) hS (fun r14 G14 H locs hp14 hG hS => ?_)
  have hG : zP E G H := hp14.2 ▸ hG
  refine zi_as (y := nI (np_pos ls0 (ls0.length - min ls0.length ls1.length))) hp14.1 ?_
  refine lv_istore_n (lv' := [(3, .int (nI (np_pos ls0 (ls0.length - min ls0.length ls1.length)))), (2, .int (nI (min ls0.length ls1.length))), (0, .ref a0), (1, .ref a1)]) hx hb d_Na_shared_17 rfl hl (by decide) rfl (fun ls hl => ?_)
  refine lv_aload_n hx hb d_Na_shared_18 rfl (lv_at hl 3 rfl) ?_
  refine lv_iload_n hx hb d_Na_shared_19 rfl (lv_at hl 1 rfl) ?_
  refine zk_i (va_runV (As := [.int (nI (min ls0.length ls1.length))]) (rest := []) ⟨hx, hb, hml, hown, hts⟩ (t_Na_tail l E G a1 b1 ls1 f1 ha1 hb1 hf1 hg1 (min ls0.length ls1.length) (by omega)) (zcV 1 hts w_185 w_187 wp_1 w_7 w_188 (by decide +kernel) ⟨Nat.le_of_ble_eq_true rfl, Nat.le_of_ble_eq_true rfl⟩) (zc_preV hbase hK hN hQ hG hS ha1 rfl) rfl rfl hl.1 rfl (lv_room (Nat.le_of_ble_eq_true rfl)) d_Na_shared_20 ⟨(by decide), (by decide)⟩) hS (fun r20 G20 H locs hp20 hG hS => ?_)
  have hG : zP E G H := hp20.2 ▸ hG
  refine zi_as (y := nI (np_pos ls1 (ls1.length - min ls0.length ls1.length))) hp20.1 ?_
  refine lv_istore (lv' := [(4, .int (nI (np_pos ls1 (ls1.length - min ls0.length ls1.length)))), (3, .int (nI (np_pos ls0 (ls0.length - min ls0.length ls1.length)))), (2, .int (nI (min ls0.length ls1.length))), (0, .ref a0), (1, .ref a1)]) hx hb d_Na_shared_23 hl (by decide) rfl (fun ls hl => ?_)
  refine lv_iconst (v := 0) hx hb d_Na_shared_25 (by decide) ?_
  refine zi_as (y := nI 0) (nI_0.symm) ?_
  refine lv_istore (lv' := [(5, .int (nI 0)), (4, .int (nI (np_pos ls1 (ls1.length - min ls0.length ls1.length)))), (3, .int (nI (np_pos ls0 (ls0.length - min ls0.length ls1.length)))), (2, .int (nI (min ls0.length ls1.length))), (0, .ref a0), (1, .ref a1)]) hx hb d_Na_shared_26 hl (by decide) rfl (fun ls hl => ?_)
  refine lv_iload_n hx hb d_Na_shared_28 rfl (lv_at hl 3 rfl) ?_
  refine lv_istore (lv' := [(6, .int (nI (min ls0.length ls1.length))), (5, .int (nI 0)), (4, .int (nI (np_pos ls1 (ls1.length - min ls0.length ls1.length)))), (3, .int (nI (np_pos ls0 (ls0.length - min ls0.length ls1.length)))), (2, .int (nI (min ls0.length ls1.length))), (0, .ref a0), (1, .ref a1)]) hx hb d_Na_shared_29 hl (by decide) rfl (fun ls hl => ?_)
  have loop31 : ∀ (N : Nat) (i : Nat) (rn : Nat) (H : Heap) (locs : List Loc), (min ls0.length ls1.length - i) < N → (i ≤ min ls0.length ls1.length) → (rn = zrun ls0 ls1 (ls0.length - min ls0.length ls1.length) (ls1.length - min ls0.length ls1.length) i) → zP E G H → zg_S (zc_b E) s.heap H locs → ∀ (ls : Array Slot), lv_has ls 10 [(0, .ref a0), (1, .ref a1), (3, .int (nI (np_pos ls0 ((ls0.length - min ls0.length ls1.length) + i)))), (4, .int (nI (np_pos ls1 ((ls1.length - min ls0.length ls1.length) + i)))), (5, .int (nI rn)), (6, .int (nI (min ls0.length ls1.length - i)))] → W p l e rm_Na_shared s m args below meth c H locs 0 0 Q (F0 m 31 ls []) := by
    intro N
    induction N with
    | zero =>
      intro i rn H locs hlt
      exact absurd hlt (Nat.not_lt_zero _)
    | succ N ih =>
      intro i rn H locs hlt hi hrn hG hS ls hl
      have ih31 := ih
      refine lv_iload hx hb d_Na_shared_31 (lv_at hl 5 rfl) ?_
      refine lv_if_le (tgt := 155) hx hb d_Na_shared_33 (by decide) (fun c33 => ?_) (fun c33 => ?_)
      · have b33 : (min ls0.length ls1.length - i) ≤ 0 := (nI_leI (a := (min ls0.length ls1.length - i)) (b := 0) (by omega) (by omega)).mp c33
        refine lv_iload hx hb d_Na_shared_155 (lv_at hl 4 rfl) ?_
        exact hret _ _ _ _ _ _ _ _ _ hr (rfl) (⟨by rw [hrn, show i = min ls0.length ls1.length by omega], rfl⟩) hG hS (Nat.le_refl _) (Nat.le_refl _) d_Na_shared_157
      · have b33 : ¬ (min ls0.length ls1.length - i) ≤ 0 := fun q => c33 ((nI_leI (a := (min ls0.length ls1.length - i)) (b := 0) (by omega) (by omega)).mpr q)
        have w0 := np_pos_succ ls0 ((ls0.length - min ls0.length ls1.length) + i) (by omega)
        have w1 := np_pos_succ ls1 ((ls1.length - min ls0.length ls1.length) + i) (by omega)
        have v0 := np_pos_le ls0 ((ls0.length - min ls0.length ls1.length) + i + 1) (by omega)
        have v1 := np_pos_le ls1 ((ls1.length - min ls0.length ls1.length) + i + 1) (by omega)
        have lb0 := hg0.lab (k := (ls0.length - min ls0.length ls1.length) + i) (by omega)
        have lb1 := hg1.lab (k := (ls1.length - min ls0.length ls1.length) + i) (by omega)
        have zr9 := zrun_le ls0 ls1 (ls0.length - min ls0.length ls1.length) (ls1.length - min ls0.length ls1.length) i
        refine lv_aload_n hx hb d_Na_shared_36 rfl (lv_at hl 0 rfl) ?_
        refine zg_get (ci := 3) (C := "ZoneAnswers$Name") (T := T_Na) (N := 2) hx hb hts zi_Na hown hK hG ha0 rfl 0 (by decide) (hts _ w_113) (fun _ h9 => h9) rfl d_Na_shared_37 ?_
        refine lv_iload_n hx hb d_Na_shared_40 rfl (lv_at hl 2 rfl) ?_
        refine zg_bald hx hb hK hG 0 hb0 rfl (np_in hg0 (by omega)) d_Na_shared_41 ?_
        refine zi_as (y := nI ((ls0.getD ((ls0.length - min ls0.length ls1.length) + i) []).length)) (np_rd hf0 hg0 (by omega)) ?_
        refine lv_istore (lv' := [(7, .int (nI ((ls0.getD ((ls0.length - min ls0.length ls1.length) + i) []).length))), (0, .ref a0), (1, .ref a1), (3, .int (nI (np_pos ls0 ((ls0.length - min ls0.length ls1.length) + i)))), (4, .int (nI (np_pos ls1 ((ls1.length - min ls0.length ls1.length) + i)))), (5, .int (nI rn)), (6, .int (nI (min ls0.length ls1.length - i)))]) hx hb d_Na_shared_42 hl (by decide) rfl (fun ls hl => ?_)
        refine lv_iload hx hb d_Na_shared_44 (lv_at hl 0 rfl) ?_
        refine lv_aload_n hx hb d_Na_shared_46 rfl (lv_at hl 2 rfl) ?_
        refine zg_get (ci := 3) (C := "ZoneAnswers$Name") (T := T_Na) (N := 2) hx hb hts zi_Na hown hK hG ha1 rfl 0 (by decide) (hts _ w_113) (fun _ h9 => h9) rfl d_Na_shared_47 ?_
        refine lv_iload hx hb d_Na_shared_50 (lv_at hl 4 rfl) ?_
        refine zg_bald hx hb hK hG 0 hb1 rfl (np_in hg1 (by omega)) d_Na_shared_52 ?_
        refine zi_as (y := nI ((ls1.getD ((ls1.length - min ls0.length ls1.length) + i) []).length)) (np_rd hf1 hg1 (by omega)) ?_
        refine lv_icmp_ne (tgt := 60) hx hb d_Na_shared_53 (by decide) (fun c53 => ?_) (fun c53 => ?_)
        · have b53 : ¬ ((ls0.getD ((ls0.length - min ls0.length ls1.length) + i) []).length) = ((ls1.getD ((ls1.length - min ls0.length ls1.length) + i) []).length) := fun q => c53 ((nI_eq (a := ((ls0.getD ((ls0.length - min ls0.length ls1.length) + i) []).length)) (b := ((ls1.getD ((ls1.length - min ls0.length ls1.length) + i) []).length)) (by omega) (by omega)).mpr q)
          refine lv_iconst (v := 0) hx hb d_Na_shared_60 (by decide) ?_
          refine lv_istore (lv' := [(8, .int 0), (7, .int (nI ((ls0.getD ((ls0.length - min ls0.length ls1.length) + i) []).length))), (0, .ref a0), (1, .ref a1), (3, .int (nI (np_pos ls0 ((ls0.length - min ls0.length ls1.length) + i)))), (4, .int (nI (np_pos ls1 ((ls1.length - min ls0.length ls1.length) + i)))), (5, .int (nI rn)), (6, .int (nI (min ls0.length ls1.length - i)))]) hx hb d_Na_shared_61 hl (by decide) rfl (fun ls hl => ?_)
          refine lv_iconst (v := 1) hx hb d_Na_shared_63 (by decide) ?_
          refine zi_as (y := nI 1) (by decide) ?_
          refine lv_istore (lv' := [(9, .int (nI 1)), (8, .int 0), (7, .int (nI ((ls0.getD ((ls0.length - min ls0.length ls1.length) + i) []).length))), (0, .ref a0), (1, .ref a1), (3, .int (nI (np_pos ls0 ((ls0.length - min ls0.length ls1.length) + i)))), (4, .int (nI (np_pos ls1 ((ls1.length - min ls0.length ls1.length) + i)))), (5, .int (nI rn)), (6, .int (nI (min ls0.length ls1.length - i)))]) hx hb d_Na_shared_64 hl (by decide) rfl (fun ls hl => ?_)
          have loop66 : ∀ (N : Nat) (j : Nat) (sv : Int32), (((ls0.getD ((ls0.length - min ls0.length ls1.length) + i) []).length) + 1 - j) < N → (1 ≤ j) → (j ≤ ((ls0.getD ((ls0.length - min ls0.length ls1.length) + i) []).length) + 1) → (zb sv (((ls0.getD ((ls0.length - min ls0.length ls1.length) + i) []).length) = ((ls1.getD ((ls1.length - min ls0.length ls1.length) + i) []).length) ∧ ∀ t, t + 1 < j → f0 (np_pos ls0 ((ls0.length - min ls0.length ls1.length) + i) + 1 + t) = f1 (np_pos ls1 ((ls1.length - min ls0.length ls1.length) + i) + 1 + t))) → ∀ (ls : Array Slot), lv_has ls 10 [(0, .ref a0), (1, .ref a1), (3, .int (nI (np_pos ls0 ((ls0.length - min ls0.length ls1.length) + i)))), (4, .int (nI (np_pos ls1 ((ls1.length - min ls0.length ls1.length) + i)))), (5, .int (nI rn)), (6, .int (nI (min ls0.length ls1.length - i))), (7, .int (nI ((ls0.getD ((ls0.length - min ls0.length ls1.length) + i) []).length))), (8, .int sv), (9, .int (nI j))] → W p l e rm_Na_shared s m args below meth c H locs 0 0 Q (F0 m 66 ls []) := by
            intro N
            induction N with
            | zero =>
              intro j sv hlt
              exact absurd hlt (Nat.not_lt_zero _)
            | succ N ih =>
              intro j sv hlt hj1 hj2 hsv ls hl
              refine lv_iload hx hb d_Na_shared_66 (lv_at hl 7 rfl) ?_
              refine lv_if_eq (tgt := 113) hx hb d_Na_shared_68 (by decide) (fun c68 => ?_) (fun c68 => ?_)
              · have hno := hsv.z c68
                refine lv_iload hx hb d_Na_shared_113 (lv_at hl 7 rfl) ?_
                refine lv_if_eq (tgt := 125) hx hb d_Na_shared_115 (by decide) (fun c115 => ?_) (fun c115 => ?_)
                · refine lv_iconst (v := 0) hx hb d_Na_shared_125 (by decide) ?_
                  refine zi_as (y := nI 0) (nI_0.symm) ?_
                  refine lv_istore (lv' := [(5, .int (nI 0)), (0, .ref a0), (1, .ref a1), (3, .int (nI (np_pos ls0 ((ls0.length - min ls0.length ls1.length) + i)))), (4, .int (nI (np_pos ls1 ((ls1.length - min ls0.length ls1.length) + i)))), (6, .int (nI (min ls0.length ls1.length - i))), (7, .int (nI ((ls0.getD ((ls0.length - min ls0.length ls1.length) + i) []).length))), (8, .int sv), (9, .int (nI j))]) hx hb d_Na_shared_126 hl (by decide) rfl (fun ls hl => ?_)
                  refine lv_iload_n hx hb d_Na_shared_128 rfl (lv_at hl 3 rfl) ?_
                  refine lv_iload hx hb d_Na_shared_129 (lv_at hl 6 rfl) ?_
                  refine lv_iconst (v := 1) hx hb d_Na_shared_131 (by decide) ?_
                  refine lv_iadd hx hb d_Na_shared_132 ?_
                  refine lv_iadd hx hb d_Na_shared_133 ?_
                  refine zi_as (y := nI (np_pos ls0 ((ls0.length - min ls0.length ls1.length) + i + 1))) (np_step (by omega)) ?_
                  refine lv_istore_n (lv' := [(3, .int (nI (np_pos ls0 ((ls0.length - min ls0.length ls1.length) + i + 1)))), (5, .int (nI 0)), (0, .ref a0), (1, .ref a1), (4, .int (nI (np_pos ls1 ((ls1.length - min ls0.length ls1.length) + i)))), (6, .int (nI (min ls0.length ls1.length - i))), (7, .int (nI ((ls0.getD ((ls0.length - min ls0.length ls1.length) + i) []).length))), (8, .int sv), (9, .int (nI j))]) hx hb d_Na_shared_134 rfl hl (by decide) rfl (fun ls hl => ?_)
                  refine lv_iload hx hb d_Na_shared_135 (lv_at hl 4 rfl) ?_
                  refine lv_aload_n hx hb d_Na_shared_137 rfl (lv_at hl 3 rfl) ?_
                  refine zg_get (ci := 3) (C := "ZoneAnswers$Name") (T := T_Na) (N := 2) hx hb hts zi_Na hown hK hG ha1 rfl 0 (by decide) (hts _ w_113) (fun _ h9 => h9) rfl d_Na_shared_138 ?_
                  refine lv_iload hx hb d_Na_shared_141 (lv_at hl 4 rfl) ?_
                  refine zg_bald hx hb hK hG 0 hb1 rfl (np_in hg1 (by omega)) d_Na_shared_143 ?_
                  refine zi_as (y := nI ((ls1.getD ((ls1.length - min ls0.length ls1.length) + i) []).length)) (np_rd hf1 hg1 (by omega)) ?_
                  refine lv_iconst (v := 1) hx hb d_Na_shared_144 (by decide) ?_
                  refine lv_iadd hx hb d_Na_shared_145 ?_
                  refine lv_iadd hx hb d_Na_shared_146 ?_
                  refine zi_as (y := nI (np_pos ls1 ((ls1.length - min ls0.length ls1.length) + i + 1))) (np_step (by omega)) ?_
                  refine lv_istore (lv' := [(4, .int (nI (np_pos ls1 ((ls1.length - min ls0.length ls1.length) + i + 1)))), (3, .int (nI (np_pos ls0 ((ls0.length - min ls0.length ls1.length) + i + 1)))), (5, .int (nI 0)), (0, .ref a0), (1, .ref a1), (6, .int (nI (min ls0.length ls1.length - i))), (7, .int (nI ((ls0.getD ((ls0.length - min ls0.length ls1.length) + i) []).length))), (8, .int sv), (9, .int (nI j))]) hx hb d_Na_shared_147 hl (by decide) rfl (fun ls hl => ?_)
                  refine lv_iinc (v := nI (min ls0.length ls1.length - i - 1)) (lv' := [(6, .int (nI (min ls0.length ls1.length - i - 1))), (4, .int (nI (np_pos ls1 ((ls1.length - min ls0.length ls1.length) + i + 1)))), (3, .int (nI (np_pos ls0 ((ls0.length - min ls0.length ls1.length) + i + 1)))), (5, .int (nI 0)), (0, .ref a0), (1, .ref a1), (7, .int (nI ((ls0.getD ((ls0.length - min ls0.length ls1.length) + i) []).length))), (8, .int sv), (9, .int (nI j))]) hx hb d_Na_shared_149 hl (k := 5) rfl (zi_dec (by omega)) (by decide) rfl (fun ls hl => ?_)
                  refine lv_goto (tgt := 31) hx hb d_Na_shared_152 (by decide) ?_
                  exact ih31 (i + 1) 0 _ _ (by omega) (by omega) (by first | exact (zrun_no hf0 hf1 (by omega) (by omega) (by omega) hno).symm | (rw [hrn]; exact (zrun_ye hf0 hf1 (by omega) (by omega) (by omega) hyes).symm) | exact absurd c68 c115 | exact absurd c115 c68) hG hS ls (lv_sub hl [4, 5, 2, 1, 3, 0] rfl)
                · refine lv_iload hx hb d_Na_shared_118 (lv_at hl 4 rfl) ?_
                  refine lv_iconst (v := 1) hx hb d_Na_shared_120 (by decide) ?_
                  refine lv_iadd hx hb d_Na_shared_121 ?_
                  refine zi_as (y := nI (rn + 1)) (nI_add rn 1) ?_
                  refine lv_goto (tgt := 126) hx hb d_Na_shared_122 (by decide) ?_
                  refine lv_istore (lv' := [(5, .int (nI (rn + 1))), (0, .ref a0), (1, .ref a1), (3, .int (nI (np_pos ls0 ((ls0.length - min ls0.length ls1.length) + i)))), (4, .int (nI (np_pos ls1 ((ls1.length - min ls0.length ls1.length) + i)))), (6, .int (nI (min ls0.length ls1.length - i))), (7, .int (nI ((ls0.getD ((ls0.length - min ls0.length ls1.length) + i) []).length))), (8, .int sv), (9, .int (nI j))]) hx hb d_Na_shared_126 hl (by decide) rfl (fun ls hl => ?_)
                  refine lv_iload_n hx hb d_Na_shared_128 rfl (lv_at hl 3 rfl) ?_
                  refine lv_iload hx hb d_Na_shared_129 (lv_at hl 6 rfl) ?_
                  refine lv_iconst (v := 1) hx hb d_Na_shared_131 (by decide) ?_
                  refine lv_iadd hx hb d_Na_shared_132 ?_
                  refine lv_iadd hx hb d_Na_shared_133 ?_
                  refine zi_as (y := nI (np_pos ls0 ((ls0.length - min ls0.length ls1.length) + i + 1))) (np_step (by omega)) ?_
                  refine lv_istore_n (lv' := [(3, .int (nI (np_pos ls0 ((ls0.length - min ls0.length ls1.length) + i + 1)))), (5, .int (nI (rn + 1))), (0, .ref a0), (1, .ref a1), (4, .int (nI (np_pos ls1 ((ls1.length - min ls0.length ls1.length) + i)))), (6, .int (nI (min ls0.length ls1.length - i))), (7, .int (nI ((ls0.getD ((ls0.length - min ls0.length ls1.length) + i) []).length))), (8, .int sv), (9, .int (nI j))]) hx hb d_Na_shared_134 rfl hl (by decide) rfl (fun ls hl => ?_)
                  refine lv_iload hx hb d_Na_shared_135 (lv_at hl 4 rfl) ?_
                  refine lv_aload_n hx hb d_Na_shared_137 rfl (lv_at hl 3 rfl) ?_
                  refine zg_get (ci := 3) (C := "ZoneAnswers$Name") (T := T_Na) (N := 2) hx hb hts zi_Na hown hK hG ha1 rfl 0 (by decide) (hts _ w_113) (fun _ h9 => h9) rfl d_Na_shared_138 ?_
                  refine lv_iload hx hb d_Na_shared_141 (lv_at hl 4 rfl) ?_
                  refine zg_bald hx hb hK hG 0 hb1 rfl (np_in hg1 (by omega)) d_Na_shared_143 ?_
                  refine zi_as (y := nI ((ls1.getD ((ls1.length - min ls0.length ls1.length) + i) []).length)) (np_rd hf1 hg1 (by omega)) ?_
                  refine lv_iconst (v := 1) hx hb d_Na_shared_144 (by decide) ?_
                  refine lv_iadd hx hb d_Na_shared_145 ?_
                  refine lv_iadd hx hb d_Na_shared_146 ?_
                  refine zi_as (y := nI (np_pos ls1 ((ls1.length - min ls0.length ls1.length) + i + 1))) (np_step (by omega)) ?_
                  refine lv_istore (lv' := [(4, .int (nI (np_pos ls1 ((ls1.length - min ls0.length ls1.length) + i + 1)))), (3, .int (nI (np_pos ls0 ((ls0.length - min ls0.length ls1.length) + i + 1)))), (5, .int (nI (rn + 1))), (0, .ref a0), (1, .ref a1), (6, .int (nI (min ls0.length ls1.length - i))), (7, .int (nI ((ls0.getD ((ls0.length - min ls0.length ls1.length) + i) []).length))), (8, .int sv), (9, .int (nI j))]) hx hb d_Na_shared_147 hl (by decide) rfl (fun ls hl => ?_)
                  refine lv_iinc (v := nI (min ls0.length ls1.length - i - 1)) (lv' := [(6, .int (nI (min ls0.length ls1.length - i - 1))), (4, .int (nI (np_pos ls1 ((ls1.length - min ls0.length ls1.length) + i + 1)))), (3, .int (nI (np_pos ls0 ((ls0.length - min ls0.length ls1.length) + i + 1)))), (5, .int (nI (rn + 1))), (0, .ref a0), (1, .ref a1), (7, .int (nI ((ls0.getD ((ls0.length - min ls0.length ls1.length) + i) []).length))), (8, .int sv), (9, .int (nI j))]) hx hb d_Na_shared_149 hl (k := 5) rfl (zi_dec (by omega)) (by decide) rfl (fun ls hl => ?_)
                  refine lv_goto (tgt := 31) hx hb d_Na_shared_152 (by decide) ?_
                  exact ih31 (i + 1) (rn + 1) _ _ (by omega) (by omega) (by first | exact (zrun_no hf0 hf1 (by omega) (by omega) (by omega) hno).symm | (rw [hrn]; exact (zrun_ye hf0 hf1 (by omega) (by omega) (by omega) hyes).symm) | exact absurd c68 c115 | exact absurd c115 c68) hG hS ls (lv_sub hl [4, 5, 2, 1, 3, 0] rfl)
              · have hyes := hsv.nz c68
                refine lv_iload hx hb d_Na_shared_71 (lv_at hl 8 rfl) ?_
                refine lv_iload hx hb d_Na_shared_73 (lv_at hl 6 rfl) ?_
                refine lv_icmp_gt (tgt := 113) hx hb d_Na_shared_75 (by decide) (fun c75 => ?_) (fun c75 => ?_)
                · have b75 : ((ls0.getD ((ls0.length - min ls0.length ls1.length) + i) []).length) < j := (nI_ltI (a := ((ls0.getD ((ls0.length - min ls0.length ls1.length) + i) []).length)) (b := j) (by omega) (by omega)).mp c75
                  refine lv_iload hx hb d_Na_shared_113 (lv_at hl 7 rfl) ?_
                  refine lv_if_eq (tgt := 125) hx hb d_Na_shared_115 (by decide) (fun c115 => ?_) (fun c115 => ?_)
                  · refine lv_iconst (v := 0) hx hb d_Na_shared_125 (by decide) ?_
                    refine zi_as (y := nI 0) (nI_0.symm) ?_
                    refine lv_istore (lv' := [(5, .int (nI 0)), (0, .ref a0), (1, .ref a1), (3, .int (nI (np_pos ls0 ((ls0.length - min ls0.length ls1.length) + i)))), (4, .int (nI (np_pos ls1 ((ls1.length - min ls0.length ls1.length) + i)))), (6, .int (nI (min ls0.length ls1.length - i))), (7, .int (nI ((ls0.getD ((ls0.length - min ls0.length ls1.length) + i) []).length))), (8, .int sv), (9, .int (nI j))]) hx hb d_Na_shared_126 hl (by decide) rfl (fun ls hl => ?_)
                    refine lv_iload_n hx hb d_Na_shared_128 rfl (lv_at hl 3 rfl) ?_
                    refine lv_iload hx hb d_Na_shared_129 (lv_at hl 6 rfl) ?_
                    refine lv_iconst (v := 1) hx hb d_Na_shared_131 (by decide) ?_
                    refine lv_iadd hx hb d_Na_shared_132 ?_
                    refine lv_iadd hx hb d_Na_shared_133 ?_
                    refine zi_as (y := nI (np_pos ls0 ((ls0.length - min ls0.length ls1.length) + i + 1))) (np_step (by omega)) ?_
                    refine lv_istore_n (lv' := [(3, .int (nI (np_pos ls0 ((ls0.length - min ls0.length ls1.length) + i + 1)))), (5, .int (nI 0)), (0, .ref a0), (1, .ref a1), (4, .int (nI (np_pos ls1 ((ls1.length - min ls0.length ls1.length) + i)))), (6, .int (nI (min ls0.length ls1.length - i))), (7, .int (nI ((ls0.getD ((ls0.length - min ls0.length ls1.length) + i) []).length))), (8, .int sv), (9, .int (nI j))]) hx hb d_Na_shared_134 rfl hl (by decide) rfl (fun ls hl => ?_)
                    refine lv_iload hx hb d_Na_shared_135 (lv_at hl 4 rfl) ?_
                    refine lv_aload_n hx hb d_Na_shared_137 rfl (lv_at hl 3 rfl) ?_
                    refine zg_get (ci := 3) (C := "ZoneAnswers$Name") (T := T_Na) (N := 2) hx hb hts zi_Na hown hK hG ha1 rfl 0 (by decide) (hts _ w_113) (fun _ h9 => h9) rfl d_Na_shared_138 ?_
                    refine lv_iload hx hb d_Na_shared_141 (lv_at hl 4 rfl) ?_
                    refine zg_bald hx hb hK hG 0 hb1 rfl (np_in hg1 (by omega)) d_Na_shared_143 ?_
                    refine zi_as (y := nI ((ls1.getD ((ls1.length - min ls0.length ls1.length) + i) []).length)) (np_rd hf1 hg1 (by omega)) ?_
                    refine lv_iconst (v := 1) hx hb d_Na_shared_144 (by decide) ?_
                    refine lv_iadd hx hb d_Na_shared_145 ?_
                    refine lv_iadd hx hb d_Na_shared_146 ?_
                    refine zi_as (y := nI (np_pos ls1 ((ls1.length - min ls0.length ls1.length) + i + 1))) (np_step (by omega)) ?_
                    refine lv_istore (lv' := [(4, .int (nI (np_pos ls1 ((ls1.length - min ls0.length ls1.length) + i + 1)))), (3, .int (nI (np_pos ls0 ((ls0.length - min ls0.length ls1.length) + i + 1)))), (5, .int (nI 0)), (0, .ref a0), (1, .ref a1), (6, .int (nI (min ls0.length ls1.length - i))), (7, .int (nI ((ls0.getD ((ls0.length - min ls0.length ls1.length) + i) []).length))), (8, .int sv), (9, .int (nI j))]) hx hb d_Na_shared_147 hl (by decide) rfl (fun ls hl => ?_)
                    refine lv_iinc (v := nI (min ls0.length ls1.length - i - 1)) (lv' := [(6, .int (nI (min ls0.length ls1.length - i - 1))), (4, .int (nI (np_pos ls1 ((ls1.length - min ls0.length ls1.length) + i + 1)))), (3, .int (nI (np_pos ls0 ((ls0.length - min ls0.length ls1.length) + i + 1)))), (5, .int (nI 0)), (0, .ref a0), (1, .ref a1), (7, .int (nI ((ls0.getD ((ls0.length - min ls0.length ls1.length) + i) []).length))), (8, .int sv), (9, .int (nI j))]) hx hb d_Na_shared_149 hl (k := 5) rfl (zi_dec (by omega)) (by decide) rfl (fun ls hl => ?_)
                    refine lv_goto (tgt := 31) hx hb d_Na_shared_152 (by decide) ?_
                    exact ih31 (i + 1) 0 _ _ (by omega) (by omega) (by first | exact (zrun_no hf0 hf1 (by omega) (by omega) (by omega) hno).symm | (rw [hrn]; exact (zrun_ye hf0 hf1 (by omega) (by omega) (by omega) hyes).symm) | exact absurd c68 c115 | exact absurd c115 c68) hG hS ls (lv_sub hl [4, 5, 2, 1, 3, 0] rfl)
                  · refine lv_iload hx hb d_Na_shared_118 (lv_at hl 4 rfl) ?_
                    refine lv_iconst (v := 1) hx hb d_Na_shared_120 (by decide) ?_
                    refine lv_iadd hx hb d_Na_shared_121 ?_
                    refine zi_as (y := nI (rn + 1)) (nI_add rn 1) ?_
                    refine lv_goto (tgt := 126) hx hb d_Na_shared_122 (by decide) ?_
                    refine lv_istore (lv' := [(5, .int (nI (rn + 1))), (0, .ref a0), (1, .ref a1), (3, .int (nI (np_pos ls0 ((ls0.length - min ls0.length ls1.length) + i)))), (4, .int (nI (np_pos ls1 ((ls1.length - min ls0.length ls1.length) + i)))), (6, .int (nI (min ls0.length ls1.length - i))), (7, .int (nI ((ls0.getD ((ls0.length - min ls0.length ls1.length) + i) []).length))), (8, .int sv), (9, .int (nI j))]) hx hb d_Na_shared_126 hl (by decide) rfl (fun ls hl => ?_)
                    refine lv_iload_n hx hb d_Na_shared_128 rfl (lv_at hl 3 rfl) ?_
                    refine lv_iload hx hb d_Na_shared_129 (lv_at hl 6 rfl) ?_
                    refine lv_iconst (v := 1) hx hb d_Na_shared_131 (by decide) ?_
                    refine lv_iadd hx hb d_Na_shared_132 ?_
                    refine lv_iadd hx hb d_Na_shared_133 ?_
                    refine zi_as (y := nI (np_pos ls0 ((ls0.length - min ls0.length ls1.length) + i + 1))) (np_step (by omega)) ?_
                    refine lv_istore_n (lv' := [(3, .int (nI (np_pos ls0 ((ls0.length - min ls0.length ls1.length) + i + 1)))), (5, .int (nI (rn + 1))), (0, .ref a0), (1, .ref a1), (4, .int (nI (np_pos ls1 ((ls1.length - min ls0.length ls1.length) + i)))), (6, .int (nI (min ls0.length ls1.length - i))), (7, .int (nI ((ls0.getD ((ls0.length - min ls0.length ls1.length) + i) []).length))), (8, .int sv), (9, .int (nI j))]) hx hb d_Na_shared_134 rfl hl (by decide) rfl (fun ls hl => ?_)
                    refine lv_iload hx hb d_Na_shared_135 (lv_at hl 4 rfl) ?_
                    refine lv_aload_n hx hb d_Na_shared_137 rfl (lv_at hl 3 rfl) ?_
                    refine zg_get (ci := 3) (C := "ZoneAnswers$Name") (T := T_Na) (N := 2) hx hb hts zi_Na hown hK hG ha1 rfl 0 (by decide) (hts _ w_113) (fun _ h9 => h9) rfl d_Na_shared_138 ?_
                    refine lv_iload hx hb d_Na_shared_141 (lv_at hl 4 rfl) ?_
                    refine zg_bald hx hb hK hG 0 hb1 rfl (np_in hg1 (by omega)) d_Na_shared_143 ?_
                    refine zi_as (y := nI ((ls1.getD ((ls1.length - min ls0.length ls1.length) + i) []).length)) (np_rd hf1 hg1 (by omega)) ?_
                    refine lv_iconst (v := 1) hx hb d_Na_shared_144 (by decide) ?_
                    refine lv_iadd hx hb d_Na_shared_145 ?_
                    refine lv_iadd hx hb d_Na_shared_146 ?_
                    refine zi_as (y := nI (np_pos ls1 ((ls1.length - min ls0.length ls1.length) + i + 1))) (np_step (by omega)) ?_
                    refine lv_istore (lv' := [(4, .int (nI (np_pos ls1 ((ls1.length - min ls0.length ls1.length) + i + 1)))), (3, .int (nI (np_pos ls0 ((ls0.length - min ls0.length ls1.length) + i + 1)))), (5, .int (nI (rn + 1))), (0, .ref a0), (1, .ref a1), (6, .int (nI (min ls0.length ls1.length - i))), (7, .int (nI ((ls0.getD ((ls0.length - min ls0.length ls1.length) + i) []).length))), (8, .int sv), (9, .int (nI j))]) hx hb d_Na_shared_147 hl (by decide) rfl (fun ls hl => ?_)
                    refine lv_iinc (v := nI (min ls0.length ls1.length - i - 1)) (lv' := [(6, .int (nI (min ls0.length ls1.length - i - 1))), (4, .int (nI (np_pos ls1 ((ls1.length - min ls0.length ls1.length) + i + 1)))), (3, .int (nI (np_pos ls0 ((ls0.length - min ls0.length ls1.length) + i + 1)))), (5, .int (nI (rn + 1))), (0, .ref a0), (1, .ref a1), (7, .int (nI ((ls0.getD ((ls0.length - min ls0.length ls1.length) + i) []).length))), (8, .int sv), (9, .int (nI j))]) hx hb d_Na_shared_149 hl (k := 5) rfl (zi_dec (by omega)) (by decide) rfl (fun ls hl => ?_)
                    refine lv_goto (tgt := 31) hx hb d_Na_shared_152 (by decide) ?_
                    exact ih31 (i + 1) (rn + 1) _ _ (by omega) (by omega) (by first | exact (zrun_no hf0 hf1 (by omega) (by omega) (by omega) hno).symm | (rw [hrn]; exact (zrun_ye hf0 hf1 (by omega) (by omega) (by omega) hyes).symm) | exact absurd c68 c115 | exact absurd c115 c68) hG hS ls (lv_sub hl [4, 5, 2, 1, 3, 0] rfl)
                · have b75 : ¬ ((ls0.getD ((ls0.length - min ls0.length ls1.length) + i) []).length) < j := fun q => c75 ((nI_ltI (a := ((ls0.getD ((ls0.length - min ls0.length ls1.length) + i) []).length)) (b := j) (by omega) (by omega)).mpr q)
                  refine lv_aload_n hx hb d_Na_shared_78 rfl (lv_at hl 0 rfl) ?_
                  refine zg_get (ci := 3) (C := "ZoneAnswers$Name") (T := T_Na) (N := 2) hx hb hts zi_Na hown hK hG ha0 rfl 0 (by decide) (hts _ w_113) (fun _ h9 => h9) rfl d_Na_shared_79 ?_
                  refine lv_iload_n hx hb d_Na_shared_82 rfl (lv_at hl 2 rfl) ?_
                  refine lv_iload hx hb d_Na_shared_83 (lv_at hl 8 rfl) ?_
                  refine lv_iadd hx hb d_Na_shared_85 ?_
                  refine zi_as (y := nI (np_pos ls0 ((ls0.length - min ls0.length ls1.length) + i) + j)) (nI_add (np_pos ls0 ((ls0.length - min ls0.length ls1.length) + i)) j) ?_
                  refine zg_bald hx hb hK hG 0 hb0 rfl (vp_in_nI (by omega) (by omega)) d_Na_shared_86 ?_
                  refine zi_as (y := f0 (np_pos ls0 ((ls0.length - min ls0.length ls1.length) + i) + j)) (by rw [zi_n _ (by omega)]) ?_
                  refine lv_aload_n hx hb d_Na_shared_87 rfl (lv_at hl 1 rfl) ?_
                  refine zg_get (ci := 3) (C := "ZoneAnswers$Name") (T := T_Na) (N := 2) hx hb hts zi_Na hown hK hG ha1 rfl 0 (by decide) (hts _ w_113) (fun _ h9 => h9) rfl d_Na_shared_88 ?_
                  refine lv_iload hx hb d_Na_shared_91 (lv_at hl 3 rfl) ?_
                  refine lv_iload hx hb d_Na_shared_93 (lv_at hl 8 rfl) ?_
                  refine lv_iadd hx hb d_Na_shared_95 ?_
                  refine zi_as (y := nI (np_pos ls1 ((ls1.length - min ls0.length ls1.length) + i) + j)) (nI_add (np_pos ls1 ((ls1.length - min ls0.length ls1.length) + i)) j) ?_
                  refine zg_bald hx hb hK hG 0 hb1 rfl (vp_in_nI (by omega) (by omega)) d_Na_shared_96 ?_
                  refine zi_as (y := f1 (np_pos ls1 ((ls1.length - min ls0.length ls1.length) + i) + j)) (by rw [zi_n _ (by omega)]) ?_
                  refine lv_icmp_ne (tgt := 104) hx hb d_Na_shared_97 (by decide) (fun c97 => ?_) (fun c97 => ?_)
                  · refine lv_iconst (v := 0) hx hb d_Na_shared_104 (by decide) ?_
                    refine lv_istore (lv' := [(8, .int 0), (0, .ref a0), (1, .ref a1), (3, .int (nI (np_pos ls0 ((ls0.length - min ls0.length ls1.length) + i)))), (4, .int (nI (np_pos ls1 ((ls1.length - min ls0.length ls1.length) + i)))), (5, .int (nI rn)), (6, .int (nI (min ls0.length ls1.length - i))), (7, .int (nI ((ls0.getD ((ls0.length - min ls0.length ls1.length) + i) []).length))), (9, .int (nI j))]) hx hb d_Na_shared_105 hl (by decide) rfl (fun ls hl => ?_)
                    refine lv_iinc (v := nI (j + 1)) (lv' := [(9, .int (nI (j + 1))), (8, .int 0), (0, .ref a0), (1, .ref a1), (3, .int (nI (np_pos ls0 ((ls0.length - min ls0.length ls1.length) + i)))), (4, .int (nI (np_pos ls1 ((ls1.length - min ls0.length ls1.length) + i)))), (5, .int (nI rn)), (6, .int (nI (min ls0.length ls1.length - i))), (7, .int (nI ((ls0.getD ((ls0.length - min ls0.length ls1.length) + i) []).length)))]) hx hb d_Na_shared_107 hl (k := 8) rfl (nI_add j 1) (by decide) rfl (fun ls hl => ?_)
                    refine lv_goto (tgt := 66) hx hb d_Na_shared_110 (by decide) ?_
                    exact ih (j + 1) 0 (by omega) (by omega) (by omega) (by first | exact zb.t ⟨hyes.1, zsh_t hj1 hyes.2 c97⟩ | exact zb.f (fun q => zsh_f hj1 c97 q.2)) ls (lv_sub hl [2, 3, 4, 5, 6, 7, 8, 1, 0] rfl)
                  · refine lv_iconst (v := 1) hx hb d_Na_shared_100 (by decide) ?_
                    refine lv_goto (tgt := 105) hx hb d_Na_shared_101 (by decide) ?_
                    refine lv_istore (lv' := [(8, .int 1), (0, .ref a0), (1, .ref a1), (3, .int (nI (np_pos ls0 ((ls0.length - min ls0.length ls1.length) + i)))), (4, .int (nI (np_pos ls1 ((ls1.length - min ls0.length ls1.length) + i)))), (5, .int (nI rn)), (6, .int (nI (min ls0.length ls1.length - i))), (7, .int (nI ((ls0.getD ((ls0.length - min ls0.length ls1.length) + i) []).length))), (9, .int (nI j))]) hx hb d_Na_shared_105 hl (by decide) rfl (fun ls hl => ?_)
                    refine lv_iinc (v := nI (j + 1)) (lv' := [(9, .int (nI (j + 1))), (8, .int 1), (0, .ref a0), (1, .ref a1), (3, .int (nI (np_pos ls0 ((ls0.length - min ls0.length ls1.length) + i)))), (4, .int (nI (np_pos ls1 ((ls1.length - min ls0.length ls1.length) + i)))), (5, .int (nI rn)), (6, .int (nI (min ls0.length ls1.length - i))), (7, .int (nI ((ls0.getD ((ls0.length - min ls0.length ls1.length) + i) []).length)))]) hx hb d_Na_shared_107 hl (k := 8) rfl (nI_add j 1) (by decide) rfl (fun ls hl => ?_)
                    refine lv_goto (tgt := 66) hx hb d_Na_shared_110 (by decide) ?_
                    exact ih (j + 1) 1 (by omega) (by omega) (by omega) (by first | exact zb.t ⟨hyes.1, zsh_t hj1 hyes.2 c97⟩ | exact zb.f (fun q => zsh_f hj1 c97 q.2)) ls (lv_sub hl [2, 3, 4, 5, 6, 7, 8, 1, 0] rfl)
          exact loop66 _ 1 0 (Nat.lt_succ_self _) (Nat.le_refl _) (by omega) (by first | exact zb.t ⟨b53, fun t h => absurd h (by omega)⟩ | exact zb.f (fun q => b53 q.1)) ls (lv_sub hl [3, 4, 5, 6, 7, 8, 2, 1, 0] rfl)
        · have b53 : ((ls0.getD ((ls0.length - min ls0.length ls1.length) + i) []).length) = ((ls1.getD ((ls1.length - min ls0.length ls1.length) + i) []).length) := (nI_eq (a := ((ls0.getD ((ls0.length - min ls0.length ls1.length) + i) []).length)) (b := ((ls1.getD ((ls1.length - min ls0.length ls1.length) + i) []).length)) (by omega) (by omega)).mp c53
          refine lv_iconst (v := 1) hx hb d_Na_shared_56 (by decide) ?_
          refine lv_goto (tgt := 61) hx hb d_Na_shared_57 (by decide) ?_
          refine lv_istore (lv' := [(8, .int 1), (7, .int (nI ((ls0.getD ((ls0.length - min ls0.length ls1.length) + i) []).length))), (0, .ref a0), (1, .ref a1), (3, .int (nI (np_pos ls0 ((ls0.length - min ls0.length ls1.length) + i)))), (4, .int (nI (np_pos ls1 ((ls1.length - min ls0.length ls1.length) + i)))), (5, .int (nI rn)), (6, .int (nI (min ls0.length ls1.length - i)))]) hx hb d_Na_shared_61 hl (by decide) rfl (fun ls hl => ?_)
          refine lv_iconst (v := 1) hx hb d_Na_shared_63 (by decide) ?_
          refine zi_as (y := nI 1) (by decide) ?_
          refine lv_istore (lv' := [(9, .int (nI 1)), (8, .int 1), (7, .int (nI ((ls0.getD ((ls0.length - min ls0.length ls1.length) + i) []).length))), (0, .ref a0), (1, .ref a1), (3, .int (nI (np_pos ls0 ((ls0.length - min ls0.length ls1.length) + i)))), (4, .int (nI (np_pos ls1 ((ls1.length - min ls0.length ls1.length) + i)))), (5, .int (nI rn)), (6, .int (nI (min ls0.length ls1.length - i)))]) hx hb d_Na_shared_64 hl (by decide) rfl (fun ls hl => ?_)
          have loop66 : ∀ (N : Nat) (j : Nat) (sv : Int32), (((ls0.getD ((ls0.length - min ls0.length ls1.length) + i) []).length) + 1 - j) < N → (1 ≤ j) → (j ≤ ((ls0.getD ((ls0.length - min ls0.length ls1.length) + i) []).length) + 1) → (zb sv (((ls0.getD ((ls0.length - min ls0.length ls1.length) + i) []).length) = ((ls1.getD ((ls1.length - min ls0.length ls1.length) + i) []).length) ∧ ∀ t, t + 1 < j → f0 (np_pos ls0 ((ls0.length - min ls0.length ls1.length) + i) + 1 + t) = f1 (np_pos ls1 ((ls1.length - min ls0.length ls1.length) + i) + 1 + t))) → ∀ (ls : Array Slot), lv_has ls 10 [(0, .ref a0), (1, .ref a1), (3, .int (nI (np_pos ls0 ((ls0.length - min ls0.length ls1.length) + i)))), (4, .int (nI (np_pos ls1 ((ls1.length - min ls0.length ls1.length) + i)))), (5, .int (nI rn)), (6, .int (nI (min ls0.length ls1.length - i))), (7, .int (nI ((ls0.getD ((ls0.length - min ls0.length ls1.length) + i) []).length))), (8, .int sv), (9, .int (nI j))] → W p l e rm_Na_shared s m args below meth c H locs 0 0 Q (F0 m 66 ls []) := by
            intro N
            induction N with
            | zero =>
              intro j sv hlt
              exact absurd hlt (Nat.not_lt_zero _)
            | succ N ih =>
              intro j sv hlt hj1 hj2 hsv ls hl
              refine lv_iload hx hb d_Na_shared_66 (lv_at hl 7 rfl) ?_
              refine lv_if_eq (tgt := 113) hx hb d_Na_shared_68 (by decide) (fun c68 => ?_) (fun c68 => ?_)
              · have hno := hsv.z c68
                refine lv_iload hx hb d_Na_shared_113 (lv_at hl 7 rfl) ?_
                refine lv_if_eq (tgt := 125) hx hb d_Na_shared_115 (by decide) (fun c115 => ?_) (fun c115 => ?_)
                · refine lv_iconst (v := 0) hx hb d_Na_shared_125 (by decide) ?_
                  refine zi_as (y := nI 0) (nI_0.symm) ?_
                  refine lv_istore (lv' := [(5, .int (nI 0)), (0, .ref a0), (1, .ref a1), (3, .int (nI (np_pos ls0 ((ls0.length - min ls0.length ls1.length) + i)))), (4, .int (nI (np_pos ls1 ((ls1.length - min ls0.length ls1.length) + i)))), (6, .int (nI (min ls0.length ls1.length - i))), (7, .int (nI ((ls0.getD ((ls0.length - min ls0.length ls1.length) + i) []).length))), (8, .int sv), (9, .int (nI j))]) hx hb d_Na_shared_126 hl (by decide) rfl (fun ls hl => ?_)
                  refine lv_iload_n hx hb d_Na_shared_128 rfl (lv_at hl 3 rfl) ?_
                  refine lv_iload hx hb d_Na_shared_129 (lv_at hl 6 rfl) ?_
                  refine lv_iconst (v := 1) hx hb d_Na_shared_131 (by decide) ?_
                  refine lv_iadd hx hb d_Na_shared_132 ?_
                  refine lv_iadd hx hb d_Na_shared_133 ?_
                  refine zi_as (y := nI (np_pos ls0 ((ls0.length - min ls0.length ls1.length) + i + 1))) (np_step (by omega)) ?_
                  refine lv_istore_n (lv' := [(3, .int (nI (np_pos ls0 ((ls0.length - min ls0.length ls1.length) + i + 1)))), (5, .int (nI 0)), (0, .ref a0), (1, .ref a1), (4, .int (nI (np_pos ls1 ((ls1.length - min ls0.length ls1.length) + i)))), (6, .int (nI (min ls0.length ls1.length - i))), (7, .int (nI ((ls0.getD ((ls0.length - min ls0.length ls1.length) + i) []).length))), (8, .int sv), (9, .int (nI j))]) hx hb d_Na_shared_134 rfl hl (by decide) rfl (fun ls hl => ?_)
                  refine lv_iload hx hb d_Na_shared_135 (lv_at hl 4 rfl) ?_
                  refine lv_aload_n hx hb d_Na_shared_137 rfl (lv_at hl 3 rfl) ?_
                  refine zg_get (ci := 3) (C := "ZoneAnswers$Name") (T := T_Na) (N := 2) hx hb hts zi_Na hown hK hG ha1 rfl 0 (by decide) (hts _ w_113) (fun _ h9 => h9) rfl d_Na_shared_138 ?_
                  refine lv_iload hx hb d_Na_shared_141 (lv_at hl 4 rfl) ?_
                  refine zg_bald hx hb hK hG 0 hb1 rfl (np_in hg1 (by omega)) d_Na_shared_143 ?_
                  refine zi_as (y := nI ((ls1.getD ((ls1.length - min ls0.length ls1.length) + i) []).length)) (np_rd hf1 hg1 (by omega)) ?_
                  refine lv_iconst (v := 1) hx hb d_Na_shared_144 (by decide) ?_
                  refine lv_iadd hx hb d_Na_shared_145 ?_
                  refine lv_iadd hx hb d_Na_shared_146 ?_
                  refine zi_as (y := nI (np_pos ls1 ((ls1.length - min ls0.length ls1.length) + i + 1))) (np_step (by omega)) ?_
                  refine lv_istore (lv' := [(4, .int (nI (np_pos ls1 ((ls1.length - min ls0.length ls1.length) + i + 1)))), (3, .int (nI (np_pos ls0 ((ls0.length - min ls0.length ls1.length) + i + 1)))), (5, .int (nI 0)), (0, .ref a0), (1, .ref a1), (6, .int (nI (min ls0.length ls1.length - i))), (7, .int (nI ((ls0.getD ((ls0.length - min ls0.length ls1.length) + i) []).length))), (8, .int sv), (9, .int (nI j))]) hx hb d_Na_shared_147 hl (by decide) rfl (fun ls hl => ?_)
                  refine lv_iinc (v := nI (min ls0.length ls1.length - i - 1)) (lv' := [(6, .int (nI (min ls0.length ls1.length - i - 1))), (4, .int (nI (np_pos ls1 ((ls1.length - min ls0.length ls1.length) + i + 1)))), (3, .int (nI (np_pos ls0 ((ls0.length - min ls0.length ls1.length) + i + 1)))), (5, .int (nI 0)), (0, .ref a0), (1, .ref a1), (7, .int (nI ((ls0.getD ((ls0.length - min ls0.length ls1.length) + i) []).length))), (8, .int sv), (9, .int (nI j))]) hx hb d_Na_shared_149 hl (k := 5) rfl (zi_dec (by omega)) (by decide) rfl (fun ls hl => ?_)
                  refine lv_goto (tgt := 31) hx hb d_Na_shared_152 (by decide) ?_
                  exact ih31 (i + 1) 0 _ _ (by omega) (by omega) (by first | exact (zrun_no hf0 hf1 (by omega) (by omega) (by omega) hno).symm | (rw [hrn]; exact (zrun_ye hf0 hf1 (by omega) (by omega) (by omega) hyes).symm) | exact absurd c68 c115 | exact absurd c115 c68) hG hS ls (lv_sub hl [4, 5, 2, 1, 3, 0] rfl)
                · refine lv_iload hx hb d_Na_shared_118 (lv_at hl 4 rfl) ?_
                  refine lv_iconst (v := 1) hx hb d_Na_shared_120 (by decide) ?_
                  refine lv_iadd hx hb d_Na_shared_121 ?_
                  refine zi_as (y := nI (rn + 1)) (nI_add rn 1) ?_
                  refine lv_goto (tgt := 126) hx hb d_Na_shared_122 (by decide) ?_
                  refine lv_istore (lv' := [(5, .int (nI (rn + 1))), (0, .ref a0), (1, .ref a1), (3, .int (nI (np_pos ls0 ((ls0.length - min ls0.length ls1.length) + i)))), (4, .int (nI (np_pos ls1 ((ls1.length - min ls0.length ls1.length) + i)))), (6, .int (nI (min ls0.length ls1.length - i))), (7, .int (nI ((ls0.getD ((ls0.length - min ls0.length ls1.length) + i) []).length))), (8, .int sv), (9, .int (nI j))]) hx hb d_Na_shared_126 hl (by decide) rfl (fun ls hl => ?_)
                  refine lv_iload_n hx hb d_Na_shared_128 rfl (lv_at hl 3 rfl) ?_
                  refine lv_iload hx hb d_Na_shared_129 (lv_at hl 6 rfl) ?_
                  refine lv_iconst (v := 1) hx hb d_Na_shared_131 (by decide) ?_
                  refine lv_iadd hx hb d_Na_shared_132 ?_
                  refine lv_iadd hx hb d_Na_shared_133 ?_
                  refine zi_as (y := nI (np_pos ls0 ((ls0.length - min ls0.length ls1.length) + i + 1))) (np_step (by omega)) ?_
                  refine lv_istore_n (lv' := [(3, .int (nI (np_pos ls0 ((ls0.length - min ls0.length ls1.length) + i + 1)))), (5, .int (nI (rn + 1))), (0, .ref a0), (1, .ref a1), (4, .int (nI (np_pos ls1 ((ls1.length - min ls0.length ls1.length) + i)))), (6, .int (nI (min ls0.length ls1.length - i))), (7, .int (nI ((ls0.getD ((ls0.length - min ls0.length ls1.length) + i) []).length))), (8, .int sv), (9, .int (nI j))]) hx hb d_Na_shared_134 rfl hl (by decide) rfl (fun ls hl => ?_)
                  refine lv_iload hx hb d_Na_shared_135 (lv_at hl 4 rfl) ?_
                  refine lv_aload_n hx hb d_Na_shared_137 rfl (lv_at hl 3 rfl) ?_
                  refine zg_get (ci := 3) (C := "ZoneAnswers$Name") (T := T_Na) (N := 2) hx hb hts zi_Na hown hK hG ha1 rfl 0 (by decide) (hts _ w_113) (fun _ h9 => h9) rfl d_Na_shared_138 ?_
                  refine lv_iload hx hb d_Na_shared_141 (lv_at hl 4 rfl) ?_
                  refine zg_bald hx hb hK hG 0 hb1 rfl (np_in hg1 (by omega)) d_Na_shared_143 ?_
                  refine zi_as (y := nI ((ls1.getD ((ls1.length - min ls0.length ls1.length) + i) []).length)) (np_rd hf1 hg1 (by omega)) ?_
                  refine lv_iconst (v := 1) hx hb d_Na_shared_144 (by decide) ?_
                  refine lv_iadd hx hb d_Na_shared_145 ?_
                  refine lv_iadd hx hb d_Na_shared_146 ?_
                  refine zi_as (y := nI (np_pos ls1 ((ls1.length - min ls0.length ls1.length) + i + 1))) (np_step (by omega)) ?_
                  refine lv_istore (lv' := [(4, .int (nI (np_pos ls1 ((ls1.length - min ls0.length ls1.length) + i + 1)))), (3, .int (nI (np_pos ls0 ((ls0.length - min ls0.length ls1.length) + i + 1)))), (5, .int (nI (rn + 1))), (0, .ref a0), (1, .ref a1), (6, .int (nI (min ls0.length ls1.length - i))), (7, .int (nI ((ls0.getD ((ls0.length - min ls0.length ls1.length) + i) []).length))), (8, .int sv), (9, .int (nI j))]) hx hb d_Na_shared_147 hl (by decide) rfl (fun ls hl => ?_)
                  refine lv_iinc (v := nI (min ls0.length ls1.length - i - 1)) (lv' := [(6, .int (nI (min ls0.length ls1.length - i - 1))), (4, .int (nI (np_pos ls1 ((ls1.length - min ls0.length ls1.length) + i + 1)))), (3, .int (nI (np_pos ls0 ((ls0.length - min ls0.length ls1.length) + i + 1)))), (5, .int (nI (rn + 1))), (0, .ref a0), (1, .ref a1), (7, .int (nI ((ls0.getD ((ls0.length - min ls0.length ls1.length) + i) []).length))), (8, .int sv), (9, .int (nI j))]) hx hb d_Na_shared_149 hl (k := 5) rfl (zi_dec (by omega)) (by decide) rfl (fun ls hl => ?_)
                  refine lv_goto (tgt := 31) hx hb d_Na_shared_152 (by decide) ?_
                  exact ih31 (i + 1) (rn + 1) _ _ (by omega) (by omega) (by first | exact (zrun_no hf0 hf1 (by omega) (by omega) (by omega) hno).symm | (rw [hrn]; exact (zrun_ye hf0 hf1 (by omega) (by omega) (by omega) hyes).symm) | exact absurd c68 c115 | exact absurd c115 c68) hG hS ls (lv_sub hl [4, 5, 2, 1, 3, 0] rfl)
              · have hyes := hsv.nz c68
                refine lv_iload hx hb d_Na_shared_71 (lv_at hl 8 rfl) ?_
                refine lv_iload hx hb d_Na_shared_73 (lv_at hl 6 rfl) ?_
                refine lv_icmp_gt (tgt := 113) hx hb d_Na_shared_75 (by decide) (fun c75 => ?_) (fun c75 => ?_)
                · have b75 : ((ls0.getD ((ls0.length - min ls0.length ls1.length) + i) []).length) < j := (nI_ltI (a := ((ls0.getD ((ls0.length - min ls0.length ls1.length) + i) []).length)) (b := j) (by omega) (by omega)).mp c75
                  refine lv_iload hx hb d_Na_shared_113 (lv_at hl 7 rfl) ?_
                  refine lv_if_eq (tgt := 125) hx hb d_Na_shared_115 (by decide) (fun c115 => ?_) (fun c115 => ?_)
                  · refine lv_iconst (v := 0) hx hb d_Na_shared_125 (by decide) ?_
                    refine zi_as (y := nI 0) (nI_0.symm) ?_
                    refine lv_istore (lv' := [(5, .int (nI 0)), (0, .ref a0), (1, .ref a1), (3, .int (nI (np_pos ls0 ((ls0.length - min ls0.length ls1.length) + i)))), (4, .int (nI (np_pos ls1 ((ls1.length - min ls0.length ls1.length) + i)))), (6, .int (nI (min ls0.length ls1.length - i))), (7, .int (nI ((ls0.getD ((ls0.length - min ls0.length ls1.length) + i) []).length))), (8, .int sv), (9, .int (nI j))]) hx hb d_Na_shared_126 hl (by decide) rfl (fun ls hl => ?_)
                    refine lv_iload_n hx hb d_Na_shared_128 rfl (lv_at hl 3 rfl) ?_
                    refine lv_iload hx hb d_Na_shared_129 (lv_at hl 6 rfl) ?_
                    refine lv_iconst (v := 1) hx hb d_Na_shared_131 (by decide) ?_
                    refine lv_iadd hx hb d_Na_shared_132 ?_
                    refine lv_iadd hx hb d_Na_shared_133 ?_
                    refine zi_as (y := nI (np_pos ls0 ((ls0.length - min ls0.length ls1.length) + i + 1))) (np_step (by omega)) ?_
                    refine lv_istore_n (lv' := [(3, .int (nI (np_pos ls0 ((ls0.length - min ls0.length ls1.length) + i + 1)))), (5, .int (nI 0)), (0, .ref a0), (1, .ref a1), (4, .int (nI (np_pos ls1 ((ls1.length - min ls0.length ls1.length) + i)))), (6, .int (nI (min ls0.length ls1.length - i))), (7, .int (nI ((ls0.getD ((ls0.length - min ls0.length ls1.length) + i) []).length))), (8, .int sv), (9, .int (nI j))]) hx hb d_Na_shared_134 rfl hl (by decide) rfl (fun ls hl => ?_)
                    refine lv_iload hx hb d_Na_shared_135 (lv_at hl 4 rfl) ?_
                    refine lv_aload_n hx hb d_Na_shared_137 rfl (lv_at hl 3 rfl) ?_
                    refine zg_get (ci := 3) (C := "ZoneAnswers$Name") (T := T_Na) (N := 2) hx hb hts zi_Na hown hK hG ha1 rfl 0 (by decide) (hts _ w_113) (fun _ h9 => h9) rfl d_Na_shared_138 ?_
                    refine lv_iload hx hb d_Na_shared_141 (lv_at hl 4 rfl) ?_
                    refine zg_bald hx hb hK hG 0 hb1 rfl (np_in hg1 (by omega)) d_Na_shared_143 ?_
                    refine zi_as (y := nI ((ls1.getD ((ls1.length - min ls0.length ls1.length) + i) []).length)) (np_rd hf1 hg1 (by omega)) ?_
                    refine lv_iconst (v := 1) hx hb d_Na_shared_144 (by decide) ?_
                    refine lv_iadd hx hb d_Na_shared_145 ?_
                    refine lv_iadd hx hb d_Na_shared_146 ?_
                    refine zi_as (y := nI (np_pos ls1 ((ls1.length - min ls0.length ls1.length) + i + 1))) (np_step (by omega)) ?_
                    refine lv_istore (lv' := [(4, .int (nI (np_pos ls1 ((ls1.length - min ls0.length ls1.length) + i + 1)))), (3, .int (nI (np_pos ls0 ((ls0.length - min ls0.length ls1.length) + i + 1)))), (5, .int (nI 0)), (0, .ref a0), (1, .ref a1), (6, .int (nI (min ls0.length ls1.length - i))), (7, .int (nI ((ls0.getD ((ls0.length - min ls0.length ls1.length) + i) []).length))), (8, .int sv), (9, .int (nI j))]) hx hb d_Na_shared_147 hl (by decide) rfl (fun ls hl => ?_)
                    refine lv_iinc (v := nI (min ls0.length ls1.length - i - 1)) (lv' := [(6, .int (nI (min ls0.length ls1.length - i - 1))), (4, .int (nI (np_pos ls1 ((ls1.length - min ls0.length ls1.length) + i + 1)))), (3, .int (nI (np_pos ls0 ((ls0.length - min ls0.length ls1.length) + i + 1)))), (5, .int (nI 0)), (0, .ref a0), (1, .ref a1), (7, .int (nI ((ls0.getD ((ls0.length - min ls0.length ls1.length) + i) []).length))), (8, .int sv), (9, .int (nI j))]) hx hb d_Na_shared_149 hl (k := 5) rfl (zi_dec (by omega)) (by decide) rfl (fun ls hl => ?_)
                    refine lv_goto (tgt := 31) hx hb d_Na_shared_152 (by decide) ?_
                    exact ih31 (i + 1) 0 _ _ (by omega) (by omega) (by first | exact (zrun_no hf0 hf1 (by omega) (by omega) (by omega) hno).symm | (rw [hrn]; exact (zrun_ye hf0 hf1 (by omega) (by omega) (by omega) hyes).symm) | exact absurd c68 c115 | exact absurd c115 c68) hG hS ls (lv_sub hl [4, 5, 2, 1, 3, 0] rfl)
                  · refine lv_iload hx hb d_Na_shared_118 (lv_at hl 4 rfl) ?_
                    refine lv_iconst (v := 1) hx hb d_Na_shared_120 (by decide) ?_
                    refine lv_iadd hx hb d_Na_shared_121 ?_
                    refine zi_as (y := nI (rn + 1)) (nI_add rn 1) ?_
                    refine lv_goto (tgt := 126) hx hb d_Na_shared_122 (by decide) ?_
                    refine lv_istore (lv' := [(5, .int (nI (rn + 1))), (0, .ref a0), (1, .ref a1), (3, .int (nI (np_pos ls0 ((ls0.length - min ls0.length ls1.length) + i)))), (4, .int (nI (np_pos ls1 ((ls1.length - min ls0.length ls1.length) + i)))), (6, .int (nI (min ls0.length ls1.length - i))), (7, .int (nI ((ls0.getD ((ls0.length - min ls0.length ls1.length) + i) []).length))), (8, .int sv), (9, .int (nI j))]) hx hb d_Na_shared_126 hl (by decide) rfl (fun ls hl => ?_)
                    refine lv_iload_n hx hb d_Na_shared_128 rfl (lv_at hl 3 rfl) ?_
                    refine lv_iload hx hb d_Na_shared_129 (lv_at hl 6 rfl) ?_
                    refine lv_iconst (v := 1) hx hb d_Na_shared_131 (by decide) ?_
                    refine lv_iadd hx hb d_Na_shared_132 ?_
                    refine lv_iadd hx hb d_Na_shared_133 ?_
                    refine zi_as (y := nI (np_pos ls0 ((ls0.length - min ls0.length ls1.length) + i + 1))) (np_step (by omega)) ?_
                    refine lv_istore_n (lv' := [(3, .int (nI (np_pos ls0 ((ls0.length - min ls0.length ls1.length) + i + 1)))), (5, .int (nI (rn + 1))), (0, .ref a0), (1, .ref a1), (4, .int (nI (np_pos ls1 ((ls1.length - min ls0.length ls1.length) + i)))), (6, .int (nI (min ls0.length ls1.length - i))), (7, .int (nI ((ls0.getD ((ls0.length - min ls0.length ls1.length) + i) []).length))), (8, .int sv), (9, .int (nI j))]) hx hb d_Na_shared_134 rfl hl (by decide) rfl (fun ls hl => ?_)
                    refine lv_iload hx hb d_Na_shared_135 (lv_at hl 4 rfl) ?_
                    refine lv_aload_n hx hb d_Na_shared_137 rfl (lv_at hl 3 rfl) ?_
                    refine zg_get (ci := 3) (C := "ZoneAnswers$Name") (T := T_Na) (N := 2) hx hb hts zi_Na hown hK hG ha1 rfl 0 (by decide) (hts _ w_113) (fun _ h9 => h9) rfl d_Na_shared_138 ?_
                    refine lv_iload hx hb d_Na_shared_141 (lv_at hl 4 rfl) ?_
                    refine zg_bald hx hb hK hG 0 hb1 rfl (np_in hg1 (by omega)) d_Na_shared_143 ?_
                    refine zi_as (y := nI ((ls1.getD ((ls1.length - min ls0.length ls1.length) + i) []).length)) (np_rd hf1 hg1 (by omega)) ?_
                    refine lv_iconst (v := 1) hx hb d_Na_shared_144 (by decide) ?_
                    refine lv_iadd hx hb d_Na_shared_145 ?_
                    refine lv_iadd hx hb d_Na_shared_146 ?_
                    refine zi_as (y := nI (np_pos ls1 ((ls1.length - min ls0.length ls1.length) + i + 1))) (np_step (by omega)) ?_
                    refine lv_istore (lv' := [(4, .int (nI (np_pos ls1 ((ls1.length - min ls0.length ls1.length) + i + 1)))), (3, .int (nI (np_pos ls0 ((ls0.length - min ls0.length ls1.length) + i + 1)))), (5, .int (nI (rn + 1))), (0, .ref a0), (1, .ref a1), (6, .int (nI (min ls0.length ls1.length - i))), (7, .int (nI ((ls0.getD ((ls0.length - min ls0.length ls1.length) + i) []).length))), (8, .int sv), (9, .int (nI j))]) hx hb d_Na_shared_147 hl (by decide) rfl (fun ls hl => ?_)
                    refine lv_iinc (v := nI (min ls0.length ls1.length - i - 1)) (lv' := [(6, .int (nI (min ls0.length ls1.length - i - 1))), (4, .int (nI (np_pos ls1 ((ls1.length - min ls0.length ls1.length) + i + 1)))), (3, .int (nI (np_pos ls0 ((ls0.length - min ls0.length ls1.length) + i + 1)))), (5, .int (nI (rn + 1))), (0, .ref a0), (1, .ref a1), (7, .int (nI ((ls0.getD ((ls0.length - min ls0.length ls1.length) + i) []).length))), (8, .int sv), (9, .int (nI j))]) hx hb d_Na_shared_149 hl (k := 5) rfl (zi_dec (by omega)) (by decide) rfl (fun ls hl => ?_)
                    refine lv_goto (tgt := 31) hx hb d_Na_shared_152 (by decide) ?_
                    exact ih31 (i + 1) (rn + 1) _ _ (by omega) (by omega) (by first | exact (zrun_no hf0 hf1 (by omega) (by omega) (by omega) hno).symm | (rw [hrn]; exact (zrun_ye hf0 hf1 (by omega) (by omega) (by omega) hyes).symm) | exact absurd c68 c115 | exact absurd c115 c68) hG hS ls (lv_sub hl [4, 5, 2, 1, 3, 0] rfl)
                · have b75 : ¬ ((ls0.getD ((ls0.length - min ls0.length ls1.length) + i) []).length) < j := fun q => c75 ((nI_ltI (a := ((ls0.getD ((ls0.length - min ls0.length ls1.length) + i) []).length)) (b := j) (by omega) (by omega)).mpr q)
                  refine lv_aload_n hx hb d_Na_shared_78 rfl (lv_at hl 0 rfl) ?_
                  refine zg_get (ci := 3) (C := "ZoneAnswers$Name") (T := T_Na) (N := 2) hx hb hts zi_Na hown hK hG ha0 rfl 0 (by decide) (hts _ w_113) (fun _ h9 => h9) rfl d_Na_shared_79 ?_
                  refine lv_iload_n hx hb d_Na_shared_82 rfl (lv_at hl 2 rfl) ?_
                  refine lv_iload hx hb d_Na_shared_83 (lv_at hl 8 rfl) ?_
                  refine lv_iadd hx hb d_Na_shared_85 ?_
                  refine zi_as (y := nI (np_pos ls0 ((ls0.length - min ls0.length ls1.length) + i) + j)) (nI_add (np_pos ls0 ((ls0.length - min ls0.length ls1.length) + i)) j) ?_
                  refine zg_bald hx hb hK hG 0 hb0 rfl (vp_in_nI (by omega) (by omega)) d_Na_shared_86 ?_
                  refine zi_as (y := f0 (np_pos ls0 ((ls0.length - min ls0.length ls1.length) + i) + j)) (by rw [zi_n _ (by omega)]) ?_
                  refine lv_aload_n hx hb d_Na_shared_87 rfl (lv_at hl 1 rfl) ?_
                  refine zg_get (ci := 3) (C := "ZoneAnswers$Name") (T := T_Na) (N := 2) hx hb hts zi_Na hown hK hG ha1 rfl 0 (by decide) (hts _ w_113) (fun _ h9 => h9) rfl d_Na_shared_88 ?_
                  refine lv_iload hx hb d_Na_shared_91 (lv_at hl 3 rfl) ?_
                  refine lv_iload hx hb d_Na_shared_93 (lv_at hl 8 rfl) ?_
                  refine lv_iadd hx hb d_Na_shared_95 ?_
                  refine zi_as (y := nI (np_pos ls1 ((ls1.length - min ls0.length ls1.length) + i) + j)) (nI_add (np_pos ls1 ((ls1.length - min ls0.length ls1.length) + i)) j) ?_
                  refine zg_bald hx hb hK hG 0 hb1 rfl (vp_in_nI (by omega) (by omega)) d_Na_shared_96 ?_
                  refine zi_as (y := f1 (np_pos ls1 ((ls1.length - min ls0.length ls1.length) + i) + j)) (by rw [zi_n _ (by omega)]) ?_
                  refine lv_icmp_ne (tgt := 104) hx hb d_Na_shared_97 (by decide) (fun c97 => ?_) (fun c97 => ?_)
                  · refine lv_iconst (v := 0) hx hb d_Na_shared_104 (by decide) ?_
                    refine lv_istore (lv' := [(8, .int 0), (0, .ref a0), (1, .ref a1), (3, .int (nI (np_pos ls0 ((ls0.length - min ls0.length ls1.length) + i)))), (4, .int (nI (np_pos ls1 ((ls1.length - min ls0.length ls1.length) + i)))), (5, .int (nI rn)), (6, .int (nI (min ls0.length ls1.length - i))), (7, .int (nI ((ls0.getD ((ls0.length - min ls0.length ls1.length) + i) []).length))), (9, .int (nI j))]) hx hb d_Na_shared_105 hl (by decide) rfl (fun ls hl => ?_)
                    refine lv_iinc (v := nI (j + 1)) (lv' := [(9, .int (nI (j + 1))), (8, .int 0), (0, .ref a0), (1, .ref a1), (3, .int (nI (np_pos ls0 ((ls0.length - min ls0.length ls1.length) + i)))), (4, .int (nI (np_pos ls1 ((ls1.length - min ls0.length ls1.length) + i)))), (5, .int (nI rn)), (6, .int (nI (min ls0.length ls1.length - i))), (7, .int (nI ((ls0.getD ((ls0.length - min ls0.length ls1.length) + i) []).length)))]) hx hb d_Na_shared_107 hl (k := 8) rfl (nI_add j 1) (by decide) rfl (fun ls hl => ?_)
                    refine lv_goto (tgt := 66) hx hb d_Na_shared_110 (by decide) ?_
                    exact ih (j + 1) 0 (by omega) (by omega) (by omega) (by first | exact zb.t ⟨hyes.1, zsh_t hj1 hyes.2 c97⟩ | exact zb.f (fun q => zsh_f hj1 c97 q.2)) ls (lv_sub hl [2, 3, 4, 5, 6, 7, 8, 1, 0] rfl)
                  · refine lv_iconst (v := 1) hx hb d_Na_shared_100 (by decide) ?_
                    refine lv_goto (tgt := 105) hx hb d_Na_shared_101 (by decide) ?_
                    refine lv_istore (lv' := [(8, .int 1), (0, .ref a0), (1, .ref a1), (3, .int (nI (np_pos ls0 ((ls0.length - min ls0.length ls1.length) + i)))), (4, .int (nI (np_pos ls1 ((ls1.length - min ls0.length ls1.length) + i)))), (5, .int (nI rn)), (6, .int (nI (min ls0.length ls1.length - i))), (7, .int (nI ((ls0.getD ((ls0.length - min ls0.length ls1.length) + i) []).length))), (9, .int (nI j))]) hx hb d_Na_shared_105 hl (by decide) rfl (fun ls hl => ?_)
                    refine lv_iinc (v := nI (j + 1)) (lv' := [(9, .int (nI (j + 1))), (8, .int 1), (0, .ref a0), (1, .ref a1), (3, .int (nI (np_pos ls0 ((ls0.length - min ls0.length ls1.length) + i)))), (4, .int (nI (np_pos ls1 ((ls1.length - min ls0.length ls1.length) + i)))), (5, .int (nI rn)), (6, .int (nI (min ls0.length ls1.length - i))), (7, .int (nI ((ls0.getD ((ls0.length - min ls0.length ls1.length) + i) []).length)))]) hx hb d_Na_shared_107 hl (k := 8) rfl (nI_add j 1) (by decide) rfl (fun ls hl => ?_)
                    refine lv_goto (tgt := 66) hx hb d_Na_shared_110 (by decide) ?_
                    exact ih (j + 1) 1 (by omega) (by omega) (by omega) (by first | exact zb.t ⟨hyes.1, zsh_t hj1 hyes.2 c97⟩ | exact zb.f (fun q => zsh_f hj1 c97 q.2)) ls (lv_sub hl [2, 3, 4, 5, 6, 7, 8, 1, 0] rfl)
          exact loop66 _ 1 1 (Nat.lt_succ_self _) (Nat.le_refl _) (by omega) (by first | exact zb.t ⟨b53, fun t h => absurd h (by omega)⟩ | exact zb.f (fun q => b53 q.1)) ls (lv_sub hl [3, 4, 5, 6, 7, 8, 2, 1, 0] rfl)
  exact loop31 _ 0 0 _ _ (Nat.lt_succ_self _) (Nat.zero_le _) (rfl) hG hS ls (lv_sub hl [5, 6, 3, 2, 1, 0] rfl)
abbrev rm_Zo_linkTime : Room := { frames := 2, cells := 0, slots := 0, locals := 60 }
set_option maxHeartbeats 4000000 in
set_option maxRecDepth 100000 in
/-- Zone.linkTime() -/
theorem t_Zo_linkTime (l : Launch) (E : zc_E) (G : zg_G) (a la st : Nat) (tv : Value) (rc ty ti : Int32) (dv : Value) (b0 n0 : Nat) (f0 : Nat → Int32) (h0 : G b0 = some (.inl (E.2.1 0, n0, .inl f0))) (hft : sb_Fit f0) (hn0 : n0 < 2 ^ 24) (ha : G a = some (.inr (9, [.ref la, tv, .ref st, .ref b0, .int rc]))) (hst : G st = some (.inr (5, [.int ty, .int ti, dv]))) (h20 : 20 ≤ n0) : zMi l E y_Zo_linkTime c_Zo_linkTime 2 (some .int) rm_Zo_linkTime [.ref a] G (fun (r : Int32) (G2 : zg_G) => r = (if zr4 f0 (n0 - 4) < 0 then ti else if zr4 f0 (n0 - 4) < ti then zr4 f0 (n0 - 4) else ti) ∧ G2 = G) := by
  refine zMi.of (by decide) (Nat.le_of_ble_eq_true rfl) ?_
  intro p e s m args below meth c Q hZ hG hret ls hl
  obtain ⟨hx, hb, hr, hts, hown, hlocks, hml, hnm, hbase, hK, hN, hQ⟩ := hZ
  have hl : lv_has ls 2 [(0, .ref a)] := hl
  have hS : zg_S (zc_b E) s.heap s.heap [] := va_S.rf
  refine lv_aload_n hx hb d_Zo_linkTime_0 rfl (lv_at hl 0 rfl) ?_
  refine zg_get (ci := 9) (C := "ZoneAnswers$Zone") (T := T_Zo) (N := 5) hx hb hts zi_Zo hown hK hG ha rfl 3 (by decide) (hts _ w_94) (fun _ h9 => h9) rfl d_Zo_linkTime_1 ?_
  refine lv_aload_n hx hb d_Zo_linkTime_4 rfl (lv_at hl 0 rfl) ?_
  refine zg_get (ci := 9) (C := "ZoneAnswers$Zone") (T := T_Zo) (N := 5) hx hb hts zi_Zo hown hK hG ha rfl 3 (by decide) (hts _ w_94) (fun _ h9 => h9) rfl d_Zo_linkTime_5 ?_
  refine zg_alen hx hb hK hG 0 h0 rfl (v := nI n0) rfl d_Zo_linkTime_8 ?_
  refine lv_iconst (v := 4) hx hb d_Zo_linkTime_9 (by decide) ?_
  refine lv_isub hx hb d_Zo_linkTime_10 ?_
  refine zi_as (y := nI (n0 - 4)) (zi_sub (a := n0) (b := 4) (by omega)) ?_
  refine zk_i (va_runSN (As := [.ref b0, .int (nI (n0 - 4))]) (rest := []) ⟨hx, hb, hml, hown, hts⟩ (t_ZA_readNumber l E G b0 n0 f0 h0 hft hn0 (n0 - 4) (by omega)) ⟨va_cnB 2 hts (zw_good w_723) rfl rfl rfl (zN.at hN (w := .methodLinkNest "ZoneAnswers$Zone" 55 ⟨"ZoneAnswers", "readNumber", "([BI)I"⟩ "ZoneAnswers") (by decide +kernel)) (hts _ w_1) (by decide +kernel) ⟨Nat.le_of_ble_eq_true rfl, Nat.le_of_ble_eq_true rfl⟩, hts _ w_722, trivial⟩ (zc_pre hbase hK hN hQ hG hS) rfl rfl hl.1 rfl (lv_room (Nat.le_of_ble_eq_true rfl)) d_Zo_linkTime_11 ⟨(by decide), (by decide)⟩) hS (fun r11 G11 H locs hp11 hG hS => ?_)
  have hG : zP E G H := hp11.2 ▸ hG
  refine zi_as (y := zr4 f0 (n0 - 4)) hp11.1 ?_
  refine lv_istore_n (lv' := [(1, .int (zr4 f0 (n0 - 4))), (0, .ref a)]) hx hb d_Zo_linkTime_14 rfl hl (by decide) rfl (fun ls hl => ?_)
  refine lv_iload_n hx hb d_Zo_linkTime_15 rfl (lv_at hl 0 rfl) ?_
  refine lv_if_ge (tgt := 29) hx hb d_Zo_linkTime_16 (by decide) (fun c16 => ?_) (fun c16 => ?_)
  · refine lv_aload_n hx hb d_Zo_linkTime_29 rfl (lv_at hl 1 rfl) ?_
    refine zg_get (ci := 9) (C := "ZoneAnswers$Zone") (T := T_Zo) (N := 5) hx hb hts zi_Zo hown hK hG ha rfl 2 (by decide) (hts _ w_93) (fun _ h9 => h9) rfl d_Zo_linkTime_30 ?_
    refine zg_get (ci := 5) (C := "ZoneAnswers$Rrset") (T := T_Rr) (N := 3) hx hb hts zi_Rr hown hK hG hst rfl 1 (by decide) (hts _ w_622) (fun _ h9 => h9) rfl d_Zo_linkTime_33 ?_
    refine lv_iload_n hx hb d_Zo_linkTime_36 rfl (lv_at hl 0 rfl) ?_
    refine va_mmin hx hb (hml.trans hl.1.symm) hown (hts _ w_1096) (hts _ w_183) (hts _ w_11) (hts _ w_184) (Nat.le_of_ble_eq_true rfl) (Nat.le_of_ble_eq_true rfl) (by decide) (by decide) d_Zo_linkTime_37 ?_
    exact hret _ _ _ _ _ _ _ _ _ hr (rfl) (⟨by first | rw [if_pos (Int32.not_le.mp c16)] | rw [if_neg (Int32.not_lt.mpr c16)], rfl⟩) hG hS (Nat.le_refl _) (Nat.le_refl _) d_Zo_linkTime_40
  · refine lv_aload_n hx hb d_Zo_linkTime_19 rfl (lv_at hl 1 rfl) ?_
    refine zg_get (ci := 9) (C := "ZoneAnswers$Zone") (T := T_Zo) (N := 5) hx hb hts zi_Zo hown hK hG ha rfl 2 (by decide) (hts _ w_93) (fun _ h9 => h9) rfl d_Zo_linkTime_20 ?_
    refine zg_get (ci := 5) (C := "ZoneAnswers$Rrset") (T := T_Rr) (N := 3) hx hb hts zi_Rr hown hK hG hst rfl 1 (by decide) (hts _ w_622) (fun _ h9 => h9) rfl d_Zo_linkTime_23 ?_
    refine lv_goto (tgt := 40) hx hb d_Zo_linkTime_26 (by decide) ?_
    exact hret _ _ _ _ _ _ _ _ _ hr (rfl) (⟨by first | rw [if_pos (Int32.not_le.mp c16)] | rw [if_neg (Int32.not_lt.mpr c16)], rfl⟩) hG hS (Nat.le_refl _) (Nat.le_refl _) d_Zo_linkTime_40
