def wbs (T : List Nat) (i : Nat) : Nat := if i < T.length ∧ (wws (T.take i)).2.1 = T.getD i 0 / 256 + 1 then (wws (T.take i)).2.2 - 1 else (wws (T.take i)).1.length
theorem wbs_0 (T : List Nat) : wbs T 0 = 0 := by
  unfold wbs
  rw [if_neg (fun z => absurd z.2 (by show ¬ (0 : Nat) = _; omega))]; rfl
theorem wbs_n (T : List Nat) : wbs T T.length = (wws T).1.length := by
  unfold wbs
  rw [if_neg (fun z => absurd z.1 (Nat.lt_irrefl _)), List.take_length]
theorem wbs_sz {T : List Nat} {i : Nat} (hs : wso T) (h : i < T.length) : (wws (T.take (i + 1))).2.2 = wbs T i + 1 := by
  rw [wws_take h]
  show (wpr (wws (T.take i)) (T.getD i 0)).2 = _
  unfold wbs wpr
  by_cases z : (wws (T.take i)).2.1 = T.getD i 0 / 256 + 1
  · rw [if_pos z, if_pos ⟨h, z⟩]
    show (wws (T.take i)).2.2 = _
    rcases Nat.eq_zero_or_pos i with w | w
    · rw [w] at z; exact absurd z (by show ¬ (0 : Nat) = _; omega)
    · have q := (wws_inv hs (i - 1) (by omega)).2.2
      rw [show i - 1 + 1 = i by omega] at q
      omega
  · rw [if_neg z, if_neg (fun q => z q.2)]
theorem wbs_next {T : List Nat} {i : Nat} (hs : wso T) (h : i < T.length) (hn : i + 1 = T.length ∨ ¬ T.getD (i + 1) 0 / 256 = T.getD i 0 / 256) : wbs T (i + 1) = wbs T i + (3 + T.getD i 0 % 256 / 8) := by
  have q := wws_inv hs i h
  have e : wbs T (i + 1) = (wws (T.take (i + 1))).1.length := by
    unfold wbs
    rw [if_neg]
    rintro ⟨z1, z2⟩
    rw [q.2.1] at z2
    rcases hn with w | w
    · omega
    · exact w (by omega)
  rw [e, q.1, wbs_sz hs h]; omega
theorem wbs_same {T : List Nat} {i : Nat} (hs : wso T) (h : i + 1 < T.length) (he : T.getD (i + 1) 0 / 256 = T.getD i 0 / 256) : wbs T (i + 1) = wbs T i := by
  have q := wws_inv hs i (by omega)
  have q2 := wbs_sz hs (show i < T.length by omega)
  show (if i + 1 < T.length ∧ (wws (T.take (i + 1))).2.1 = T.getD (i + 1) 0 / 256 + 1 then (wws (T.take (i + 1))).2.2 - 1 else (wws (T.take (i + 1))).1.length) = _
  rw [if_pos ⟨h, by rw [q.2.1, he]⟩, q2]; omega
theorem getD_mem {T : List Nat} {i : Nat} (h : i < T.length) : T.getD i 0 ∈ T := by
  rw [List.getD_eq_getElem?_getD, List.getElem?_eq_getElem h]; exact List.getElem_mem h
theorem wA_0 {f0 : Nat → Int32} {fr : Nat} (hz : ∀ j, fr ≤ j → f0 j = 0) : wA f0 f0 fr (fun j => (wws ([].take 0)).1.getD j 0) := by
  intro j
  by_cases z : j < fr
  · rw [if_pos z]
  · rw [if_neg z, hz j (by omega)]; rfl
abbrev c_Zo_windowsLength : ByteArray := prog_10_method_24_code
abbrev y_Zo_windowsLength : MethodName := ⟨"ZoneAnswers$Zone", "windowsLength", "([I)I"⟩
theorem d_Zo_windowsLength_0 : decode c_Zo_windowsLength 0 = .ok (.iconst 0, 1) := by decide +kernel
theorem d_Zo_windowsLength_1 : decode c_Zo_windowsLength 1 = .ok (.istore_n 1, 1) := by decide +kernel
theorem d_Zo_windowsLength_2 : decode c_Zo_windowsLength 2 = .ok (.iconst 0, 1) := by decide +kernel
theorem d_Zo_windowsLength_3 : decode c_Zo_windowsLength 3 = .ok (.istore_n 2, 1) := by decide +kernel
theorem d_Zo_windowsLength_4 : decode c_Zo_windowsLength 4 = .ok (.iload_n 2, 1) := by decide +kernel
theorem d_Zo_windowsLength_5 : decode c_Zo_windowsLength 5 = .ok (.aload_n 0, 1) := by decide +kernel
theorem d_Zo_windowsLength_6 : decode c_Zo_windowsLength 6 = .ok (.arraylength, 1) := by decide +kernel
theorem d_Zo_windowsLength_7 : decode c_Zo_windowsLength 7 = .ok (.if_icmp .ge 51, 3) := by decide +kernel
theorem d_Zo_windowsLength_10 : decode c_Zo_windowsLength 10 = .ok (.iload_n 2, 1) := by decide +kernel
theorem d_Zo_windowsLength_11 : decode c_Zo_windowsLength 11 = .ok (.iconst 1, 1) := by decide +kernel
theorem d_Zo_windowsLength_12 : decode c_Zo_windowsLength 12 = .ok (.iadd, 1) := by decide +kernel
theorem d_Zo_windowsLength_13 : decode c_Zo_windowsLength 13 = .ok (.aload_n 0, 1) := by decide +kernel
theorem d_Zo_windowsLength_14 : decode c_Zo_windowsLength 14 = .ok (.arraylength, 1) := by decide +kernel
theorem d_Zo_windowsLength_15 : decode c_Zo_windowsLength 15 = .ok (.if_icmp .eq 22, 3) := by decide +kernel
theorem d_Zo_windowsLength_18 : decode c_Zo_windowsLength 18 = .ok (.aload_n 0, 1) := by decide +kernel
theorem d_Zo_windowsLength_19 : decode c_Zo_windowsLength 19 = .ok (.iload_n 2, 1) := by decide +kernel
theorem d_Zo_windowsLength_20 : decode c_Zo_windowsLength 20 = .ok (.iconst 1, 1) := by decide +kernel
theorem d_Zo_windowsLength_21 : decode c_Zo_windowsLength 21 = .ok (.iadd, 1) := by decide +kernel
theorem d_Zo_windowsLength_22 : decode c_Zo_windowsLength 22 = .ok (.iaload, 1) := by decide +kernel
theorem d_Zo_windowsLength_23 : decode c_Zo_windowsLength 23 = .ok (.sipush 256, 3) := by decide +kernel
theorem d_Zo_windowsLength_26 : decode c_Zo_windowsLength 26 = .ok (.idiv, 1) := by decide +kernel
theorem d_Zo_windowsLength_27 : decode c_Zo_windowsLength 27 = .ok (.aload_n 0, 1) := by decide +kernel
theorem d_Zo_windowsLength_28 : decode c_Zo_windowsLength 28 = .ok (.iload_n 2, 1) := by decide +kernel
theorem d_Zo_windowsLength_29 : decode c_Zo_windowsLength 29 = .ok (.iaload, 1) := by decide +kernel
theorem d_Zo_windowsLength_30 : decode c_Zo_windowsLength 30 = .ok (.sipush 256, 3) := by decide +kernel
theorem d_Zo_windowsLength_33 : decode c_Zo_windowsLength 33 = .ok (.idiv, 1) := by decide +kernel
theorem d_Zo_windowsLength_34 : decode c_Zo_windowsLength 34 = .ok (.if_icmp .eq 18, 3) := by decide +kernel
theorem d_Zo_windowsLength_37 : decode c_Zo_windowsLength 37 = .ok (.iload_n 1, 1) := by decide +kernel
theorem d_Zo_windowsLength_38 : decode c_Zo_windowsLength 38 = .ok (.iconst 3, 1) := by decide +kernel
theorem d_Zo_windowsLength_39 : decode c_Zo_windowsLength 39 = .ok (.aload_n 0, 1) := by decide +kernel
theorem d_Zo_windowsLength_40 : decode c_Zo_windowsLength 40 = .ok (.iload_n 2, 1) := by decide +kernel
theorem d_Zo_windowsLength_41 : decode c_Zo_windowsLength 41 = .ok (.iaload, 1) := by decide +kernel
theorem d_Zo_windowsLength_42 : decode c_Zo_windowsLength 42 = .ok (.sipush 256, 3) := by decide +kernel
theorem d_Zo_windowsLength_45 : decode c_Zo_windowsLength 45 = .ok (.irem, 1) := by decide +kernel
theorem d_Zo_windowsLength_46 : decode c_Zo_windowsLength 46 = .ok (.bipush 8, 2) := by decide +kernel
theorem d_Zo_windowsLength_48 : decode c_Zo_windowsLength 48 = .ok (.idiv, 1) := by decide +kernel
theorem d_Zo_windowsLength_49 : decode c_Zo_windowsLength 49 = .ok (.iadd, 1) := by decide +kernel
theorem d_Zo_windowsLength_50 : decode c_Zo_windowsLength 50 = .ok (.iadd, 1) := by decide +kernel
theorem d_Zo_windowsLength_51 : decode c_Zo_windowsLength 51 = .ok (.istore_n 1, 1) := by decide +kernel
theorem d_Zo_windowsLength_52 : decode c_Zo_windowsLength 52 = .ok (.iinc 2 1, 3) := by decide +kernel
theorem d_Zo_windowsLength_55 : decode c_Zo_windowsLength 55 = .ok (.goto (-51), 3) := by decide +kernel
theorem d_Zo_windowsLength_58 : decode c_Zo_windowsLength 58 = .ok (.iload_n 1, 1) := by decide +kernel
theorem d_Zo_windowsLength_59 : decode c_Zo_windowsLength 59 = .ok (.ireturn, 1) := by decide +kernel
abbrev c_Zo_writeWindows : ByteArray := prog_10_method_25_code
abbrev y_Zo_writeWindows : MethodName := ⟨"ZoneAnswers$Zone", "writeWindows", "([BI[I)V"⟩
theorem d_Zo_writeWindows_0 : decode c_Zo_writeWindows 0 = .ok (.iconst (-1), 1) := by decide +kernel
theorem d_Zo_writeWindows_1 : decode c_Zo_writeWindows 1 = .ok (.istore_n 3, 1) := by decide +kernel
theorem d_Zo_writeWindows_2 : decode c_Zo_writeWindows 2 = .ok (.iload_n 1, 1) := by decide +kernel
theorem d_Zo_writeWindows_3 : decode c_Zo_writeWindows 3 = .ok (.istore 4, 2) := by decide +kernel
theorem d_Zo_writeWindows_5 : decode c_Zo_writeWindows 5 = .ok (.iload_n 1, 1) := by decide +kernel
theorem d_Zo_writeWindows_6 : decode c_Zo_writeWindows 6 = .ok (.istore 5, 2) := by decide +kernel
theorem d_Zo_writeWindows_8 : decode c_Zo_writeWindows 8 = .ok (.iconst 0, 1) := by decide +kernel
theorem d_Zo_writeWindows_9 : decode c_Zo_writeWindows 9 = .ok (.istore 6, 2) := by decide +kernel
theorem d_Zo_writeWindows_11 : decode c_Zo_writeWindows 11 = .ok (.iload 6, 2) := by decide +kernel
theorem d_Zo_writeWindows_13 : decode c_Zo_writeWindows 13 = .ok (.aload_n 2, 1) := by decide +kernel
theorem d_Zo_writeWindows_14 : decode c_Zo_writeWindows 14 = .ok (.arraylength, 1) := by decide +kernel
theorem d_Zo_writeWindows_15 : decode c_Zo_writeWindows 15 = .ok (.if_icmp .ge 98, 3) := by decide +kernel
theorem d_Zo_writeWindows_18 : decode c_Zo_writeWindows 18 = .ok (.aload_n 2, 1) := by decide +kernel
theorem d_Zo_writeWindows_19 : decode c_Zo_writeWindows 19 = .ok (.iload 6, 2) := by decide +kernel
theorem d_Zo_writeWindows_21 : decode c_Zo_writeWindows 21 = .ok (.iaload, 1) := by decide +kernel
theorem d_Zo_writeWindows_22 : decode c_Zo_writeWindows 22 = .ok (.sipush 256, 3) := by decide +kernel
theorem d_Zo_writeWindows_25 : decode c_Zo_writeWindows 25 = .ok (.idiv, 1) := by decide +kernel
theorem d_Zo_writeWindows_26 : decode c_Zo_writeWindows 26 = .ok (.iload_n 3, 1) := by decide +kernel
theorem d_Zo_writeWindows_27 : decode c_Zo_writeWindows 27 = .ok (.if_icmp .eq 24, 3) := by decide +kernel
theorem d_Zo_writeWindows_30 : decode c_Zo_writeWindows 30 = .ok (.aload_n 2, 1) := by decide +kernel
theorem d_Zo_writeWindows_31 : decode c_Zo_writeWindows 31 = .ok (.iload 6, 2) := by decide +kernel
theorem d_Zo_writeWindows_33 : decode c_Zo_writeWindows 33 = .ok (.iaload, 1) := by decide +kernel
theorem d_Zo_writeWindows_34 : decode c_Zo_writeWindows 34 = .ok (.sipush 256, 3) := by decide +kernel
theorem d_Zo_writeWindows_37 : decode c_Zo_writeWindows 37 = .ok (.idiv, 1) := by decide +kernel
theorem d_Zo_writeWindows_38 : decode c_Zo_writeWindows 38 = .ok (.istore_n 3, 1) := by decide +kernel
theorem d_Zo_writeWindows_39 : decode c_Zo_writeWindows 39 = .ok (.aload_n 0, 1) := by decide +kernel
theorem d_Zo_writeWindows_40 : decode c_Zo_writeWindows 40 = .ok (.iload 5, 2) := by decide +kernel
theorem d_Zo_writeWindows_42 : decode c_Zo_writeWindows 42 = .ok (.iload_n 3, 1) := by decide +kernel
theorem d_Zo_writeWindows_43 : decode c_Zo_writeWindows 43 = .ok (.i2b, 1) := by decide +kernel
theorem d_Zo_writeWindows_44 : decode c_Zo_writeWindows 44 = .ok (.bastore, 1) := by decide +kernel
theorem d_Zo_writeWindows_45 : decode c_Zo_writeWindows 45 = .ok (.iload 5, 2) := by decide +kernel
theorem d_Zo_writeWindows_47 : decode c_Zo_writeWindows 47 = .ok (.iconst 2, 1) := by decide +kernel
theorem d_Zo_writeWindows_48 : decode c_Zo_writeWindows 48 = .ok (.iadd, 1) := by decide +kernel
theorem d_Zo_writeWindows_49 : decode c_Zo_writeWindows 49 = .ok (.istore 4, 2) := by decide +kernel
theorem d_Zo_writeWindows_51 : decode c_Zo_writeWindows 51 = .ok (.aload_n 2, 1) := by decide +kernel
theorem d_Zo_writeWindows_52 : decode c_Zo_writeWindows 52 = .ok (.iload 6, 2) := by decide +kernel
theorem d_Zo_writeWindows_54 : decode c_Zo_writeWindows 54 = .ok (.iaload, 1) := by decide +kernel
theorem d_Zo_writeWindows_55 : decode c_Zo_writeWindows 55 = .ok (.sipush 256, 3) := by decide +kernel
theorem d_Zo_writeWindows_58 : decode c_Zo_writeWindows 58 = .ok (.irem, 1) := by decide +kernel
theorem d_Zo_writeWindows_59 : decode c_Zo_writeWindows 59 = .ok (.bipush 8, 2) := by decide +kernel
theorem d_Zo_writeWindows_61 : decode c_Zo_writeWindows 61 = .ok (.idiv, 1) := by decide +kernel
theorem d_Zo_writeWindows_62 : decode c_Zo_writeWindows 62 = .ok (.istore 7, 2) := by decide +kernel
theorem d_Zo_writeWindows_64 : decode c_Zo_writeWindows 64 = .ok (.aload_n 0, 1) := by decide +kernel
theorem d_Zo_writeWindows_65 : decode c_Zo_writeWindows 65 = .ok (.iload 4, 2) := by decide +kernel
theorem d_Zo_writeWindows_67 : decode c_Zo_writeWindows 67 = .ok (.iconst 1, 1) := by decide +kernel
theorem d_Zo_writeWindows_68 : decode c_Zo_writeWindows 68 = .ok (.isub, 1) := by decide +kernel
theorem d_Zo_writeWindows_69 : decode c_Zo_writeWindows 69 = .ok (.iload 7, 2) := by decide +kernel
theorem d_Zo_writeWindows_71 : decode c_Zo_writeWindows 71 = .ok (.iconst 1, 1) := by decide +kernel
theorem d_Zo_writeWindows_72 : decode c_Zo_writeWindows 72 = .ok (.iadd, 1) := by decide +kernel
theorem d_Zo_writeWindows_73 : decode c_Zo_writeWindows 73 = .ok (.i2b, 1) := by decide +kernel
theorem d_Zo_writeWindows_74 : decode c_Zo_writeWindows 74 = .ok (.bastore, 1) := by decide +kernel
theorem d_Zo_writeWindows_75 : decode c_Zo_writeWindows 75 = .ok (.aload_n 0, 1) := by decide +kernel
theorem d_Zo_writeWindows_76 : decode c_Zo_writeWindows 76 = .ok (.iload 4, 2) := by decide +kernel
theorem d_Zo_writeWindows_78 : decode c_Zo_writeWindows 78 = .ok (.iload 7, 2) := by decide +kernel
theorem d_Zo_writeWindows_80 : decode c_Zo_writeWindows 80 = .ok (.iadd, 1) := by decide +kernel
theorem d_Zo_writeWindows_81 : decode c_Zo_writeWindows 81 = .ok (.dup2, 1) := by decide +kernel
theorem d_Zo_writeWindows_82 : decode c_Zo_writeWindows 82 = .ok (.baload, 1) := by decide +kernel
theorem d_Zo_writeWindows_83 : decode c_Zo_writeWindows 83 = .ok (.sipush 128, 3) := by decide +kernel
theorem d_Zo_writeWindows_86 : decode c_Zo_writeWindows 86 = .ok (.aload_n 2, 1) := by decide +kernel
theorem d_Zo_writeWindows_87 : decode c_Zo_writeWindows 87 = .ok (.iload 6, 2) := by decide +kernel
theorem d_Zo_writeWindows_89 : decode c_Zo_writeWindows 89 = .ok (.iaload, 1) := by decide +kernel
theorem d_Zo_writeWindows_90 : decode c_Zo_writeWindows 90 = .ok (.bipush 8, 2) := by decide +kernel
theorem d_Zo_writeWindows_92 : decode c_Zo_writeWindows 92 = .ok (.irem, 1) := by decide +kernel
theorem d_Zo_writeWindows_93 : decode c_Zo_writeWindows 93 = .ok (.ishr, 1) := by decide +kernel
theorem d_Zo_writeWindows_94 : decode c_Zo_writeWindows 94 = .ok (.i2b, 1) := by decide +kernel
theorem d_Zo_writeWindows_95 : decode c_Zo_writeWindows 95 = .ok (.ior, 1) := by decide +kernel
theorem d_Zo_writeWindows_96 : decode c_Zo_writeWindows 96 = .ok (.i2b, 1) := by decide +kernel
theorem d_Zo_writeWindows_97 : decode c_Zo_writeWindows 97 = .ok (.bastore, 1) := by decide +kernel
theorem d_Zo_writeWindows_98 : decode c_Zo_writeWindows 98 = .ok (.iload 4, 2) := by decide +kernel
theorem d_Zo_writeWindows_100 : decode c_Zo_writeWindows 100 = .ok (.iload 7, 2) := by decide +kernel
theorem d_Zo_writeWindows_102 : decode c_Zo_writeWindows 102 = .ok (.iadd, 1) := by decide +kernel
theorem d_Zo_writeWindows_103 : decode c_Zo_writeWindows 103 = .ok (.iconst 1, 1) := by decide +kernel
theorem d_Zo_writeWindows_104 : decode c_Zo_writeWindows 104 = .ok (.iadd, 1) := by decide +kernel
theorem d_Zo_writeWindows_105 : decode c_Zo_writeWindows 105 = .ok (.istore 5, 2) := by decide +kernel
theorem d_Zo_writeWindows_107 : decode c_Zo_writeWindows 107 = .ok (.iinc 6 1, 3) := by decide +kernel
theorem d_Zo_writeWindows_110 : decode c_Zo_writeWindows 110 = .ok (.goto (-99), 3) := by decide +kernel
theorem d_Zo_writeWindows_113 : decode c_Zo_writeWindows 113 = .ok (.return_, 1) := by decide +kernel
abbrev rm_Zo_windowsLength : Room := { frames := 0, cells := 0, slots := 0, locals := 0 }
set_option maxHeartbeats 4000000 in
set_option maxRecDepth 100000 in
/-- Zone.windowsLength(types) -/
theorem t_Zo_windowsLength (l : Launch) (E : zc_E) (G : zg_G) (ta : Nat) (T : List Nat) (ft : Nat → Int32) (hta : G ta = some (.inl (E.2.1 1, T.length, .inl ft))) (hT : ∀ j, j < T.length → ft j = nI (T.getD j 0)) (hTb : ∀ t ∈ T, t < 65536) (hso : wso T) (hTn : T.length < 2 ^ 20) : zMi l E y_Zo_windowsLength c_Zo_windowsLength 3 (some .int) rm_Zo_windowsLength [.ref ta] G (fun (r : Int32) (G2 : zg_G) => r = nI (wws T).1.length ∧ G2 = G) := by
  refine zMi.of (by decide) (Nat.le_of_ble_eq_true rfl) ?_
  intro p e s m args below meth c Q hZ hG hret ls hl
  obtain ⟨hx, hb, hr, hts, hown, hlocks, hml, hnm, hbase, hK, hN, hQ⟩ := hZ
  have hl : lv_has ls 3 [(0, .ref ta)] := hl
  have hS : zg_S (zc_b E) s.heap s.heap [] := va_S.rf
  refine lv_iconst (v := 0) hx hb d_Zo_windowsLength_0 (by decide) ?_
  refine zi_as (y := nI 0) (nI_0.symm) ?_
  refine lv_istore_n (lv' := [(1, .int (nI 0)), (0, .ref ta)]) hx hb d_Zo_windowsLength_1 rfl hl (by decide) rfl (fun ls hl => ?_)
  refine lv_iconst (v := 0) hx hb d_Zo_windowsLength_2 (by decide) ?_
  refine zi_as (y := nI 0) (nI_0.symm) ?_
  refine lv_istore_n (lv' := [(2, .int (nI 0)), (1, .int (nI 0)), (0, .ref ta)]) hx hb d_Zo_windowsLength_3 rfl hl (by decide) rfl (fun ls hl => ?_)
  have loop4 : ∀ (N : Nat) (i : Nat) (kt : Nat) (H : Heap) (locs : List Loc), (T.length - i) < N → (i ≤ T.length) → (kt = wbs T i) → zP E G H → zg_S (zc_b E) s.heap H locs → ∀ (ls : Array Slot), lv_has ls 3 [(0, .ref ta), (1, .int (nI kt)), (2, .int (nI i))] → W p l e rm_Zo_windowsLength s m args below meth c H locs 0 0 Q (F0 m 4 ls []) := by
    intro N
    induction N with
    | zero =>
      intro i kt H locs hlt
      exact absurd hlt (Nat.not_lt_zero _)
    | succ N ih =>
      intro i kt H locs hlt hi hkt hG hS ls hl
      refine lv_iload_n hx hb d_Zo_windowsLength_4 rfl (lv_at hl 2 rfl) ?_
      refine lv_aload_n hx hb d_Zo_windowsLength_5 rfl (lv_at hl 0 rfl) ?_
      refine zg_alen hx hb hK hG 1 hta rfl (v := nI T.length) rfl d_Zo_windowsLength_6 ?_
      refine lv_icmp_ge (tgt := 58) hx hb d_Zo_windowsLength_7 (by decide) (fun c7 => ?_) (fun c7 => ?_)
      · have b7 : T.length ≤ i := (nI_leI (a := T.length) (b := i) (by omega) (by omega)).mp c7
        refine lv_iload_n hx hb d_Zo_windowsLength_58 rfl (lv_at hl 1 rfl) ?_
        exact hret _ _ _ _ _ _ _ _ _ hr (rfl) (⟨by rw [hkt, show i = T.length by omega, wbs_n], rfl⟩) hG hS (Nat.le_refl _) (Nat.le_refl _) d_Zo_windowsLength_59
      · have b7 : ¬ T.length ≤ i := fun q => c7 ((nI_leI (a := T.length) (b := i) (by omega) (by omega)).mpr q)
        have hin : i < T.length := by omega
        have htb := hTb _ (getD_mem hin)
        refine lv_iload_n hx hb d_Zo_windowsLength_10 rfl (lv_at hl 2 rfl) ?_
        refine lv_iconst (v := 1) hx hb d_Zo_windowsLength_11 (by decide) ?_
        refine lv_iadd hx hb d_Zo_windowsLength_12 ?_
        refine zi_as (y := nI (i + 1)) (nI_add i 1) ?_
        refine lv_aload_n hx hb d_Zo_windowsLength_13 rfl (lv_at hl 0 rfl) ?_
        refine zg_alen hx hb hK hG 1 hta rfl (v := nI T.length) rfl d_Zo_windowsLength_14 ?_
        refine lv_icmp_eq (tgt := 37) hx hb d_Zo_windowsLength_15 (by decide) (fun c15 => ?_) (fun c15 => ?_)
        · have b15 : (i + 1) = T.length := (nI_eq (a := (i + 1)) (b := T.length) (by omega) (by omega)).mp c15
          refine lv_iload_n hx hb d_Zo_windowsLength_37 rfl (lv_at hl 1 rfl) ?_
          refine lv_iconst (v := 3) hx hb d_Zo_windowsLength_38 (by decide) ?_
          refine lv_aload_n hx hb d_Zo_windowsLength_39 rfl (lv_at hl 0 rfl) ?_
          refine lv_iload_n hx hb d_Zo_windowsLength_40 rfl (lv_at hl 2 rfl) ?_
          refine zg_iald hx hb hK hG 1 hta rfl (vp_in_nI (by omega) (by omega)) d_Zo_windowsLength_41 ?_
          refine zi_as (y := nI (T.getD (i) 0)) (by rw [zi_n _ (by omega)]; exact hT _ (by omega)) ?_
          refine lv_sipush (v := 256) hx hb d_Zo_windowsLength_42 (by decide) ?_
          refine lv_irem hx hb d_Zo_windowsLength_45 (by decide) ?_
          refine zi_as (y := nI (T.getD i 0 % 256)) (zi_rem (a := T.getD i 0) (d := 256) (by omega) (by omega) (by omega)) ?_
          refine lv_bipush (v := 8) hx hb d_Zo_windowsLength_46 (by decide) ?_
          refine lv_idiv hx hb d_Zo_windowsLength_48 (by decide) ?_
          refine zi_as (y := nI (T.getD i 0 % 256 / 8)) (pk_div (a := T.getD i 0 % 256) (d := 8) (by omega) (by omega) (by omega)) ?_
          refine lv_iadd hx hb d_Zo_windowsLength_49 ?_
          refine zi_as (y := nI (3 + (T.getD i 0 % 256 / 8))) (nI_add 3 (T.getD i 0 % 256 / 8)) ?_
          refine lv_iadd hx hb d_Zo_windowsLength_50 ?_
          refine zi_as (y := nI (kt + (3 + (T.getD i 0 % 256 / 8)))) (nI_add kt (3 + (T.getD i 0 % 256 / 8))) ?_
          refine lv_istore_n (lv' := [(1, .int (nI (kt + (3 + (T.getD i 0 % 256 / 8))))), (0, .ref ta), (2, .int (nI i))]) hx hb d_Zo_windowsLength_51 rfl hl (by decide) rfl (fun ls hl => ?_)
          refine lv_iinc (v := nI (i + 1)) (lv' := [(2, .int (nI (i + 1))), (1, .int (nI (kt + (3 + (T.getD i 0 % 256 / 8))))), (0, .ref ta)]) hx hb d_Zo_windowsLength_52 hl (k := 2) rfl (nI_add i 1) (by decide) rfl (fun ls hl => ?_)
          refine lv_goto (tgt := 4) hx hb d_Zo_windowsLength_55 (by decide) ?_
          exact ih (i + 1) (kt + (3 + (T.getD i 0 % 256 / 8))) _ _ (by omega) (by omega) (by rw [hkt]; first | exact (wbs_same hso (by omega) ((nI_eq (by omega) (by omega)).mp c34)).symm | exact (wbs_next hso hin (Or.inl (by omega))).symm | exact (wbs_next hso hin (Or.inr (fun z => b34 z))).symm) hG hS ls (lv_sub hl [2, 1, 0] rfl)
        · have b15 : ¬ (i + 1) = T.length := fun q => c15 ((nI_eq (a := (i + 1)) (b := T.length) (by omega) (by omega)).mpr q)
          have hin1 : i + 1 < T.length := by omega
          have htb1 := hTb _ (getD_mem hin1)
          refine lv_aload_n hx hb d_Zo_windowsLength_18 rfl (lv_at hl 0 rfl) ?_
          refine lv_iload_n hx hb d_Zo_windowsLength_19 rfl (lv_at hl 2 rfl) ?_
          refine lv_iconst (v := 1) hx hb d_Zo_windowsLength_20 (by decide) ?_
          refine lv_iadd hx hb d_Zo_windowsLength_21 ?_
          refine zi_as (y := nI (i + 1)) (nI_add i 1) ?_
          refine zg_iald hx hb hK hG 1 hta rfl (vp_in_nI (by omega) (by omega)) d_Zo_windowsLength_22 ?_
          refine zi_as (y := nI (T.getD (i + 1) 0)) (by rw [zi_n _ (by omega)]; exact hT _ (by omega)) ?_
          refine lv_sipush (v := 256) hx hb d_Zo_windowsLength_23 (by decide) ?_
          refine lv_idiv hx hb d_Zo_windowsLength_26 (by decide) ?_
          refine zi_as (y := nI (T.getD (i + 1) 0 / 256)) (pk_div (a := T.getD (i + 1) 0) (d := 256) (by omega) (by omega) (by omega)) ?_
          refine lv_aload_n hx hb d_Zo_windowsLength_27 rfl (lv_at hl 0 rfl) ?_
          refine lv_iload_n hx hb d_Zo_windowsLength_28 rfl (lv_at hl 2 rfl) ?_
          refine zg_iald hx hb hK hG 1 hta rfl (vp_in_nI (by omega) (by omega)) d_Zo_windowsLength_29 ?_
          refine zi_as (y := nI (T.getD (i) 0)) (by rw [zi_n _ (by omega)]; exact hT _ (by omega)) ?_
          refine lv_sipush (v := 256) hx hb d_Zo_windowsLength_30 (by decide) ?_
          refine lv_idiv hx hb d_Zo_windowsLength_33 (by decide) ?_
          refine zi_as (y := nI (T.getD i 0 / 256)) (pk_div (a := T.getD i 0) (d := 256) (by omega) (by omega) (by omega)) ?_
          refine lv_icmp_eq (tgt := 52) hx hb d_Zo_windowsLength_34 (by decide) (fun c34 => ?_) (fun c34 => ?_)
          · have b34 : (T.getD (i + 1) 0 / 256) = (T.getD i 0 / 256) := (nI_eq (a := (T.getD (i + 1) 0 / 256)) (b := (T.getD i 0 / 256)) (by omega) (by omega)).mp c34
            refine lv_iinc (v := nI (i + 1)) (lv' := [(2, .int (nI (i + 1))), (0, .ref ta), (1, .int (nI kt))]) hx hb d_Zo_windowsLength_52 hl (k := 2) rfl (nI_add i 1) (by decide) rfl (fun ls hl => ?_)
            refine lv_goto (tgt := 4) hx hb d_Zo_windowsLength_55 (by decide) ?_
            exact ih (i + 1) kt _ _ (by omega) (by omega) (by rw [hkt]; first | exact (wbs_same hso (by omega) ((nI_eq (by omega) (by omega)).mp c34)).symm | exact (wbs_next hso hin (Or.inl (by omega))).symm | exact (wbs_next hso hin (Or.inr (fun z => b34 z))).symm) hG hS ls (lv_sub hl [1, 2, 0] rfl)
          · have b34 : ¬ (T.getD (i + 1) 0 / 256) = (T.getD i 0 / 256) := fun q => c34 ((nI_eq (a := (T.getD (i + 1) 0 / 256)) (b := (T.getD i 0 / 256)) (by omega) (by omega)).mpr q)
            refine lv_iload_n hx hb d_Zo_windowsLength_37 rfl (lv_at hl 1 rfl) ?_
            refine lv_iconst (v := 3) hx hb d_Zo_windowsLength_38 (by decide) ?_
            refine lv_aload_n hx hb d_Zo_windowsLength_39 rfl (lv_at hl 0 rfl) ?_
            refine lv_iload_n hx hb d_Zo_windowsLength_40 rfl (lv_at hl 2 rfl) ?_
            refine zg_iald hx hb hK hG 1 hta rfl (vp_in_nI (by omega) (by omega)) d_Zo_windowsLength_41 ?_
            refine zi_as (y := nI (T.getD (i) 0)) (by rw [zi_n _ (by omega)]; exact hT _ (by omega)) ?_
            refine lv_sipush (v := 256) hx hb d_Zo_windowsLength_42 (by decide) ?_
            refine lv_irem hx hb d_Zo_windowsLength_45 (by decide) ?_
            refine zi_as (y := nI (T.getD i 0 % 256)) (zi_rem (a := T.getD i 0) (d := 256) (by omega) (by omega) (by omega)) ?_
            refine lv_bipush (v := 8) hx hb d_Zo_windowsLength_46 (by decide) ?_
            refine lv_idiv hx hb d_Zo_windowsLength_48 (by decide) ?_
            refine zi_as (y := nI (T.getD i 0 % 256 / 8)) (pk_div (a := T.getD i 0 % 256) (d := 8) (by omega) (by omega) (by omega)) ?_
            refine lv_iadd hx hb d_Zo_windowsLength_49 ?_
            refine zi_as (y := nI (3 + (T.getD i 0 % 256 / 8))) (nI_add 3 (T.getD i 0 % 256 / 8)) ?_
            refine lv_iadd hx hb d_Zo_windowsLength_50 ?_
            refine zi_as (y := nI (kt + (3 + (T.getD i 0 % 256 / 8)))) (nI_add kt (3 + (T.getD i 0 % 256 / 8))) ?_
            refine lv_istore_n (lv' := [(1, .int (nI (kt + (3 + (T.getD i 0 % 256 / 8))))), (0, .ref ta), (2, .int (nI i))]) hx hb d_Zo_windowsLength_51 rfl hl (by decide) rfl (fun ls hl => ?_)
            refine lv_iinc (v := nI (i + 1)) (lv' := [(2, .int (nI (i + 1))), (1, .int (nI (kt + (3 + (T.getD i 0 % 256 / 8))))), (0, .ref ta)]) hx hb d_Zo_windowsLength_52 hl (k := 2) rfl (nI_add i 1) (by decide) rfl (fun ls hl => ?_)
            refine lv_goto (tgt := 4) hx hb d_Zo_windowsLength_55 (by decide) ?_
            exact ih (i + 1) (kt + (3 + (T.getD i 0 % 256 / 8))) _ _ (by omega) (by omega) (by rw [hkt]; first | exact (wbs_same hso (by omega) ((nI_eq (by omega) (by omega)).mp c34)).symm | exact (wbs_next hso hin (Or.inl (by omega))).symm | exact (wbs_next hso hin (Or.inr (fun z => b34 z))).symm) hG hS ls (lv_sub hl [2, 1, 0] rfl)
  exact loop4 _ 0 0 _ _ (Nat.lt_succ_self _) (Nat.zero_le _) ((wbs_0 T).symm) hG hS ls (lv_sub hl [2, 1, 0] rfl)
abbrev rm_Zo_writeWindows : Room := { frames := 0, cells := 0, slots := 0, locals := 0 }
set_option maxHeartbeats 4000000 in
set_option maxRecDepth 100000 in
/-- Zone.writeWindows(data, from, types) -/
theorem t_Zo_writeWindows (l : Launch) (E : zc_E) (G : zg_G) (dq fr : Nat) (f0 : Nat → Int32) (ta : Nat) (T : List Nat) (ft : Nat → Int32) (hta : G ta = some (.inl (E.2.1 1, T.length, .inl ft))) (hT : ∀ j, j < T.length → ft j = nI (T.getD j 0)) (hTb : ∀ t ∈ T, t < 65536) (hso : wso T) (hTn : T.length < 2 ^ 20) (hdq : G dq = some (.inl (E.2.1 0, fr + (wws T).1.length, .inl f0))) (hft : sb_Fit f0) (hz : ∀ j, fr ≤ j → f0 j = 0) (hNn : fr + (wws T).1.length < 2 ^ 24) (hnd0 : ta ≠ dq) : zMv l E y_Zo_writeWindows c_Zo_writeWindows 8 rm_Zo_writeWindows [.ref dq, .int (nI fr), .ref ta] G (fun (G2 : zg_G) => ∃ f2, G2 dq = some (.inl (E.2.1 0, fr + (wws T).1.length, .inl f2)) ∧ zx (fun q => q = dq) G G2 ∧ sb_Fit f2 ∧ wA f0 f2 fr (fun j => (wws T).1.getD j 0)) := by
  refine zMv.of (by decide) (Nat.le_of_ble_eq_true rfl) ?_
  intro p e s m args below meth c Q hZ hG hret ls hl
  obtain ⟨hx, hb, hr, hts, hown, hlocks, hml, hnm, hbase, hK, hN, hQ⟩ := hZ
  have hl : lv_has ls 8 [(0, .ref dq), (1, .int (nI fr)), (2, .ref ta)] := hl
  have hS : zg_S (zc_b E) s.heap s.heap [] := va_S.rf
  have hnd : ta ≠ dq := hnd0
  have hx0 : zx (fun q => q = dq) G G := zx.rf
  refine lv_iconst (v := -1) hx hb d_Zo_writeWindows_0 (by decide) ?_
  refine zi_as (y := -1) (rfl) ?_
  refine lv_istore_n (lv' := [(3, .int (-1)), (0, .ref dq), (1, .int (nI fr)), (2, .ref ta)]) hx hb d_Zo_writeWindows_1 rfl hl (by decide) rfl (fun ls hl => ?_)
  refine lv_iload_n hx hb d_Zo_writeWindows_2 rfl (lv_at hl 2 rfl) ?_
  refine lv_istore (lv' := [(4, .int (nI fr)), (3, .int (-1)), (0, .ref dq), (1, .int (nI fr)), (2, .ref ta)]) hx hb d_Zo_writeWindows_3 hl (by decide) rfl (fun ls hl => ?_)
  refine lv_iload_n hx hb d_Zo_writeWindows_5 rfl (lv_at hl 3 rfl) ?_
  refine lv_istore (lv' := [(5, .int (nI fr)), (4, .int (nI fr)), (3, .int (-1)), (0, .ref dq), (1, .int (nI fr)), (2, .ref ta)]) hx hb d_Zo_writeWindows_6 hl (by decide) rfl (fun ls hl => ?_)
  refine lv_iconst (v := 0) hx hb d_Zo_writeWindows_8 (by decide) ?_
  refine zi_as (y := nI 0) (nI_0.symm) ?_
  refine lv_istore (lv' := [(6, .int (nI 0)), (5, .int (nI fr)), (4, .int (nI fr)), (3, .int (-1)), (0, .ref dq), (1, .int (nI fr)), (2, .ref ta)]) hx hb d_Zo_writeWindows_9 hl (by decide) rfl (fun ls hl => ?_)
  have loop11 : ∀ (N : Nat) (Gv : zg_G) (i : Nat) (fd : Nat → Int32) (bt : Nat) (w3 : Int32) (H : Heap) (locs : List Loc), (T.length - i) < N → (i ≤ T.length) → (wA f0 fd fr (fun j => (wws (T.take i)).1.getD j 0)) → (sb_Fit fd) → ((wws (T.take i)).2.1 = T.getD i 0 / 256 + 1 → bt = fr + (wws (T.take i)).2.2 + 1) → (w3 = wI (wws (T.take i)).2.1 ∧ (wws (T.take i)).2.1 ≤ 300) → (bt < 2 ^ 25) → (Gv dq = some (.inl (E.2.1 0, fr + (wws T).1.length, .inl fd))) → (Gv ta = some (.inl (E.2.1 1, T.length, .inl ft))) → (zx (fun q => q = dq) G Gv) → zP E Gv H → zg_S (zc_b E) s.heap H locs → ∀ (ls : Array Slot), lv_has ls 8 [(0, .ref dq), (1, .int (nI fr)), (2, .ref ta), (3, .int w3), (4, .int (nI bt)), (5, .int (nI (fr + (wws (T.take i)).1.length))), (6, .int (nI i))] → W p l e rm_Zo_writeWindows s m args below meth c H locs 0 0 Q (F0 m 11 ls []) := by
    intro N
    induction N with
    | zero =>
      intro Gv i fd bt w3 H locs hlt
      exact absurd hlt (Nat.not_lt_zero _)
    | succ N ih =>
      intro Gv i fd bt w3 H locs hlt hi hwa hfd hbt hw3 hbb kk_dq kk_ta hxl hG hS ls hl
      have hmo0 := wws_mono (T := T) hi
      refine lv_iload hx hb d_Zo_writeWindows_11 (lv_at hl 6 rfl) ?_
      refine lv_aload_n hx hb d_Zo_writeWindows_13 rfl (lv_at hl 2 rfl) ?_
      refine zg_alen hx hb hK hG 1 kk_ta rfl (v := nI T.length) rfl d_Zo_writeWindows_14 ?_
      refine lv_icmp_ge (tgt := 113) hx hb d_Zo_writeWindows_15 (by decide) (fun c15 => ?_) (fun c15 => ?_)
      · have b15 : T.length ≤ i := (nI_leI (a := T.length) (b := i) (by omega) (by omega)).mp c15
        exact hret _ _ _ _ _ _ _ (⟨fd, kk_dq, hxl, hfd, by rw [← List.take_length (l := T), ← show i = T.length by omega]; exact hwa⟩) hG hS (Nat.le_refl _) (Nat.le_refl _) d_Zo_writeWindows_113
      · have b15 : ¬ T.length ≤ i := fun q => c15 ((nI_leI (a := T.length) (b := i) (by omega) (by omega)).mpr q)
        have hin : i < T.length := by omega
        have htb := hTb _ (getD_mem hin)
        refine lv_aload_n hx hb d_Zo_writeWindows_18 rfl (lv_at hl 2 rfl) ?_
        refine lv_iload hx hb d_Zo_writeWindows_19 (lv_at hl 6 rfl) ?_
        refine zg_iald hx hb hK hG 1 kk_ta rfl (vp_in_nI (by omega) (by omega)) d_Zo_writeWindows_21 ?_
        refine zi_as (y := nI (T.getD (i) 0)) (by rw [zi_n _ (by omega)]; exact hT _ (by omega)) ?_
        refine lv_sipush (v := 256) hx hb d_Zo_writeWindows_22 (by decide) ?_
        refine lv_idiv hx hb d_Zo_writeWindows_25 (by decide) ?_
        refine zi_as (y := nI (T.getD i 0 / 256)) (pk_div (a := T.getD i 0) (d := 256) (by omega) (by omega) (by omega)) ?_
        refine lv_iload_n hx hb d_Zo_writeWindows_26 rfl (lv_at hl 3 rfl) ?_
        refine lv_icmp_eq (tgt := 51) hx hb d_Zo_writeWindows_27 (by decide) (fun c27 => ?_) (fun c27 => ?_)
        · have hw9 : (wws (T.take i)).2.1 = T.getD i 0 / 256 + 1 := (wI_eq hw3.2 (by omega)).mp (hw3.1 ▸ c27)
          have hpr : (wws (T.take (i + 1))).2.2 = (wws (T.take i)).2.2 := by rw [wws_take hin]; show (wpr _ _).2 = _; unfold wpr; rw [if_pos hw9]
          have hln9 : (wws (T.take (i + 1))).1.length = (wws (T.take i)).2.2 + 2 + T.getD i 0 % 256 / 8 := by rw [(wws_inv hso i hin).1, hpr]
          have hmo := wws_mono (T := T) (i := i + 1) (by omega)
          have h1s := (wws_inv hso i hin).2.2
          refine lv_aload_n hx hb d_Zo_writeWindows_51 rfl (lv_at hl 2 rfl) ?_
          refine lv_iload hx hb d_Zo_writeWindows_52 (lv_at hl 6 rfl) ?_
          refine zg_iald hx hb hK hG 1 kk_ta rfl (vp_in_nI (by omega) (by omega)) d_Zo_writeWindows_54 ?_
          refine zi_as (y := nI (T.getD (i) 0)) (by rw [zi_n _ (by omega)]; exact hT _ (by omega)) ?_
          refine lv_sipush (v := 256) hx hb d_Zo_writeWindows_55 (by decide) ?_
          refine lv_irem hx hb d_Zo_writeWindows_58 (by decide) ?_
          refine zi_as (y := nI (T.getD i 0 % 256)) (zi_rem (a := T.getD i 0) (d := 256) (by omega) (by omega) (by omega)) ?_
          refine lv_bipush (v := 8) hx hb d_Zo_writeWindows_59 (by decide) ?_
          refine lv_idiv hx hb d_Zo_writeWindows_61 (by decide) ?_
          refine zi_as (y := nI (T.getD i 0 % 256 / 8)) (pk_div (a := T.getD i 0 % 256) (d := 8) (by omega) (by omega) (by omega)) ?_
          refine lv_istore (lv' := [(7, .int (nI (T.getD i 0 % 256 / 8))), (0, .ref dq), (1, .int (nI fr)), (2, .ref ta), (3, .int w3), (4, .int (nI bt)), (5, .int (nI (fr + (wws (T.take i)).1.length))), (6, .int (nI i))]) hx hb d_Zo_writeWindows_62 hl (by decide) rfl (fun ls hl => ?_)
          refine lv_aload_n hx hb d_Zo_writeWindows_64 rfl (lv_at hl 1 rfl) ?_
          refine lv_iload hx hb d_Zo_writeWindows_65 (lv_at hl 5 rfl) ?_
          refine lv_iconst (v := 1) hx hb d_Zo_writeWindows_67 (by decide) ?_
          refine lv_isub hx hb d_Zo_writeWindows_68 ?_
          refine zi_as (y := nI (fr + (wws (T.take i)).2.2)) (by rw [hbt hw9]; exact (zi_sub (a := fr + (wws (T.take i)).2.2 + 1) (b := 1) (by omega)).trans (by congr 1)) ?_
          refine lv_iload hx hb d_Zo_writeWindows_69 (lv_at hl 0 rfl) ?_
          refine lv_iconst (v := 1) hx hb d_Zo_writeWindows_71 (by decide) ?_
          refine lv_iadd hx hb d_Zo_writeWindows_72 ?_
          refine zi_as (y := nI (T.getD i 0 % 256 / 8 + 1)) (nI_add (T.getD i 0 % 256 / 8) 1) ?_
          refine lv_i2b hx hb d_Zo_writeWindows_73 rfl ?_
          refine zg_bast hx hb hK hG hS 0 kk_dq rfl (vp_in_nI (by omega) (by omega)) d_Zo_writeWindows_74 (fun H locs hG hS => ?_)
          rw [zi_n (fr + (wws (T.take i)).2.2) (by omega)] at hG
          obtain ⟨G1, eG1⟩ : ∃ z : zg_G, z = zg_up Gv dq (.inl (E.2.1 0, fr + (wws T).1.length, .inl (upd fd (fr + (wws (T.take i)).2.2) (vp_nar .byte ((nI (T.getD i 0 % 256 / 8 + 1)).toInt8.toInt32))))) := ⟨_, rfl⟩
          have hG : zP E G1 H := by rw [eG1]; exact hG
          have hx2 : zx (fun q => q = dq) G G1 := hxl.tr (by rw [eG1]; exact zx.up (rfl))
          have k3 : G1 dq = some (.inl (E.2.1 0, fr + (wws T).1.length, .inl (upd fd (fr + (wws (T.take i)).2.2) (vp_nar .byte ((nI (T.getD i 0 % 256 / 8 + 1)).toInt8.toInt32))))) := by rw [eG1]; exact zg_up_self _ _ _
          have k4 : G1 ta = some (.inl (E.2.1 1, T.length, .inl ft)) := by rw [eG1, zg_up_ne (hnd)]; exact kk_ta
          refine lv_aload_n hx hb d_Zo_writeWindows_75 rfl (lv_at hl 1 rfl) ?_
          refine lv_iload hx hb d_Zo_writeWindows_76 (lv_at hl 5 rfl) ?_
          refine lv_iload hx hb d_Zo_writeWindows_78 (lv_at hl 0 rfl) ?_
          refine lv_iadd hx hb d_Zo_writeWindows_80 ?_
          refine zi_as (y := nI (fr + ((wws (T.take i)).2.2 + 1 + T.getD i 0 % 256 / 8))) (by rw [hbt hw9, nI_add]; congr 1; omega) ?_
          refine lv_dup2_11 hx hb d_Zo_writeWindows_81 rfl rfl ?_
          refine zg_bald hx hb hK hG 0 k3 rfl (vp_in_nI (by omega) (by omega)) d_Zo_writeWindows_82 ?_
          refine zi_as (y := (upd fd (fr + (wws (T.take i)).2.2) (vp_nar .byte ((nI (T.getD i 0 % 256 / 8 + 1)).toInt8.toInt32))) (fr + ((wws (T.take i)).2.2 + 1 + T.getD i 0 % 256 / 8))) (by rw [zi_n _ (by omega)]) ?_
          refine lv_sipush (v := 128) hx hb d_Zo_writeWindows_83 (by decide) ?_
          refine lv_aload_n hx hb d_Zo_writeWindows_86 rfl (lv_at hl 3 rfl) ?_
          refine lv_iload hx hb d_Zo_writeWindows_87 (lv_at hl 7 rfl) ?_
          refine zg_iald hx hb hK hG 1 k4 rfl (vp_in_nI (by omega) (by omega)) d_Zo_writeWindows_89 ?_
          refine zi_as (y := nI (T.getD (i) 0)) (by rw [zi_n _ (by omega)]; exact hT _ (by omega)) ?_
          refine lv_bipush (v := 8) hx hb d_Zo_writeWindows_90 (by decide) ?_
          refine lv_irem hx hb d_Zo_writeWindows_92 (by decide) ?_
          refine zi_as (y := nI (T.getD i 0 % 8)) (zi_rem (a := T.getD i 0) (d := 8) (by omega) (by omega) (by omega)) ?_
          refine lv_ishr hx hb d_Zo_writeWindows_93 ?_
          refine lv_i2b hx hb d_Zo_writeWindows_94 rfl ?_
          refine lv_ior hx hb d_Zo_writeWindows_95 ?_
          refine lv_i2b hx hb d_Zo_writeWindows_96 rfl ?_
          refine zg_bast hx hb hK hG hS 0 k3 rfl (vp_in_nI (by omega) (by omega)) d_Zo_writeWindows_97 (fun H locs hG hS => ?_)
          rw [zi_n (fr + ((wws (T.take i)).2.2 + 1 + T.getD i 0 % 256 / 8)) (by omega)] at hG
          obtain ⟨G5, eG5⟩ : ∃ z : zg_G, z = zg_up G1 dq (.inl (E.2.1 0, fr + (wws T).1.length, .inl (upd (upd fd (fr + (wws (T.take i)).2.2) (vp_nar .byte ((nI (T.getD i 0 % 256 / 8 + 1)).toInt8.toInt32))) (fr + ((wws (T.take i)).2.2 + 1 + T.getD i 0 % 256 / 8)) (vp_nar .byte ((((upd fd (fr + (wws (T.take i)).2.2) (vp_nar .byte ((nI (T.getD i 0 % 256 / 8 + 1)).toInt8.toInt32))) (fr + ((wws (T.take i)).2.2 + 1 + T.getD i 0 % 256 / 8))) ||| ((128 >>> ((nI (T.getD i 0 % 8)) &&& 31)).toInt8.toInt32)).toInt8.toInt32))))) := ⟨_, rfl⟩
          have hG : zP E G5 H := by rw [eG5]; exact hG
          have hx6 : zx (fun q => q = dq) G G5 := hx2.tr (by rw [eG5]; exact zx.up (rfl))
          have k7 : G5 dq = some (.inl (E.2.1 0, fr + (wws T).1.length, .inl (upd (upd fd (fr + (wws (T.take i)).2.2) (vp_nar .byte ((nI (T.getD i 0 % 256 / 8 + 1)).toInt8.toInt32))) (fr + ((wws (T.take i)).2.2 + 1 + T.getD i 0 % 256 / 8)) (vp_nar .byte ((((upd fd (fr + (wws (T.take i)).2.2) (vp_nar .byte ((nI (T.getD i 0 % 256 / 8 + 1)).toInt8.toInt32))) (fr + ((wws (T.take i)).2.2 + 1 + T.getD i 0 % 256 / 8))) ||| ((128 >>> ((nI (T.getD i 0 % 8)) &&& 31)).toInt8.toInt32)).toInt8.toInt32))))) := by rw [eG5]; exact zg_up_self _ _ _
          have k8 : G5 ta = some (.inl (E.2.1 1, T.length, .inl ft)) := by rw [eG5, zg_up_ne (hnd)]; exact k4
          refine lv_iload hx hb d_Zo_writeWindows_98 (lv_at hl 5 rfl) ?_
          refine lv_iload hx hb d_Zo_writeWindows_100 (lv_at hl 0 rfl) ?_
          refine lv_iadd hx hb d_Zo_writeWindows_102 ?_
          refine zi_as (y := nI (fr + ((wws (T.take i)).2.2 + 1 + T.getD i 0 % 256 / 8))) (by rw [hbt hw9, nI_add]; congr 1; omega) ?_
          refine lv_iconst (v := 1) hx hb d_Zo_writeWindows_103 (by decide) ?_
          refine lv_iadd hx hb d_Zo_writeWindows_104 ?_
          refine zi_as (y := nI (fr + (wws (T.take (i + 1))).1.length)) (by rw [hln9]; rw [show nI (fr + ((wws (T.take i)).2.2 + 1 + T.getD i 0 % 256 / 8)) + 1 = nI (fr + ((wws (T.take i)).2.2 + 1 + T.getD i 0 % 256 / 8)) + nI 1 from rfl, nI_add]; congr 1; omega) ?_
          refine lv_istore (lv' := [(5, .int (nI (fr + (wws (T.take (i + 1))).1.length))), (7, .int (nI (T.getD i 0 % 256 / 8))), (0, .ref dq), (1, .int (nI fr)), (2, .ref ta), (3, .int w3), (4, .int (nI bt)), (6, .int (nI i))]) hx hb d_Zo_writeWindows_105 hl (by decide) rfl (fun ls hl => ?_)
          refine lv_iinc (v := nI (i + 1)) (lv' := [(6, .int (nI (i + 1))), (5, .int (nI (fr + (wws (T.take (i + 1))).1.length))), (7, .int (nI (T.getD i 0 % 256 / 8))), (0, .ref dq), (1, .int (nI fr)), (2, .ref ta), (3, .int w3), (4, .int (nI bt))]) hx hb d_Zo_writeWindows_107 hl (k := 7) rfl (nI_add i 1) (by decide) rfl (fun ls hl => ?_)
          refine lv_goto (tgt := 11) hx hb d_Zo_writeWindows_110 (by decide) ?_
          have hwn : (wws (T.take (i + 1))).2.1 = T.getD i 0 / 256 + 1 := (wws_inv hso i hin).2.1
          exact ih G5 (i + 1) (upd (upd fd (fr + (wws (T.take i)).2.2) (vp_nar .byte ((nI (T.getD i 0 % 256 / 8 + 1)).toInt8.toInt32))) (fr + ((wws (T.take i)).2.2 + 1 + T.getD i 0 % 256 / 8)) (vp_nar .byte ((((upd fd (fr + (wws (T.take i)).2.2) (vp_nar .byte ((nI (T.getD i 0 % 256 / 8 + 1)).toInt8.toInt32))) (fr + ((wws (T.take i)).2.2 + 1 + T.getD i 0 % 256 / 8))) ||| ((128 >>> ((nI (T.getD i 0 % 8)) &&& 31)).toInt8.toInt32)).toInt8.toInt32))) bt w3 _ _ (by omega) (by omega) (by rw [wws_take hin]; exact wA_old hwa hw9) (zf_fitu (zf_fitu hfd)) (fun _ => by omega) (⟨by rw [hwn, hw3.1, hw9], by omega⟩) (by omega) (k7) (k8) (hx6) hG hS ls (lv_sub hl [3, 4, 5, 6, 7, 1, 0] rfl)
        · have hw9 : ¬ (wws (T.take i)).2.1 = T.getD i 0 / 256 + 1 := fun z => c27 (by rw [hw3.1]; exact (wI_eq hw3.2 (by omega)).mpr z)
          have hpr : (wws (T.take (i + 1))).2.2 = (wws (T.take i)).1.length + 1 := by rw [wws_take hin]; show (wpr _ _).2 = _; unfold wpr; rw [if_neg hw9]
          have hln9 : (wws (T.take (i + 1))).1.length = (wws (T.take i)).1.length + 1 + 2 + T.getD i 0 % 256 / 8 := by rw [(wws_inv hso i hin).1, hpr]
          have hmo := wws_mono (T := T) (i := i + 1) (by omega)
          refine lv_aload_n hx hb d_Zo_writeWindows_30 rfl (lv_at hl 2 rfl) ?_
          refine lv_iload hx hb d_Zo_writeWindows_31 (lv_at hl 6 rfl) ?_
          refine zg_iald hx hb hK hG 1 kk_ta rfl (vp_in_nI (by omega) (by omega)) d_Zo_writeWindows_33 ?_
          refine zi_as (y := nI (T.getD (i) 0)) (by rw [zi_n _ (by omega)]; exact hT _ (by omega)) ?_
          refine lv_sipush (v := 256) hx hb d_Zo_writeWindows_34 (by decide) ?_
          refine lv_idiv hx hb d_Zo_writeWindows_37 (by decide) ?_
          refine zi_as (y := nI (T.getD i 0 / 256)) (pk_div (a := T.getD i 0) (d := 256) (by omega) (by omega) (by omega)) ?_
          refine lv_istore_n (lv' := [(3, .int (nI (T.getD i 0 / 256))), (0, .ref dq), (1, .int (nI fr)), (2, .ref ta), (4, .int (nI bt)), (5, .int (nI (fr + (wws (T.take i)).1.length))), (6, .int (nI i))]) hx hb d_Zo_writeWindows_38 rfl hl (by decide) rfl (fun ls hl => ?_)
          refine lv_aload_n hx hb d_Zo_writeWindows_39 rfl (lv_at hl 1 rfl) ?_
          refine lv_iload hx hb d_Zo_writeWindows_40 (lv_at hl 5 rfl) ?_
          refine lv_iload_n hx hb d_Zo_writeWindows_42 rfl (lv_at hl 0 rfl) ?_
          refine lv_i2b hx hb d_Zo_writeWindows_43 rfl ?_
          refine zg_bast hx hb hK hG hS 0 kk_dq rfl (vp_in_nI (by omega) (by omega)) d_Zo_writeWindows_44 (fun H locs hG hS => ?_)
          rw [zi_n (fr + (wws (T.take i)).1.length) (by omega)] at hG
          obtain ⟨G9, eG9⟩ : ∃ z : zg_G, z = zg_up Gv dq (.inl (E.2.1 0, fr + (wws T).1.length, .inl (upd fd (fr + (wws (T.take i)).1.length) (vp_nar .byte ((nI (T.getD i 0 / 256)).toInt8.toInt32))))) := ⟨_, rfl⟩
          have hG : zP E G9 H := by rw [eG9]; exact hG
          have hx10 : zx (fun q => q = dq) G G9 := hxl.tr (by rw [eG9]; exact zx.up (rfl))
          have k11 : G9 dq = some (.inl (E.2.1 0, fr + (wws T).1.length, .inl (upd fd (fr + (wws (T.take i)).1.length) (vp_nar .byte ((nI (T.getD i 0 / 256)).toInt8.toInt32))))) := by rw [eG9]; exact zg_up_self _ _ _
          have k12 : G9 ta = some (.inl (E.2.1 1, T.length, .inl ft)) := by rw [eG9, zg_up_ne (hnd)]; exact kk_ta
          refine lv_iload hx hb d_Zo_writeWindows_45 (lv_at hl 5 rfl) ?_
          refine lv_iconst (v := 2) hx hb d_Zo_writeWindows_47 (by decide) ?_
          refine lv_iadd hx hb d_Zo_writeWindows_48 ?_
          refine zi_as (y := nI (fr + (wws (T.take i)).1.length + 2)) (nI_add (fr + (wws (T.take i)).1.length) 2) ?_
          refine lv_istore (lv' := [(4, .int (nI (fr + (wws (T.take i)).1.length + 2))), (3, .int (nI (T.getD i 0 / 256))), (0, .ref dq), (1, .int (nI fr)), (2, .ref ta), (5, .int (nI (fr + (wws (T.take i)).1.length))), (6, .int (nI i))]) hx hb d_Zo_writeWindows_49 hl (by decide) rfl (fun ls hl => ?_)
          refine lv_aload_n hx hb d_Zo_writeWindows_51 rfl (lv_at hl 4 rfl) ?_
          refine lv_iload hx hb d_Zo_writeWindows_52 (lv_at hl 6 rfl) ?_
          refine zg_iald hx hb hK hG 1 k12 rfl (vp_in_nI (by omega) (by omega)) d_Zo_writeWindows_54 ?_
          refine zi_as (y := nI (T.getD (i) 0)) (by rw [zi_n _ (by omega)]; exact hT _ (by omega)) ?_
          refine lv_sipush (v := 256) hx hb d_Zo_writeWindows_55 (by decide) ?_
          refine lv_irem hx hb d_Zo_writeWindows_58 (by decide) ?_
          refine zi_as (y := nI (T.getD i 0 % 256)) (zi_rem (a := T.getD i 0) (d := 256) (by omega) (by omega) (by omega)) ?_
          refine lv_bipush (v := 8) hx hb d_Zo_writeWindows_59 (by decide) ?_
          refine lv_idiv hx hb d_Zo_writeWindows_61 (by decide) ?_
          refine zi_as (y := nI (T.getD i 0 % 256 / 8)) (pk_div (a := T.getD i 0 % 256) (d := 8) (by omega) (by omega) (by omega)) ?_
          refine lv_istore (lv' := [(7, .int (nI (T.getD i 0 % 256 / 8))), (4, .int (nI (fr + (wws (T.take i)).1.length + 2))), (3, .int (nI (T.getD i 0 / 256))), (0, .ref dq), (1, .int (nI fr)), (2, .ref ta), (5, .int (nI (fr + (wws (T.take i)).1.length))), (6, .int (nI i))]) hx hb d_Zo_writeWindows_62 hl (by decide) rfl (fun ls hl => ?_)
          refine lv_aload_n hx hb d_Zo_writeWindows_64 rfl (lv_at hl 3 rfl) ?_
          refine lv_iload hx hb d_Zo_writeWindows_65 (lv_at hl 1 rfl) ?_
          refine lv_iconst (v := 1) hx hb d_Zo_writeWindows_67 (by decide) ?_
          refine lv_isub hx hb d_Zo_writeWindows_68 ?_
          refine zi_as (y := nI (fr + ((wws (T.take i)).1.length + 1))) (by rw [show fr + (wws (T.take i)).1.length + 2 = fr + ((wws (T.take i)).1.length + 1) + 1 by omega]; exact (zi_sub (a := fr + ((wws (T.take i)).1.length + 1) + 1) (b := 1) (by omega)).trans (by congr 1)) ?_
          refine lv_iload hx hb d_Zo_writeWindows_69 (lv_at hl 0 rfl) ?_
          refine lv_iconst (v := 1) hx hb d_Zo_writeWindows_71 (by decide) ?_
          refine lv_iadd hx hb d_Zo_writeWindows_72 ?_
          refine zi_as (y := nI (T.getD i 0 % 256 / 8 + 1)) (nI_add (T.getD i 0 % 256 / 8) 1) ?_
          refine lv_i2b hx hb d_Zo_writeWindows_73 rfl ?_
          refine zg_bast hx hb hK hG hS 0 k11 rfl (vp_in_nI (by omega) (by omega)) d_Zo_writeWindows_74 (fun H locs hG hS => ?_)
          rw [zi_n (fr + ((wws (T.take i)).1.length + 1)) (by omega)] at hG
          obtain ⟨G13, eG13⟩ : ∃ z : zg_G, z = zg_up G9 dq (.inl (E.2.1 0, fr + (wws T).1.length, .inl (upd (upd fd (fr + (wws (T.take i)).1.length) (vp_nar .byte ((nI (T.getD i 0 / 256)).toInt8.toInt32))) (fr + ((wws (T.take i)).1.length + 1)) (vp_nar .byte ((nI (T.getD i 0 % 256 / 8 + 1)).toInt8.toInt32))))) := ⟨_, rfl⟩
          have hG : zP E G13 H := by rw [eG13]; exact hG
          have hx14 : zx (fun q => q = dq) G G13 := hx10.tr (by rw [eG13]; exact zx.up (rfl))
          have k15 : G13 dq = some (.inl (E.2.1 0, fr + (wws T).1.length, .inl (upd (upd fd (fr + (wws (T.take i)).1.length) (vp_nar .byte ((nI (T.getD i 0 / 256)).toInt8.toInt32))) (fr + ((wws (T.take i)).1.length + 1)) (vp_nar .byte ((nI (T.getD i 0 % 256 / 8 + 1)).toInt8.toInt32))))) := by rw [eG13]; exact zg_up_self _ _ _
          have k16 : G13 ta = some (.inl (E.2.1 1, T.length, .inl ft)) := by rw [eG13, zg_up_ne (hnd)]; exact k12
          refine lv_aload_n hx hb d_Zo_writeWindows_75 rfl (lv_at hl 3 rfl) ?_
          refine lv_iload hx hb d_Zo_writeWindows_76 (lv_at hl 1 rfl) ?_
          refine lv_iload hx hb d_Zo_writeWindows_78 (lv_at hl 0 rfl) ?_
          refine lv_iadd hx hb d_Zo_writeWindows_80 ?_
          refine zi_as (y := nI (fr + ((wws (T.take i)).1.length + 1 + 1 + T.getD i 0 % 256 / 8))) (by rw [nI_add]; congr 1; omega) ?_
          refine lv_dup2_11 hx hb d_Zo_writeWindows_81 rfl rfl ?_
          refine zg_bald hx hb hK hG 0 k15 rfl (vp_in_nI (by omega) (by omega)) d_Zo_writeWindows_82 ?_
          refine zi_as (y := (upd (upd fd (fr + (wws (T.take i)).1.length) (vp_nar .byte ((nI (T.getD i 0 / 256)).toInt8.toInt32))) (fr + ((wws (T.take i)).1.length + 1)) (vp_nar .byte ((nI (T.getD i 0 % 256 / 8 + 1)).toInt8.toInt32))) (fr + ((wws (T.take i)).1.length + 1 + 1 + T.getD i 0 % 256 / 8))) (by rw [zi_n _ (by omega)]) ?_
          refine lv_sipush (v := 128) hx hb d_Zo_writeWindows_83 (by decide) ?_
          refine lv_aload_n hx hb d_Zo_writeWindows_86 rfl (lv_at hl 5 rfl) ?_
          refine lv_iload hx hb d_Zo_writeWindows_87 (lv_at hl 7 rfl) ?_
          refine zg_iald hx hb hK hG 1 k16 rfl (vp_in_nI (by omega) (by omega)) d_Zo_writeWindows_89 ?_
          refine zi_as (y := nI (T.getD (i) 0)) (by rw [zi_n _ (by omega)]; exact hT _ (by omega)) ?_
          refine lv_bipush (v := 8) hx hb d_Zo_writeWindows_90 (by decide) ?_
          refine lv_irem hx hb d_Zo_writeWindows_92 (by decide) ?_
          refine zi_as (y := nI (T.getD i 0 % 8)) (zi_rem (a := T.getD i 0) (d := 8) (by omega) (by omega) (by omega)) ?_
          refine lv_ishr hx hb d_Zo_writeWindows_93 ?_
          refine lv_i2b hx hb d_Zo_writeWindows_94 rfl ?_
          refine lv_ior hx hb d_Zo_writeWindows_95 ?_
          refine lv_i2b hx hb d_Zo_writeWindows_96 rfl ?_
          refine zg_bast hx hb hK hG hS 0 k15 rfl (vp_in_nI (by omega) (by omega)) d_Zo_writeWindows_97 (fun H locs hG hS => ?_)
          rw [zi_n (fr + ((wws (T.take i)).1.length + 1 + 1 + T.getD i 0 % 256 / 8)) (by omega)] at hG
          obtain ⟨G17, eG17⟩ : ∃ z : zg_G, z = zg_up G13 dq (.inl (E.2.1 0, fr + (wws T).1.length, .inl (upd (upd (upd fd (fr + (wws (T.take i)).1.length) (vp_nar .byte ((nI (T.getD i 0 / 256)).toInt8.toInt32))) (fr + ((wws (T.take i)).1.length + 1)) (vp_nar .byte ((nI (T.getD i 0 % 256 / 8 + 1)).toInt8.toInt32))) (fr + ((wws (T.take i)).1.length + 1 + 1 + T.getD i 0 % 256 / 8)) (vp_nar .byte ((((upd (upd fd (fr + (wws (T.take i)).1.length) (vp_nar .byte ((nI (T.getD i 0 / 256)).toInt8.toInt32))) (fr + ((wws (T.take i)).1.length + 1)) (vp_nar .byte ((nI (T.getD i 0 % 256 / 8 + 1)).toInt8.toInt32))) (fr + ((wws (T.take i)).1.length + 1 + 1 + T.getD i 0 % 256 / 8))) ||| ((128 >>> ((nI (T.getD i 0 % 8)) &&& 31)).toInt8.toInt32)).toInt8.toInt32))))) := ⟨_, rfl⟩
          have hG : zP E G17 H := by rw [eG17]; exact hG
          have hx18 : zx (fun q => q = dq) G G17 := hx14.tr (by rw [eG17]; exact zx.up (rfl))
          have k19 : G17 dq = some (.inl (E.2.1 0, fr + (wws T).1.length, .inl (upd (upd (upd fd (fr + (wws (T.take i)).1.length) (vp_nar .byte ((nI (T.getD i 0 / 256)).toInt8.toInt32))) (fr + ((wws (T.take i)).1.length + 1)) (vp_nar .byte ((nI (T.getD i 0 % 256 / 8 + 1)).toInt8.toInt32))) (fr + ((wws (T.take i)).1.length + 1 + 1 + T.getD i 0 % 256 / 8)) (vp_nar .byte ((((upd (upd fd (fr + (wws (T.take i)).1.length) (vp_nar .byte ((nI (T.getD i 0 / 256)).toInt8.toInt32))) (fr + ((wws (T.take i)).1.length + 1)) (vp_nar .byte ((nI (T.getD i 0 % 256 / 8 + 1)).toInt8.toInt32))) (fr + ((wws (T.take i)).1.length + 1 + 1 + T.getD i 0 % 256 / 8))) ||| ((128 >>> ((nI (T.getD i 0 % 8)) &&& 31)).toInt8.toInt32)).toInt8.toInt32))))) := by rw [eG17]; exact zg_up_self _ _ _
          have k20 : G17 ta = some (.inl (E.2.1 1, T.length, .inl ft)) := by rw [eG17, zg_up_ne (hnd)]; exact k16
          refine lv_iload hx hb d_Zo_writeWindows_98 (lv_at hl 1 rfl) ?_
          refine lv_iload hx hb d_Zo_writeWindows_100 (lv_at hl 0 rfl) ?_
          refine lv_iadd hx hb d_Zo_writeWindows_102 ?_
          refine zi_as (y := nI (fr + ((wws (T.take i)).1.length + 1 + 1 + T.getD i 0 % 256 / 8))) (by rw [nI_add]; congr 1; omega) ?_
          refine lv_iconst (v := 1) hx hb d_Zo_writeWindows_103 (by decide) ?_
          refine lv_iadd hx hb d_Zo_writeWindows_104 ?_
          refine zi_as (y := nI (fr + (wws (T.take (i + 1))).1.length)) (by rw [hln9]; rw [show nI (fr + ((wws (T.take i)).1.length + 1 + 1 + T.getD i 0 % 256 / 8)) + 1 = nI (fr + ((wws (T.take i)).1.length + 1 + 1 + T.getD i 0 % 256 / 8)) + nI 1 from rfl, nI_add]; congr 1; omega) ?_
          refine lv_istore (lv' := [(5, .int (nI (fr + (wws (T.take (i + 1))).1.length))), (7, .int (nI (T.getD i 0 % 256 / 8))), (4, .int (nI (fr + (wws (T.take i)).1.length + 2))), (3, .int (nI (T.getD i 0 / 256))), (0, .ref dq), (1, .int (nI fr)), (2, .ref ta), (6, .int (nI i))]) hx hb d_Zo_writeWindows_105 hl (by decide) rfl (fun ls hl => ?_)
          refine lv_iinc (v := nI (i + 1)) (lv' := [(6, .int (nI (i + 1))), (5, .int (nI (fr + (wws (T.take (i + 1))).1.length))), (7, .int (nI (T.getD i 0 % 256 / 8))), (4, .int (nI (fr + (wws (T.take i)).1.length + 2))), (3, .int (nI (T.getD i 0 / 256))), (0, .ref dq), (1, .int (nI fr)), (2, .ref ta)]) hx hb d_Zo_writeWindows_107 hl (k := 7) rfl (nI_add i 1) (by decide) rfl (fun ls hl => ?_)
          refine lv_goto (tgt := 11) hx hb d_Zo_writeWindows_110 (by decide) ?_
          have hwn : (wws (T.take (i + 1))).2.1 = T.getD i 0 / 256 + 1 := (wws_inv hso i hin).2.1
          exact ih G17 (i + 1) (upd (upd (upd fd (fr + (wws (T.take i)).1.length) (vp_nar .byte ((nI (T.getD i 0 / 256)).toInt8.toInt32))) (fr + ((wws (T.take i)).1.length + 1)) (vp_nar .byte ((nI (T.getD i 0 % 256 / 8 + 1)).toInt8.toInt32))) (fr + ((wws (T.take i)).1.length + 1 + 1 + T.getD i 0 % 256 / 8)) (vp_nar .byte ((((upd (upd fd (fr + (wws (T.take i)).1.length) (vp_nar .byte ((nI (T.getD i 0 / 256)).toInt8.toInt32))) (fr + ((wws (T.take i)).1.length + 1)) (vp_nar .byte ((nI (T.getD i 0 % 256 / 8 + 1)).toInt8.toInt32))) (fr + ((wws (T.take i)).1.length + 1 + 1 + T.getD i 0 % 256 / 8))) ||| ((128 >>> ((nI (T.getD i 0 % 8)) &&& 31)).toInt8.toInt32)).toInt8.toInt32))) (fr + (wws (T.take i)).1.length + 2) (nI (T.getD i 0 / 256)) _ _ (by omega) (by omega) (by rw [wws_take hin]; exact wA_new hwa hw9) (zf_fitu (zf_fitu (zf_fitu hfd))) (fun _ => by omega) (⟨by rw [hwn]; rfl, by omega⟩) (by omega) (k19) (k20) (hx18) hG hS ls (lv_sub hl [5, 6, 7, 4, 3, 1, 0] rfl)
  exact loop11 _ G 0 f0 fr (-1) _ _ (Nat.lt_succ_self _) (Nat.zero_le _) (wA_0 hz) (hft) (fun z => absurd z (by show ¬ (0 : Nat) = _; omega)) (⟨rfl, by show (0 : Nat) ≤ 300; decide⟩) (by omega) (hdq) (hta) (hx0) hG hS ls (lv_sub hl [4, 5, 6, 3, 2, 1, 0] rfl)
