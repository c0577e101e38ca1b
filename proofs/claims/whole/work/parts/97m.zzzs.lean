/-! THE REFERENCE: what a name has -/
def rTn (e : zRt) : Nat := (rT e).toNatClampNeg
theorem rTn_eq {lo : np_N} {rs : List zRt} (h : rGd lo rs) {e : zRt} (he : e ∈ rs) : rT e = nI (rTn e) ∧ rTn e < 65536 ∧ 0 < rTn e := by
  obtain ⟨-, -, -, h1, h2, -⟩ := h.2.2.2.2.2.2 e he
  obtain ⟨t, ht, e1⟩ := nI_of (x := rT e) (Int32.not_lt.mpr (Int32.le_trans (by decide) h1))
  unfold rTn
  rw [e1] at h1 h2 ⊢
  rw [zi_n _ ht]
  exact ⟨rfl, by have := (nI_leI (b := 65535) ht (by decide)).mp h2; omega, (nI_leI (a := 1) (by decide) ht).mp h1⟩
def rBs (rs : List zRt) (f : np_N) (u i bs : Nat) : Prop := (bs = 65536 ∧ ∀ j, j < i → rM (re rs j) = f → ¬ u < rTn (re rs j)) ∨ (bs < 65536 ∧ u < bs ∧ (∃ j, j < i ∧ rM (re rs j) = f ∧ rTn (re rs j) = bs) ∧ ∀ j, j < i → rM (re rs j) = f → u < rTn (re rs j) → bs ≤ rTn (re rs j))
theorem rBs_0 {rs : List zRt} {f : np_N} {u : Nat} : rBs rs f u 0 65536 := Or.inl ⟨rfl, fun j hj => absurd hj (Nat.not_lt_zero j)⟩
theorem rBs_n {rs : List zRt} {f : np_N} {u i bs : Nat} (h : rBs rs f u i bs) (hl : rTn (re rs i) < 65536) (hn : rM (re rs i) = f → u < rTn (re rs i) → bs ≤ rTn (re rs i)) : rBs rs f u (i + 1) bs := by
  rcases h with ⟨e, h⟩ | ⟨h1, h2, ⟨j, j1, j2, j3⟩, h4⟩
  · refine Or.inl ⟨e, fun j hj hm hu => ?_⟩
    rcases Nat.lt_or_ge j i with q | q
    · exact h j q hm hu
    · rw [show j = i by omega] at hm hu
      have := hn hm hu
      omega
  · refine Or.inr ⟨h1, h2, ⟨j, by omega, j2, j3⟩, fun j hj hm hu => ?_⟩
    rcases Nat.lt_or_ge j i with q | q
    · exact h4 j q hm hu
    · rw [show j = i by omega] at hm hu ⊢
      exact hn hm hu
theorem rBs_y {rs : List zRt} {f : np_N} {u i bs : Nat} (h : rBs rs f u i bs) (hl : rTn (re rs i) < 65536) (hm : rM (re rs i) = f) (hu : u < rTn (re rs i)) (hb : rTn (re rs i) < bs) : rBs rs f u (i + 1) (rTn (re rs i)) := by
  refine Or.inr ⟨hl, hu, ⟨i, by omega, hm, rfl⟩, fun j hj hm2 hu2 => ?_⟩
  rcases Nat.lt_or_ge j i with q | q
  · rcases h with ⟨e, h⟩ | ⟨h1, h2, -, h4⟩
    · exact absurd hu2 (h j q hm2)
    · have := h4 j q hm2 hu2; omega
  · rw [show j = i by omega]; exact Nat.le_refl _
theorem rVf_n {lo : np_N} {rs : List zRt} (h : rGd lo rs) {f : np_N} {t : Nat} (ht : t < 65536) : rVf rs f (nI t) ≠ [] ↔ ∃ j, j < rs.length ∧ rM (re rs j) = f ∧ rTn (re rs j) = t := by
  rw [rVf_ne]
  constructor
  · rintro ⟨e, he, e1, e2⟩
    obtain ⟨j, hj, rfl⟩ := re_ix he
    refine ⟨j, hj, e2, ?_⟩
    unfold rTn
    rw [e1, zi_n _ (by omega)]
  · rintro ⟨j, hj, e1, e2⟩
    exact ⟨_, re_mem hj, by rw [(rTn_eq h (re_mem hj)).1, e2], e1⟩
theorem rTp_b {lo : np_N} {rs : List zRt} (h : rGd lo rs) {f : np_N} {u bs : Nat} {T : List Nat} (hT : rTp (fun t => rVf rs f t ≠ []) u T) (hb : rBs rs f u rs.length bs) (hl : bs < 65536) : rTp (fun t => rVf rs f t ≠ []) bs (T ++ [bs]) ∧ u < bs ∧ rVf rs f (nI bs) ≠ [] := by
  rcases hb with ⟨e, -⟩ | ⟨h1, h2, h3, h4⟩
  · omega
  · have hp : rVf rs f (nI bs) ≠ [] := (rVf_n h h1).mpr h3
    refine ⟨⟨wso_snoc hT.1 (fun s hs => by have := ((hT.2 s).mp hs).2.2; omega), fun t => ?_⟩, h2, hp⟩
    rw [List.mem_append, List.mem_singleton, hT.2]
    constructor
    · rintro (⟨a1, a2, a3⟩ | rfl)
      · exact ⟨a1, a2, by omega⟩
      · exact ⟨h1, hp, Nat.le_refl _⟩
    · rintro ⟨a1, a2, a3⟩
      rcases Nat.lt_or_ge u t with q | q
      · obtain ⟨j, j1, j2, j3⟩ := (rVf_n h a1).mp a2
        have := h4 j j1 j2 (by omega)
        exact Or.inr (by omega)
      · exact Or.inl ⟨a1, a2, q⟩
theorem rTp_z {lo : np_N} {rs : List zRt} (h : rGd lo rs) {f : np_N} {u : Nat} {T : List Nat} (hT : rTp (fun t => rVf rs f t ≠ []) u T) (hb : rBs rs f u rs.length 65536) (hu : u ≤ 65536) : rTp (fun t => rVf rs f t ≠ []) 65536 T := by
  refine ⟨hT.1, fun t => ?_⟩
  rw [hT.2]
  constructor
  · rintro ⟨a1, a2, a3⟩; exact ⟨a1, a2, by omega⟩
  · rintro ⟨a1, a2, a3⟩
    refine ⟨a1, a2, ?_⟩
    rcases hb with ⟨-, h4⟩ | ⟨h1, -⟩
    · obtain ⟨j, j1, j2, j3⟩ := (rVf_n h a1).mp a2
      have := h4 j j1 j2
      omega
    · omega
theorem isTs_ex (V : zVt) (f : np_N) : isTs V f (vts V f) := by
  refine zch_s (x := (List.range 65536).filter (fun t => @decide (V f (nI t) ≠ []) (Classical.propDecidable _))) ⟨?_, fun t => ?_⟩
  · exact wso_of (List.Pairwise.filter _ List.pairwise_lt_range)
  · rw [List.mem_filter, List.mem_range]
    exact ⟨fun h => ⟨h.1, @of_decide_eq_true _ (Classical.propDecidable _) h.2⟩, fun h => ⟨h.1, @decide_eq_true _ (Classical.propDecidable _) h.2⟩⟩
theorem rTs_pre {V : zVt} {f : np_N} {u : Nat} {T : List Nat} (hT : rTp (fun t => V f t ≠ []) u T) : T <+: vts V f := by
  have hts := isTs_ex V f
  refine srt_pre (u := u) (wso_pw hT.1) (wso_pw hts.1) (fun t => ?_)
  rw [hT.2, hts.2]
  exact ⟨fun ⟨a1, a2, a3⟩ => ⟨⟨a1, a2⟩, a3⟩, fun ⟨⟨a1, a2⟩, a3⟩ => ⟨a1, a2, a3⟩⟩
theorem rTs_e {V : zVt} {f : np_N} {T : List Nat} (hT : rTp (fun t => V f t ≠ []) 65536 T) : vts V f = T := by
  refine vts_y ⟨hT.1, fun t => ?_⟩
  rw [hT.2]
  exact ⟨fun ⟨a1, a2, _⟩ => ⟨a1, a2⟩, fun ⟨a1, a2⟩ => ⟨a1, a2, by omega⟩⟩
theorem flt_le {s : Int32} {W : zW} {T U : List Nat} {g : Nat → List aV} (h : T <+: U) : zLe (wad s W (T.flatMap g)) (wad s W (U.flatMap g)) := by
  obtain ⟨R, e⟩ := h
  rw [← e, List.flatMap_append]
  exact wad_le s W (List.prefix_append _ _)
theorem vtl1_y {V : zVt} {W : zW} {x f : np_N} {t : Int32} (h : t = 255) : vtl1 V W x f t = wad 1 W ((vts V f).flatMap (fun u => vrw V x f (nI u))) := by unfold vtl1; rw [if_pos h]; rfl
theorem vtl1_n {V : zVt} {W : zW} {x f : np_N} {t : Int32} (h : ¬ t = 255) : vtl1 V W x f t = wad 1 W (vrw V x f t) := by unfold vtl1; rw [if_neg h]; rfl
section VTL
variable {V : zVt} {top : np_N} {sec : Bool} {W : zW} {x f : np_N} {t : Int32}
theorem vtl_a (hC : ¬ (¬ vD V f ∨ (¬ t = 255 ∧ V f t = []))) (h : f = x) : vtl V top sec W x f t = vtl1 V W x f t := by
  unfold vtl
  dsimp only
  rw [if_pos h, zif_n hC]
theorem vtl_b (hC : ¬ (¬ vD V f ∨ (¬ t = 255 ∧ V f t = []))) (h : ¬ f = x) : vtl V top sec W x f t = vpr V top sec (vtl1 V W x f t) (vov V top x) := by
  unfold vtl
  dsimp only
  rw [if_neg h, zif_n hC]
theorem vtl_c (hC : ¬ vD V f ∨ (¬ t = 255 ∧ V f t = [])) (h : f = x) : vtl V top sec W x f t = vpr V top sec (vst V top (vtl1 V W x f t)) (vat V top f) := by
  unfold vtl
  dsimp only
  rw [if_pos h, zif_y hC]
theorem vtl_d (hC : ¬ vD V f ∨ (¬ t = 255 ∧ V f t = [])) (h : ¬ f = x) : vtl V top sec W x f t = vpr V top sec (vpr V top sec (vst V top (vtl1 V W x f t)) (vat V top f)) (vov V top x) := by
  unfold vtl
  dsimp only
  rw [if_neg h, zif_y hC]
end VTL
theorem rVf_pos {lo : np_N} {rs : List zRt} {f : np_N} {t : Nat} (h : rGd lo rs) (ht : rVf rs f (nI t) ≠ []) : 0 < t := by
  obtain ⟨e, he, e1, -⟩ := rVf_ne.mp ht
  have q := rTn_eq h he
  rcases Nat.eq_zero_or_pos t with z | z
  · rw [z] at e1
    have := q.2.2
    unfold rTn at this
    rw [e1] at this
    exact absurd this (by decide)
  · exact z
theorem vtl_le3 {V : zVt} {top : np_N} {sec : Bool} {W : zW} {x f : np_N} {t : Int32} (hC : ¬ vD V f ∨ (¬ t = 255 ∧ V f t = [])) : zLe (vst V top (vtl1 V W x f t)) (vtl V top sec W x f t) := by
  by_cases h : f = x
  · rw [vtl_c hC h]; exact vpr_le _ _ _ _ _
  · rw [vtl_d hC h]; exact (vpr_le _ _ _ _ _).tr (vpr_le _ _ _ _ _)
theorem vtl_le4 {V : zVt} {top : np_N} {sec : Bool} {W : zW} {x f : np_N} {t : Int32} (hC : ¬ vD V f ∨ (¬ t = 255 ∧ V f t = [])) : zLe (vpr V top sec (vst V top (vtl1 V W x f t)) (vat V top f)) (vtl V top sec W x f t) := by
  by_cases h : f = x
  · rw [vtl_c hC h]; exact zLe.rf _
  · rw [vtl_d hC h]; exact vpr_le _ _ _ _ _
theorem w_1552 : (.methodLink "ZoneAnswersModel" 205 ⟨"ZoneAnswersModel", "nothing", "()V"⟩ : Cond) ∈ zw := zw_at 1552 (by decide +kernel) (by decide +kernel)
theorem w_1554 : (.instanceMethod ⟨"ZoneAnswersModel", "nothing", "()V"⟩ : Cond) ∈ zw := zw_at 1554 (by decide +kernel) (by decide +kernel)
theorem w_1555 : (.code ⟨"ZoneAnswersModel", "nothing", "()V"⟩ prog_12_method_26_code 2 none : Cond) ∈ zw := zw_at 1555 (by decide +kernel) (by decide +kernel)
theorem w_1556 : (.methodLink "ZoneAnswersModel" 212 ⟨"ZoneAnswersModel", "before", "([B)[B"⟩ : Cond) ∈ zw := zw_at 1556 (by decide +kernel) (by decide +kernel)
theorem w_1558 : (.instanceMethod ⟨"ZoneAnswersModel", "before", "([B)[B"⟩ : Cond) ∈ zw := zw_at 1558 (by decide +kernel) (by decide +kernel)
theorem w_1559 : (.code ⟨"ZoneAnswersModel", "before", "([B)[B"⟩ prog_12_method_12_code 5 (some (.array .byte)) : Cond) ∈ zw := zw_at 1559 (by decide +kernel) (by decide +kernel)
theorem w_1560 : (.methodLink "ZoneAnswersModel" 218 ⟨"ZoneAnswersModel", "first", "([B[BI)V"⟩ : Cond) ∈ zw := zw_at 1560 (by decide +kernel) (by decide +kernel)
theorem w_1562 : (.instanceMethod ⟨"ZoneAnswersModel", "first", "([B[BI)V"⟩ : Cond) ∈ zw := zw_at 1562 (by decide +kernel) (by decide +kernel)
theorem w_1563 : (.code ⟨"ZoneAnswersModel", "first", "([B[BI)V"⟩ prog_12_method_29_code 5 none : Cond) ∈ zw := zw_at 1563 (by decide +kernel) (by decide +kernel)
theorem w_1568 : (.methodLink "ZoneAnswersModel" 228 ⟨"ZoneAnswersModel", "inChain", "([B)Z"⟩ : Cond) ∈ zw := zw_at 1568 (by decide +kernel) (by decide +kernel)
theorem w_1570 : (.instanceMethod ⟨"ZoneAnswersModel", "inChain", "([B)Z"⟩ : Cond) ∈ zw := zw_at 1570 (by decide +kernel) (by decide +kernel)
theorem w_1571 : (.code ⟨"ZoneAnswersModel", "inChain", "([B)Z"⟩ prog_12_method_11_code 2 (some .boolean) : Cond) ∈ zw := zw_at 1571 (by decide +kernel) (by decide +kernel)
theorem wp_54 : (.selects "ZoneAnswersModel" ⟨"ZoneAnswersModel", "nothing", "()V"⟩ ⟨"ZoneAnswersModel", "nothing", "()V"⟩ : Cond) ∈ zw := zw_pv 54 (y := ⟨"ZoneAnswersModel", "nothing", "()V"⟩) rfl (by decide +kernel)
theorem wp_55 : (.selects "ZoneAnswersModel" ⟨"ZoneAnswersModel", "before", "([B)[B"⟩ ⟨"ZoneAnswersModel", "before", "([B)[B"⟩ : Cond) ∈ zw := zw_pv 55 (y := ⟨"ZoneAnswersModel", "before", "([B)[B"⟩) rfl (by decide +kernel)
theorem wp_56 : (.selects "ZoneAnswersModel" ⟨"ZoneAnswersModel", "first", "([B[BI)V"⟩ ⟨"ZoneAnswersModel", "first", "([B[BI)V"⟩ : Cond) ∈ zw := zw_pv 56 (y := ⟨"ZoneAnswersModel", "first", "([B[BI)V"⟩) rfl (by decide +kernel)
theorem wp_58 : (.selects "ZoneAnswersModel" ⟨"ZoneAnswersModel", "inChain", "([B)Z"⟩ ⟨"ZoneAnswersModel", "inChain", "([B)Z"⟩ : Cond) ∈ zw := zw_pv 58 (y := ⟨"ZoneAnswersModel", "inChain", "([B)Z"⟩) rfl (by decide +kernel)
abbrev c_Mo_held : ByteArray := prog_12_method_33_code
abbrev y_Mo_held : MethodName := ⟨"ZoneAnswersModel", "held", "([B[BIZ)V"⟩
theorem d_Mo_held_0 : decode c_Mo_held 0 = .ok (.iconst 0, 1) := by decide +kernel
theorem d_Mo_held_1 : decode c_Mo_held 1 = .ok (.istore 5, 2) := by decide +kernel
theorem d_Mo_held_3 : decode c_Mo_held 3 = .ok (.iconst 0, 1) := by decide +kernel
theorem d_Mo_held_4 : decode c_Mo_held 4 = .ok (.istore 6, 2) := by decide +kernel
theorem d_Mo_held_6 : decode c_Mo_held 6 = .ok (.iload_n 3, 1) := by decide +kernel
theorem d_Mo_held_7 : decode c_Mo_held 7 = .ok (.sipush 255, 3) := by decide +kernel
theorem d_Mo_held_10 : decode c_Mo_held 10 = .ok (.if_icmp .ne 119, 3) := by decide +kernel
theorem d_Mo_held_13 : decode c_Mo_held 13 = .ok (.iload 6, 2) := by decide +kernel
theorem d_Mo_held_15 : decode c_Mo_held 15 = .ok (.ldc 7, 2) := by decide +kernel
theorem d_Mo_held_17 : decode c_Mo_held 17 = .ok (.if_icmp .ge 112, 3) := by decide +kernel
theorem d_Mo_held_20 : decode c_Mo_held 20 = .ok (.ldc 7, 2) := by decide +kernel
theorem d_Mo_held_22 : decode c_Mo_held 22 = .ok (.istore 7, 2) := by decide +kernel
theorem d_Mo_held_24 : decode c_Mo_held 24 = .ok (.iconst 0, 1) := by decide +kernel
theorem d_Mo_held_25 : decode c_Mo_held 25 = .ok (.istore 8, 2) := by decide +kernel
theorem d_Mo_held_27 : decode c_Mo_held 27 = .ok (.iload 8, 2) := by decide +kernel
theorem d_Mo_held_29 : decode c_Mo_held 29 = .ok (.aload_n 0, 1) := by decide +kernel
theorem d_Mo_held_30 : decode c_Mo_held 30 = .ok (.getfield 61, 3) := by decide +kernel
theorem d_Mo_held_33 : decode c_Mo_held 33 = .ok (.if_icmp .ge 68, 3) := by decide +kernel
theorem d_Mo_held_36 : decode c_Mo_held 36 = .ok (.aload_n 0, 1) := by decide +kernel
theorem d_Mo_held_37 : decode c_Mo_held 37 = .ok (.getfield 19, 3) := by decide +kernel
theorem d_Mo_held_40 : decode c_Mo_held 40 = .ok (.iload 8, 2) := by decide +kernel
theorem d_Mo_held_42 : decode c_Mo_held 42 = .ok (.aaload, 1) := by decide +kernel
theorem d_Mo_held_43 : decode c_Mo_held 43 = .ok (.getfield 67, 3) := by decide +kernel
theorem d_Mo_held_46 : decode c_Mo_held 46 = .ok (.iload 6, 2) := by decide +kernel
theorem d_Mo_held_48 : decode c_Mo_held 48 = .ok (.if_icmp .le 47, 3) := by decide +kernel
theorem d_Mo_held_51 : decode c_Mo_held 51 = .ok (.aload_n 0, 1) := by decide +kernel
theorem d_Mo_held_52 : decode c_Mo_held 52 = .ok (.getfield 19, 3) := by decide +kernel
theorem d_Mo_held_55 : decode c_Mo_held 55 = .ok (.iload 8, 2) := by decide +kernel
theorem d_Mo_held_57 : decode c_Mo_held 57 = .ok (.aaload, 1) := by decide +kernel
theorem d_Mo_held_58 : decode c_Mo_held 58 = .ok (.getfield 67, 3) := by decide +kernel
theorem d_Mo_held_61 : decode c_Mo_held 61 = .ok (.iload 7, 2) := by decide +kernel
theorem d_Mo_held_63 : decode c_Mo_held 63 = .ok (.if_icmp .ge 32, 3) := by decide +kernel
theorem d_Mo_held_66 : decode c_Mo_held 66 = .ok (.aload_n 0, 1) := by decide +kernel
theorem d_Mo_held_67 : decode c_Mo_held 67 = .ok (.getfield 19, 3) := by decide +kernel
theorem d_Mo_held_70 : decode c_Mo_held 70 = .ok (.iload 8, 2) := by decide +kernel
theorem d_Mo_held_72 : decode c_Mo_held 72 = .ok (.aaload, 1) := by decide +kernel
theorem d_Mo_held_73 : decode c_Mo_held 73 = .ok (.getfield 65, 3) := by decide +kernel
theorem d_Mo_held_76 : decode c_Mo_held 76 = .ok (.aload_n 2, 1) := by decide +kernel
theorem d_Mo_held_77 : decode c_Mo_held 77 = .ok (.invokestatic 80, 3) := by decide +kernel
theorem d_Mo_held_80 : decode c_Mo_held 80 = .ok (.ifCond .eq 15, 3) := by decide +kernel
theorem d_Mo_held_83 : decode c_Mo_held 83 = .ok (.aload_n 0, 1) := by decide +kernel
theorem d_Mo_held_84 : decode c_Mo_held 84 = .ok (.getfield 19, 3) := by decide +kernel
theorem d_Mo_held_87 : decode c_Mo_held 87 = .ok (.iload 8, 2) := by decide +kernel
theorem d_Mo_held_89 : decode c_Mo_held 89 = .ok (.aaload, 1) := by decide +kernel
theorem d_Mo_held_90 : decode c_Mo_held 90 = .ok (.getfield 67, 3) := by decide +kernel
theorem d_Mo_held_93 : decode c_Mo_held 93 = .ok (.istore 7, 2) := by decide +kernel
theorem d_Mo_held_95 : decode c_Mo_held 95 = .ok (.iinc 8 1, 3) := by decide +kernel
theorem d_Mo_held_98 : decode c_Mo_held 98 = .ok (.goto (-71), 3) := by decide +kernel
theorem d_Mo_held_101 : decode c_Mo_held 101 = .ok (.iload 7, 2) := by decide +kernel
theorem d_Mo_held_103 : decode c_Mo_held 103 = .ok (.istore 6, 2) := by decide +kernel
theorem d_Mo_held_105 : decode c_Mo_held 105 = .ok (.iload 7, 2) := by decide +kernel
theorem d_Mo_held_107 : decode c_Mo_held 107 = .ok (.ldc 7, 2) := by decide +kernel
theorem d_Mo_held_109 : decode c_Mo_held 109 = .ok (.if_icmp .ne 6, 3) := by decide +kernel
theorem d_Mo_held_112 : decode c_Mo_held 112 = .ok (.goto (-106), 3) := by decide +kernel
theorem d_Mo_held_115 : decode c_Mo_held 115 = .ok (.iconst 1, 1) := by decide +kernel
theorem d_Mo_held_116 : decode c_Mo_held 116 = .ok (.istore 5, 2) := by decide +kernel
theorem d_Mo_held_118 : decode c_Mo_held 118 = .ok (.aload_n 0, 1) := by decide +kernel
theorem d_Mo_held_119 : decode c_Mo_held 119 = .ok (.aload_n 1, 1) := by decide +kernel
theorem d_Mo_held_120 : decode c_Mo_held 120 = .ok (.aload_n 2, 1) := by decide +kernel
theorem d_Mo_held_121 : decode c_Mo_held 121 = .ok (.iload 7, 2) := by decide +kernel
theorem d_Mo_held_123 : decode c_Mo_held 123 = .ok (.invokevirtual 218, 3) := by decide +kernel
theorem d_Mo_held_126 : decode c_Mo_held 126 = .ok (.goto (-120), 3) := by decide +kernel
theorem d_Mo_held_129 : decode c_Mo_held 129 = .ok (.iload_n 3, 1) := by decide +kernel
theorem d_Mo_held_130 : decode c_Mo_held 130 = .ok (.sipush 255, 3) := by decide +kernel
theorem d_Mo_held_133 : decode c_Mo_held 133 = .ok (.if_icmp .eq 23, 3) := by decide +kernel
theorem d_Mo_held_136 : decode c_Mo_held 136 = .ok (.aload_n 0, 1) := by decide +kernel
theorem d_Mo_held_137 : decode c_Mo_held 137 = .ok (.aload_n 2, 1) := by decide +kernel
theorem d_Mo_held_138 : decode c_Mo_held 138 = .ok (.iconst 0, 1) := by decide +kernel
theorem d_Mo_held_139 : decode c_Mo_held 139 = .ok (.iload_n 3, 1) := by decide +kernel
theorem d_Mo_held_140 : decode c_Mo_held 140 = .ok (.invokevirtual 90, 3) := by decide +kernel
theorem d_Mo_held_143 : decode c_Mo_held 143 = .ok (.ifCond .eq 13, 3) := by decide +kernel
theorem d_Mo_held_146 : decode c_Mo_held 146 = .ok (.iconst 1, 1) := by decide +kernel
theorem d_Mo_held_147 : decode c_Mo_held 147 = .ok (.istore 5, 2) := by decide +kernel
theorem d_Mo_held_149 : decode c_Mo_held 149 = .ok (.aload_n 0, 1) := by decide +kernel
theorem d_Mo_held_150 : decode c_Mo_held 150 = .ok (.aload_n 1, 1) := by decide +kernel
theorem d_Mo_held_151 : decode c_Mo_held 151 = .ok (.aload_n 2, 1) := by decide +kernel
theorem d_Mo_held_152 : decode c_Mo_held 152 = .ok (.iload_n 3, 1) := by decide +kernel
theorem d_Mo_held_153 : decode c_Mo_held 153 = .ok (.invokevirtual 218, 3) := by decide +kernel
theorem d_Mo_held_156 : decode c_Mo_held 156 = .ok (.iload 5, 2) := by decide +kernel
theorem d_Mo_held_158 : decode c_Mo_held 158 = .ok (.ifCond .eq 25, 3) := by decide +kernel
theorem d_Mo_held_161 : decode c_Mo_held 161 = .ok (.iload 4, 2) := by decide +kernel
theorem d_Mo_held_163 : decode c_Mo_held 163 = .ok (.ifCond .eq 19, 3) := by decide +kernel
theorem d_Mo_held_166 : decode c_Mo_held 166 = .ok (.aload_n 0, 1) := by decide +kernel
theorem d_Mo_held_167 : decode c_Mo_held 167 = .ok (.getfield 208, 3) := by decide +kernel
theorem d_Mo_held_170 : decode c_Mo_held 170 = .ok (.ifCond .eq 12, 3) := by decide +kernel
theorem d_Mo_held_173 : decode c_Mo_held 173 = .ok (.aload_n 0, 1) := by decide +kernel
theorem d_Mo_held_174 : decode c_Mo_held 174 = .ok (.aload_n 0, 1) := by decide +kernel
theorem d_Mo_held_175 : decode c_Mo_held 175 = .ok (.aload_n 1, 1) := by decide +kernel
theorem d_Mo_held_176 : decode c_Mo_held 176 = .ok (.invokevirtual 212, 3) := by decide +kernel
theorem d_Mo_held_179 : decode c_Mo_held 179 = .ok (.invokevirtual 215, 3) := by decide +kernel
theorem d_Mo_held_182 : decode c_Mo_held 182 = .ok (.return_, 1) := by decide +kernel
theorem d_Mo_held_183 : decode c_Mo_held 183 = .ok (.aload_n 0, 1) := by decide +kernel
theorem d_Mo_held_184 : decode c_Mo_held 184 = .ok (.invokevirtual 205, 3) := by decide +kernel
theorem d_Mo_held_187 : decode c_Mo_held 187 = .ok (.aload_n 0, 1) := by decide +kernel
theorem d_Mo_held_188 : decode c_Mo_held 188 = .ok (.getfield 208, 3) := by decide +kernel
theorem d_Mo_held_191 : decode c_Mo_held 191 = .ok (.ifCond .ne 4, 3) := by decide +kernel
theorem d_Mo_held_194 : decode c_Mo_held 194 = .ok (.return_, 1) := by decide +kernel
theorem d_Mo_held_195 : decode c_Mo_held 195 = .ok (.aload_n 0, 1) := by decide +kernel
theorem d_Mo_held_196 : decode c_Mo_held 196 = .ok (.aload_n 0, 1) := by decide +kernel
theorem d_Mo_held_197 : decode c_Mo_held 197 = .ok (.aload_n 2, 1) := by decide +kernel
theorem d_Mo_held_198 : decode c_Mo_held 198 = .ok (.invokevirtual 228, 3) := by decide +kernel
theorem d_Mo_held_201 : decode c_Mo_held 201 = .ok (.ifCond .eq 7, 3) := by decide +kernel
theorem d_Mo_held_204 : decode c_Mo_held 204 = .ok (.aload_n 2, 1) := by decide +kernel
theorem d_Mo_held_205 : decode c_Mo_held 205 = .ok (.goto 8, 3) := by decide +kernel
theorem d_Mo_held_208 : decode c_Mo_held 208 = .ok (.aload_n 0, 1) := by decide +kernel
theorem d_Mo_held_209 : decode c_Mo_held 209 = .ok (.aload_n 2, 1) := by decide +kernel
theorem d_Mo_held_210 : decode c_Mo_held 210 = .ok (.invokevirtual 212, 3) := by decide +kernel
theorem d_Mo_held_213 : decode c_Mo_held 213 = .ok (.invokevirtual 215, 3) := by decide +kernel
theorem d_Mo_held_216 : decode c_Mo_held 216 = .ok (.iload 4, 2) := by decide +kernel
theorem d_Mo_held_218 : decode c_Mo_held 218 = .ok (.ifCond .eq 12, 3) := by decide +kernel
theorem d_Mo_held_221 : decode c_Mo_held 221 = .ok (.aload_n 0, 1) := by decide +kernel
theorem d_Mo_held_222 : decode c_Mo_held 222 = .ok (.aload_n 0, 1) := by decide +kernel
theorem d_Mo_held_223 : decode c_Mo_held 223 = .ok (.aload_n 1, 1) := by decide +kernel
theorem d_Mo_held_224 : decode c_Mo_held 224 = .ok (.invokevirtual 212, 3) := by decide +kernel
theorem d_Mo_held_227 : decode c_Mo_held 227 = .ok (.invokevirtual 215, 3) := by decide +kernel
theorem d_Mo_held_230 : decode c_Mo_held 230 = .ok (.return_, 1) := by decide +kernel
abbrev rm_Mo_held (c9 s9 : Nat) : Room := { frames := 10, cells := c9, slots := s9, locals := 300 }
set_option maxHeartbeats 4000000 in
set_option maxRecDepth 100000 in
/-- held(x, f, t, wild), of the reference -/
theorem t_Mo_held (l : Launch) (E : zc_E) (G : zg_G) (a c1 c2 : Nat) (ro : zRo) (lo : np_N) (rs : List zRt) (Wz : zW) (wp : zWs) (th co se : Int32) (tp : List Int32) (v19 v20 : Value) (hst : rSt E G ro a c1 c2 lo rs Wz ([]) True (wln Wz, 0, [], wp) th tp co se v19 v20) (b1 : Nat) (ls1 : np_N) (hn1 : rNm E G ro b1 ls1) (b3 : Nat) (ls3 : np_N) (hn3 : rNm E G ro b3 ls3) (t : Int32) (z9 : Int32) (hzw : zb z9 (¬ ls3 = ls1)) (hx1 : ¬ ls3 = ls1 → zl lo ls1) (hlo3 : lo <:+ ls3) (hvd : ¬ ls1 = ls3 → ¬ vD (rVf rs) ls1) (hB : rBd c2 (vtl (rVf rs) lo (zscu se) Wz ls1 ls3 t)) : zMv l E y_Mo_held c_Mo_held 9 (rm_Mo_held (rPi c1 c2 (vtl (rVf rs) lo (zscu se) Wz ls1 ls3 t) 0 - rPi c1 c2 Wz 0) (rPi c1 c2 (vtl (rVf rs) lo (zscu se) Wz ls1 ls3 t) 0 - rPi c1 c2 Wz 0)) [.ref a, .ref b1, .ref b3, .int t, .int z9] G (fun (G2 : zg_G) => ∃ r2, rSt E G2 r2 a c1 c2 lo rs (vtl (rVf rs) lo (zscu se) Wz ls1 ls3 t) ([]) True (wln (vtl (rVf rs) lo (zscu se) Wz ls1 ls3 t), 0, [], wp) th tp co se v19 v20 ∧ zfr ro zKr G r2 G2) := by
  refine zMv.of (by decide) (Nat.le_of_ble_eq_true rfl) ?_
  intro p e s m args below meth c Q hZ hG hret ls hl
  obtain ⟨hx, hb, hr, hts, hown, hlocks, hml, hnm, hbase, hK, hN, hQ⟩ := hZ
  have hl : lv_has ls 9 [(0, .ref a), (1, .ref b1), (2, .ref b3), (3, .int t), (4, .int z9)] := hl
  have hS : zg_S (zc_b E) s.heap s.heap [] := va_S.rf
  have hc1 : 0 < c1 := by have := hst.cs.1; omega
  have hc2 : 0 < c2 := by have := hst.cs.2.1; omega
  have hgd := hst.gd
  obtain ⟨h, eh0, eh1, eh2, hc⟩ := id hst
  obtain ⟨ra, rb, ⟨fm, rt1, rt2, rt3, rt4⟩, rtl, ⟨fo, rn1, rn2, rn3, rn4, rn5⟩, rr, rg, ras⟩ := id hc
  rw [eh0] at ra
  obtain ⟨⟨fr, rm4, hfr⟩, hn2, hRs⟩ := id rr.1
  have hn_b1 : rNm E G ro b1 ls1 := hn1
  obtain ⟨f_b1, n1_b1, n2_b1, n3_b1, n4_b1, n5_b1⟩ := id hn_b1
  have sm_b1 := n3_b1.2
  have hn_b3 : rNm E G ro b3 ls3 := hn3
  obtain ⟨f_b3, n1_b3, n2_b3, n3_b3, n4_b3, n5_b3⟩ := id hn_b3
  have sm_b3 := n3_b3.2
  have hlew : zLe (vtl1 (rVf rs) Wz ls1 ls3 t) (vtl (rVf rs) lo (zscu se) Wz ls1 ls3 t) := (vtl_le2 _ _ _ _ _ _ _).tr (vtl_le1 _ _ _ _ _ _ _)
  have hpiw := rPi_le (n := 0) (m := 0) hc1 hc2 hlew (rPw_le hlew)
  have hwlw := wln_le hlew
  have hlez : zLe (Wz) (vtl1 (rVf rs) Wz ls1 ls3 t) := zLe_wad 1 _ _
  have hpiz := rPi_le (n := 0) (m := 0) hc1 hc2 hlez (rPw_le hlez)
  have hwlz := wln_le hlez
  have hb1 := hB.le hc2 hlew
  have loop156 : ∀ (N : Nat) (Gx : zg_G) (an6 : Int32) (ro6 : zRo) (H : Heap) (locs : List Loc), 0 < N → ((an6 = 0 ∧ (¬ vD (rVf rs) ls3 ∨ (¬ t = 255 ∧ (rVf rs) ls3 t = []))) ∨ (an6 = 1 ∧ ¬ (¬ vD (rVf rs) ls3 ∨ (¬ t = 255 ∧ (rVf rs) ls3 t = [])))) → (rSt E Gx ro6 a c1 c2 lo rs (vtl1 (rVf rs) Wz ls1 ls3 t) ([]) True (wln (vtl1 (rVf rs) Wz ls1 ls3 t), 0, [], wp) th tp co se v19 v20) → (zfr ro zKr G ro6 Gx) → zP E Gx H → zg_S (zc_b E) s.heap H locs → ∀ (ls : Array Slot), lv_has ls 9 [(0, .ref a), (1, .ref b1), (2, .ref b3), (3, .int t), (4, .int z9), (5, .int an6)] → W p l e (rm_Mo_held (rPi c1 c2 (vtl (rVf rs) lo (zscu se) Wz ls1 ls3 t) 0 - rPi c1 c2 Wz 0) (rPi c1 c2 (vtl (rVf rs) lo (zscu se) Wz ls1 ls3 t) 0 - rPi c1 c2 Wz 0)) s m args below meth c H locs (rPi c1 c2 (vtl1 (rVf rs) Wz ls1 ls3 t) 0 - rPi c1 c2 Wz 0 + 0) (rPi c1 c2 (vtl1 (rVf rs) Wz ls1 ls3 t) 0 - rPi c1 c2 Wz 0 + 0) Q (F0 m 156 ls []) := by
    intro N
    induction N with
    | zero =>
      intro Gx an6 ro6 H locs hlt
      exact absurd hlt (Nat.not_lt_zero _)
    | succ N ih =>
      intro Gx an6 ro6 H locs hlt hC6 hst6 hf6 hG hS ls hl
      obtain ⟨h6, eh06, eh16, eh26, hc6⟩ := id hst6
      obtain ⟨ra6, rb6, ⟨fm6, rt16, rt26, rt36, rt46⟩, rtl6, ⟨fo6, rn16, rn26, rn36, rn46, rn56⟩, rr6, rg6, ras6⟩ := id hc6
      rw [eh06] at ra6
      obtain ⟨⟨fr6, rm46, hfr6⟩, hn26, hRs6⟩ := id rr6.1
      have hn_b16 : rNm E Gx ro6 b1 ls1 := hn1.fr hf6 zKr_0
      obtain ⟨f_b16, n1_b16, n2_b16, n3_b16, n4_b16, n5_b16⟩ := id hn_b16
      have sm_b16 := n3_b16.2
      have hn_b36 : rNm E Gx ro6 b3 ls3 := hn3.fr hf6 zKr_0
      obtain ⟨f_b36, n1_b36, n2_b36, n3_b36, n4_b36, n5_b36⟩ := id hn_b36
      have sm_b36 := n3_b36.2
      refine lv_iload hx hb d_Mo_held_156 (lv_at hl 5 rfl) ?_
      refine lv_if_eq (tgt := 183) hx hb d_Mo_held_158 (by decide) (fun c158 => ?_) (fun c158 => ?_)
      · have hC := (hC6.resolve_right (fun z => by rw [z.1] at c158; exact absurd c158 (by decide))).2
        have hlC : zLe (vst (rVf rs) lo (vtl1 (rVf rs) Wz ls1 ls3 t)) (vtl (rVf rs) lo (zscu se) Wz ls1 ls3 t) := by rw [show vtl (rVf rs) lo (zscu se) Wz ls1 ls3 t = vtl (rVf rs) lo (zscu se) Wz ls1 ls3 t from rfl]; exact vtl_le3 hC
        have hpC := rPi_le (n := 0) (m := 0) hc1 hc2 hlC (rPw_le hlC)
        have hles : zLe (vtl1 (rVf rs) Wz ls1 ls3 t) (vst (rVf rs) lo (vtl1 (rVf rs) Wz ls1 ls3 t)) := vst_le _ _ _
        have hpis := rPi_le (n := 0) (m := 0) hc1 hc2 hles (rPw_le hles)
        have hwls := wln_le hles
        refine lv_aload_n hx hb d_Mo_held_183 rfl (lv_at hl 0 rfl) ?_
        have hGo184 := hG
        refine zk_v (va_runV (As := []) (rest := []) ⟨hx, hb, hml, hown, hts⟩ (t_Mo_nothing l E Gx a c1 c2 ro6 lo rs (vtl1 (rVf rs) Wz ls1 ls3 t) wp th co se tp v19 v20 hst6 (by have := hb1.1; omega)) (zcV 0 hts w_1552 w_1554 wp_54 w_30 w_1555 (by decide +kernel) ⟨Nat.le_of_ble_eq_true rfl, Nat.le_of_ble_eq_true rfl⟩) (zc_preV hbase hK hN hQ hG hS ra6 rfl) rfl rfl hl.1 rfl (lv_room (Nat.le_of_ble_eq_true rfl)) d_Mo_held_184 ⟨(by dsimp only [List.length_nil]; omega), (by dsimp only [List.length_nil]; omega)⟩) hS (fun G184 H locs hp184 hG hS => ?_)
        obtain ⟨roqn, hstqn, hsqn⟩ := hp184
        have hfqn : zfr ro zKr G roqn G184 := hf6.tr hsqn
        refine zW_more (cells2 := rPi c1 c2 (vst (rVf rs) lo (vtl1 (rVf rs) Wz ls1 ls3 t)) 0 - rPi c1 c2 Wz 0 + 0) (slots2 := rPi c1 c2 (vst (rVf rs) lo (vtl1 (rVf rs) Wz ls1 ls3 t)) 0 - rPi c1 c2 Wz 0 + 0) (by dsimp only [List.length_nil]; omega) (by dsimp only [List.length_nil]; omega) ?_
        obtain ⟨hqn, eh0qn, eh1qn, eh2qn, hcqn⟩ := id hstqn
        obtain ⟨raqn, rbqn, ⟨fmqn, rt1qn, rt2qn, rt3qn, rt4qn⟩, rtlqn, ⟨foqn, rn1qn, rn2qn, rn3qn, rn4qn, rn5qn⟩, rrqn, rgqn, rasqn⟩ := id hcqn
        rw [eh0qn] at raqn
        obtain ⟨⟨frqn, rm4qn, hfrqn⟩, hn2qn, hRsqn⟩ := id rrqn.1
        have hn_b1qn : rNm E G184 roqn b1 ls1 := hn_b16.fr hsqn zKr_0
        obtain ⟨f_b1qn, n1_b1qn, n2_b1qn, n3_b1qn, n4_b1qn, n5_b1qn⟩ := id hn_b1qn
        have sm_b1qn := n3_b1qn.2
        have hn_b3qn : rNm E G184 roqn b3 ls3 := hn_b36.fr hsqn zKr_0
        obtain ⟨f_b3qn, n1_b3qn, n2_b3qn, n3_b3qn, n4_b3qn, n5_b3qn⟩ := id hn_b3qn
        have sm_b3qn := n3_b3qn.2
        refine lv_aload_n hx hb d_Mo_held_187 rfl (lv_at hl 0 rfl) ?_
        refine zg_get (ci := 11) (C := "ZoneAnswersModel") (T := T_Mo) (N := 21) hx hb hts zi_Mo hown hK hG raqn rfl 17 (by decide) (hts _ w_1298) (fun _ h9 => h9) rfl d_Mo_held_188 ?_
        refine lv_if_ne (tgt := 195) hx hb d_Mo_held_191 (by decide) (fun c191 => ?_) (fun c191 => ?_)
        · have hsc := zscu_1 c191
          have hlC1 : zLe (vpr (rVf rs) lo true (vst (rVf rs) lo (vtl1 (rVf rs) Wz ls1 ls3 t)) (vat (rVf rs) lo ls3)) (vtl (rVf rs) lo (zscu se) Wz ls1 ls3 t) := by rw [← hsc]; exact vtl_le4 hC
          have hbC1 := hB.le hc2 hlC1
          have hpC1 := rPi_le (n := 0) (m := 0) hc1 hc2 hlC1 (rPw_le hlC1)
          have hle5 : zLe (vst (rVf rs) lo (vtl1 (rVf rs) Wz ls1 ls3 t)) (vpr (rVf rs) lo true (vst (rVf rs) lo (vtl1 (rVf rs) Wz ls1 ls3 t)) (vat (rVf rs) lo ls3)) := vpr_le _ _ _ _ _
          have hpi5 := rPi_le (n := 0) (m := 0) hc1 hc2 hle5 (rPw_le hle5)
          have hwl5 := wln_le hle5
          refine lv_aload_n hx hb d_Mo_held_195 rfl (lv_at hl 0 rfl) ?_
          refine lv_aload_n hx hb d_Mo_held_196 rfl (lv_at hl 0 rfl) ?_
          refine lv_aload_n hx hb d_Mo_held_197 rfl (lv_at hl 2 rfl) ?_
          refine zk_i (va_runV (As := [.ref b3]) (rest := [.ref a]) ⟨hx, hb, hml, hown, hts⟩ (t_Mo_inChain_s l hstqn b3 ls3 hn_b3qn) (zcV 1 hts w_1568 w_1570 wp_58 w_30 w_1571 (by decide +kernel) ⟨Nat.le_of_ble_eq_true rfl, Nat.le_of_ble_eq_true rfl⟩) (zc_preV hbase hK hN hQ hG hS raqn rfl) rfl rfl hl.1 rfl (lv_room (Nat.le_of_ble_eq_true rfl)) d_Mo_held_198 ⟨(by dsimp only [List.length_nil]; omega), (by dsimp only [List.length_nil]; omega)⟩) hS (fun r198 G198 H locs hp198 hG hS => ?_)
          have hG : zP E G184 H := hp198.2 ▸ hG
          refine lv_if_eq (tgt := 208) hx hb d_Mo_held_201 (by decide) (fun c201 => ?_) (fun c201 => ?_)
          · have hnch := hp198.1.z c201
            have hvat : vat (rVf rs) lo ls3 = vov (rVf rs) lo ls3 := zif_n hnch
            have hzl3 : zl lo ls3 := zl_suf hlo3 (fun z => hnch (z ▸ hgd.chain))
            refine lv_aload_n hx hb d_Mo_held_208 rfl (lv_at hl 0 rfl) ?_
            refine lv_aload_n hx hb d_Mo_held_209 rfl (lv_at hl 2 rfl) ?_
            have hGo210 := hG
            refine zk_q (va_runV (As := [.ref b3]) (rest := [.ref a]) ⟨hx, hb, hml, hown, hts⟩ (t_Mo_before_s l hstqn b3 ls3 hn_b3qn (hzl3)) (zcV 1 hts w_1556 w_1558 wp_55 w_30 w_1559 (by decide +kernel) ⟨Nat.le_of_ble_eq_true rfl, Nat.le_of_ble_eq_true rfl⟩) (zc_preV hbase hK hN hQ hG hS raqn rfl) rfl rfl hl.1 rfl (lv_room (Nat.le_of_ble_eq_true rfl)) d_Mo_held_210 ⟨(by dsimp only [List.length_nil]; omega), (by dsimp only [List.length_nil]; omega)⟩) hS (fun r210 G210 H locs hp210 hG hS => ?_)
            have hG : zP E G184 H := hp210.2 ▸ hG
            obtain ⟨j210, hj210, er210, hov210, hv210⟩ := hp210.1
            refine zr_some (a := rN (re rs j210)) er210 ?_
            have hnb210 := (hstqn.nm hj210).1
            have hGo213 := hG
            refine zk_v (va_runV (As := [.ref (rN (re rs j210))]) (rest := []) ⟨hx, hb, hml, hown, hts⟩ (t_Mo_link l E G184 a c1 c2 roqn lo rs (vst (rVf rs) lo (vtl1 (rVf rs) Wz ls1 ls3 t)) wp th co se tp v19 v20 hstqn (rN (re rs j210)) (rM (re rs j210)) hnb210 hov210.1.2 (by rw [hvat, hv210] at hbC1; have := (hbC1.le hc2 (vpr_le _ _ _ _ _)).1; omega) (by rw [hvat, hv210] at hbC1; exact hbC1.2)) (zcV 1 hts w_1493 w_1495 wp_43 w_30 w_1496 (by decide +kernel) ⟨Nat.le_of_ble_eq_true rfl, Nat.le_of_ble_eq_true rfl⟩) (zc_preV hbase hK hN hQ hG hS raqn rfl) rfl rfl hl.1 rfl (lv_room (Nat.le_of_ble_eq_true rfl)) d_Mo_held_213 ⟨(by rw [hvat, hv210] at hpC1 hpi5; dsimp only [List.length_nil]; omega), (by rw [hvat, hv210] at hpC1 hpi5; dsimp only [List.length_nil]; omega)⟩) hS (fun G213 H locs hp213 hG hS => ?_)
            obtain ⟨roql, hstql, hsql⟩ := hp213
            have hstql : rSt E G213 roql a c1 c2 lo rs (vpr (rVf rs) lo true (vst (rVf rs) lo (vtl1 (rVf rs) Wz ls1 ls3 t)) (vat (rVf rs) lo ls3)) ([]) True (wln (vpr (rVf rs) lo true (vst (rVf rs) lo (vtl1 (rVf rs) Wz ls1 ls3 t)) (vat (rVf rs) lo ls3)), 0, [], wp) th tp co se v19 v20 := by rw [hvat, hv210]; exact hstql
            have hfql : zfr ro zKr G roql G213 := hfqn.tr hsql
            refine zW_more (cells2 := rPi c1 c2 (vpr (rVf rs) lo true (vst (rVf rs) lo (vtl1 (rVf rs) Wz ls1 ls3 t)) (vat (rVf rs) lo ls3)) 0 - rPi c1 c2 Wz 0 + 0) (slots2 := rPi c1 c2 (vpr (rVf rs) lo true (vst (rVf rs) lo (vtl1 (rVf rs) Wz ls1 ls3 t)) (vat (rVf rs) lo ls3)) 0 - rPi c1 c2 Wz 0 + 0) (by dsimp only [List.length_nil]; rw [hvat, hv210] at hpC1 hpi5; rw [hvat, hv210]; omega) (by dsimp only [List.length_nil]; rw [hvat, hv210] at hpC1 hpi5; rw [hvat, hv210]; omega) ?_
            obtain ⟨hql, eh0ql, eh1ql, eh2ql, hcql⟩ := id hstql
            obtain ⟨raql, rbql, ⟨fmql, rt1ql, rt2ql, rt3ql, rt4ql⟩, rtlql, ⟨foql, rn1ql, rn2ql, rn3ql, rn4ql, rn5ql⟩, rrql, rgql, rasql⟩ := id hcql
            rw [eh0ql] at raql
            obtain ⟨⟨frql, rm4ql, hfrql⟩, hn2ql, hRsql⟩ := id rrql.1
            have hn_b1ql : rNm E G213 roql b1 ls1 := hn_b1qn.fr hsql zKr_0
            obtain ⟨f_b1ql, n1_b1ql, n2_b1ql, n3_b1ql, n4_b1ql, n5_b1ql⟩ := id hn_b1ql
            have sm_b1ql := n3_b1ql.2
            have hn_b3ql : rNm E G213 roql b3 ls3 := hn_b3qn.fr hsql zKr_0
            obtain ⟨f_b3ql, n1_b3ql, n2_b3ql, n3_b3ql, n4_b3ql, n5_b3ql⟩ := id hn_b3ql
            have sm_b3ql := n3_b3ql.2
            refine lv_iload hx hb d_Mo_held_216 (lv_at hl 4 rfl) ?_
            refine lv_if_eq (tgt := 230) hx hb d_Mo_held_218 (by decide) (fun c218 => ?_) (fun c218 => ?_)
            · have hfx : ls3 = ls1 := Classical.byContradiction (fun z => hzw.z c218 z)
              exact hret _ _ _ _ _ _ _ (⟨roql, by rw [vtl_c hC hfx, hsc]; exact hstql, hfql⟩) hG hS (by dsimp only [List.length_nil]; omega) (by dsimp only [List.length_nil]; omega) d_Mo_held_230
            · have hfx : ¬ ls3 = ls1 := hzw.nz c218
              have hzl1 := hx1 hfx
              have hE4 : vtl (rVf rs) lo (zscu se) Wz ls1 ls3 t = vpr (rVf rs) lo true (vpr (rVf rs) lo true (vst (rVf rs) lo (vtl1 (rVf rs) Wz ls1 ls3 t)) (vat (rVf rs) lo ls3)) (vov (rVf rs) lo ls1) := by rw [vtl_d hC hfx, hsc]
              have hb4 : rBd c2 (vpr (rVf rs) lo true (vpr (rVf rs) lo true (vst (rVf rs) lo (vtl1 (rVf rs) Wz ls1 ls3 t)) (vat (rVf rs) lo ls3)) (vov (rVf rs) lo ls1)) := by rw [← hE4]; exact hB
              have hP4 : rPi c1 c2 (vtl (rVf rs) lo (zscu se) Wz ls1 ls3 t) 0 = rPi c1 c2 (vpr (rVf rs) lo true (vpr (rVf rs) lo true (vst (rVf rs) lo (vtl1 (rVf rs) Wz ls1 ls3 t)) (vat (rVf rs) lo ls3)) (vov (rVf rs) lo ls1)) 0 := by rw [hE4]
              have hle4 : zLe (vpr (rVf rs) lo true (vst (rVf rs) lo (vtl1 (rVf rs) Wz ls1 ls3 t)) (vat (rVf rs) lo ls3)) (vpr (rVf rs) lo true (vpr (rVf rs) lo true (vst (rVf rs) lo (vtl1 (rVf rs) Wz ls1 ls3 t)) (vat (rVf rs) lo ls3)) (vov (rVf rs) lo ls1)) := vpr_le _ _ _ _ _
              have hpi4 := rPi_le (n := 0) (m := 0) hc1 hc2 hle4 (rPw_le hle4)
              have hwl4 := wln_le hle4
              refine lv_aload_n hx hb d_Mo_held_221 rfl (lv_at hl 0 rfl) ?_
              refine lv_aload_n hx hb d_Mo_held_222 rfl (lv_at hl 0 rfl) ?_
              refine lv_aload_n hx hb d_Mo_held_223 rfl (lv_at hl 1 rfl) ?_
              have hGo224 := hG
              refine zk_q (va_runV (As := [.ref b1]) (rest := [.ref a]) ⟨hx, hb, hml, hown, hts⟩ (t_Mo_before_s l hstql b1 ls1 hn_b1ql (hzl1)) (zcV 1 hts w_1556 w_1558 wp_55 w_30 w_1559 (by decide +kernel) ⟨Nat.le_of_ble_eq_true rfl, Nat.le_of_ble_eq_true rfl⟩) (zc_preV hbase hK hN hQ hG hS raql rfl) rfl rfl hl.1 rfl (lv_room (Nat.le_of_ble_eq_true rfl)) d_Mo_held_224 ⟨(by dsimp only [List.length_nil]; omega), (by dsimp only [List.length_nil]; omega)⟩) hS (fun r224 G224 H locs hp224 hG hS => ?_)
              have hG : zP E G213 H := hp224.2 ▸ hG
              obtain ⟨j224, hj224, er224, hov224, hv224⟩ := hp224.1
              refine zr_some (a := rN (re rs j224)) er224 ?_
              have hnb224 := (hstql.nm hj224).1
              have hGo227 := hG
              refine zk_v (va_runV (As := [.ref (rN (re rs j224))]) (rest := []) ⟨hx, hb, hml, hown, hts⟩ (t_Mo_link l E G213 a c1 c2 roql lo rs (vpr (rVf rs) lo true (vst (rVf rs) lo (vtl1 (rVf rs) Wz ls1 ls3 t)) (vat (rVf rs) lo ls3)) wp th co se tp v19 v20 hstql (rN (re rs j224)) (rM (re rs j224)) hnb224 hov224.1.2 (by rw [hv224] at hb4; have := (hb4.le hc2 (vpr_le _ _ _ _ _)).1; omega) (by rw [hv224] at hb4; exact hb4.2)) (zcV 1 hts w_1493 w_1495 wp_43 w_30 w_1496 (by decide +kernel) ⟨Nat.le_of_ble_eq_true rfl, Nat.le_of_ble_eq_true rfl⟩) (zc_preV hbase hK hN hQ hG hS raql rfl) rfl rfl hl.1 rfl (lv_room (Nat.le_of_ble_eq_true rfl)) d_Mo_held_227 ⟨(by dsimp only [List.length_nil]; rw [← hv224]; omega), (by dsimp only [List.length_nil]; rw [← hv224]; omega)⟩) hS (fun G227 H locs hp227 hG hS => ?_)
              obtain ⟨roqm, hstqm, hsqm⟩ := hp227
              have hstqm : rSt E G227 roqm a c1 c2 lo rs (vpr (rVf rs) lo true (vpr (rVf rs) lo true (vst (rVf rs) lo (vtl1 (rVf rs) Wz ls1 ls3 t)) (vat (rVf rs) lo ls3)) (vov (rVf rs) lo ls1)) ([]) True (wln (vpr (rVf rs) lo true (vpr (rVf rs) lo true (vst (rVf rs) lo (vtl1 (rVf rs) Wz ls1 ls3 t)) (vat (rVf rs) lo ls3)) (vov (rVf rs) lo ls1)), 0, [], wp) th tp co se v19 v20 := by rw [hv224]; exact hstqm
              have hfqm : zfr ro zKr G roqm G227 := hfql.tr hsqm
              refine zW_more (cells2 := rPi c1 c2 (vpr (rVf rs) lo true (vpr (rVf rs) lo true (vst (rVf rs) lo (vtl1 (rVf rs) Wz ls1 ls3 t)) (vat (rVf rs) lo ls3)) (vov (rVf rs) lo ls1)) 0 - rPi c1 c2 Wz 0 + 0) (slots2 := rPi c1 c2 (vpr (rVf rs) lo true (vpr (rVf rs) lo true (vst (rVf rs) lo (vtl1 (rVf rs) Wz ls1 ls3 t)) (vat (rVf rs) lo ls3)) (vov (rVf rs) lo ls1)) 0 - rPi c1 c2 Wz 0 + 0) (by dsimp only [List.length_nil]; rw [← hv224]; omega) (by dsimp only [List.length_nil]; rw [← hv224]; omega) ?_
              obtain ⟨hqm, eh0qm, eh1qm, eh2qm, hcqm⟩ := id hstqm
              obtain ⟨raqm, rbqm, ⟨fmqm, rt1qm, rt2qm, rt3qm, rt4qm⟩, rtlqm, ⟨foqm, rn1qm, rn2qm, rn3qm, rn4qm, rn5qm⟩, rrqm, rgqm, rasqm⟩ := id hcqm
              rw [eh0qm] at raqm
              obtain ⟨⟨frqm, rm4qm, hfrqm⟩, hn2qm, hRsqm⟩ := id rrqm.1
              have hn_b1qm : rNm E G227 roqm b1 ls1 := hn_b1ql.fr hsqm zKr_0
              obtain ⟨f_b1qm, n1_b1qm, n2_b1qm, n3_b1qm, n4_b1qm, n5_b1qm⟩ := id hn_b1qm
              have sm_b1qm := n3_b1qm.2
              have hn_b3qm : rNm E G227 roqm b3 ls3 := hn_b3ql.fr hsqm zKr_0
              obtain ⟨f_b3qm, n1_b3qm, n2_b3qm, n3_b3qm, n4_b3qm, n5_b3qm⟩ := id hn_b3qm
              have sm_b3qm := n3_b3qm.2
              exact hret _ _ _ _ _ _ _ (⟨roqm, by rw [hE4]; exact hstqm, hfqm⟩) hG hS (by dsimp only [List.length_nil]; omega) (by dsimp only [List.length_nil]; omega) d_Mo_held_230
          · have hich := hp198.1.nz c201
            have hvat : vat (rVf rs) lo ls3 = ls3 := zif_y hich
            refine lv_aload_n hx hb d_Mo_held_204 rfl (lv_at hl 2 rfl) ?_
            refine lv_goto (tgt := 213) hx hb d_Mo_held_205 (by decide) ?_
            have hGo213 := hG
            refine zk_v (va_runV (As := [.ref b3]) (rest := []) ⟨hx, hb, hml, hown, hts⟩ (t_Mo_link l E G184 a c1 c2 roqn lo rs (vst (rVf rs) lo (vtl1 (rVf rs) Wz ls1 ls3 t)) wp th co se tp v19 v20 hstqn b3 ls3 hn_b3qn hich.2 (by rw [hvat] at hbC1; have := (hbC1.le hc2 (vpr_le _ _ _ _ _)).1; omega) (by rw [hvat] at hbC1; exact hbC1.2)) (zcV 1 hts w_1493 w_1495 wp_43 w_30 w_1496 (by decide +kernel) ⟨Nat.le_of_ble_eq_true rfl, Nat.le_of_ble_eq_true rfl⟩) (zc_preV hbase hK hN hQ hG hS raqn rfl) rfl rfl hl.1 rfl (lv_room (Nat.le_of_ble_eq_true rfl)) d_Mo_held_213 ⟨(by rw [hvat] at hpC1 hpi5; dsimp only [List.length_nil]; omega), (by rw [hvat] at hpC1 hpi5; dsimp only [List.length_nil]; omega)⟩) hS (fun G213 H locs hp213 hG hS => ?_)
            obtain ⟨roql, hstql, hsql⟩ := hp213
            have hstql : rSt E G213 roql a c1 c2 lo rs (vpr (rVf rs) lo true (vst (rVf rs) lo (vtl1 (rVf rs) Wz ls1 ls3 t)) (vat (rVf rs) lo ls3)) ([]) True (wln (vpr (rVf rs) lo true (vst (rVf rs) lo (vtl1 (rVf rs) Wz ls1 ls3 t)) (vat (rVf rs) lo ls3)), 0, [], wp) th tp co se v19 v20 := by rw [hvat]; exact hstql
            have hfql : zfr ro zKr G roql G213 := hfqn.tr hsql
            refine zW_more (cells2 := rPi c1 c2 (vpr (rVf rs) lo true (vst (rVf rs) lo (vtl1 (rVf rs) Wz ls1 ls3 t)) (vat (rVf rs) lo ls3)) 0 - rPi c1 c2 Wz 0 + 0) (slots2 := rPi c1 c2 (vpr (rVf rs) lo true (vst (rVf rs) lo (vtl1 (rVf rs) Wz ls1 ls3 t)) (vat (rVf rs) lo ls3)) 0 - rPi c1 c2 Wz 0 + 0) (by dsimp only [List.length_nil]; rw [hvat] at hpC1 hpi5; rw [hvat]; omega) (by dsimp only [List.length_nil]; rw [hvat] at hpC1 hpi5; rw [hvat]; omega) ?_
            obtain ⟨hql, eh0ql, eh1ql, eh2ql, hcql⟩ := id hstql
            obtain ⟨raql, rbql, ⟨fmql, rt1ql, rt2ql, rt3ql, rt4ql⟩, rtlql, ⟨foql, rn1ql, rn2ql, rn3ql, rn4ql, rn5ql⟩, rrql, rgql, rasql⟩ := id hcql
            rw [eh0ql] at raql
            obtain ⟨⟨frql, rm4ql, hfrql⟩, hn2ql, hRsql⟩ := id rrql.1
            have hn_b1ql : rNm E G213 roql b1 ls1 := hn_b1qn.fr hsql zKr_0
            obtain ⟨f_b1ql, n1_b1ql, n2_b1ql, n3_b1ql, n4_b1ql, n5_b1ql⟩ := id hn_b1ql
            have sm_b1ql := n3_b1ql.2
            have hn_b3ql : rNm E G213 roql b3 ls3 := hn_b3qn.fr hsql zKr_0
            obtain ⟨f_b3ql, n1_b3ql, n2_b3ql, n3_b3ql, n4_b3ql, n5_b3ql⟩ := id hn_b3ql
            have sm_b3ql := n3_b3ql.2
            refine lv_iload hx hb d_Mo_held_216 (lv_at hl 4 rfl) ?_
            refine lv_if_eq (tgt := 230) hx hb d_Mo_held_218 (by decide) (fun c218 => ?_) (fun c218 => ?_)
            · have hfx : ls3 = ls1 := Classical.byContradiction (fun z => hzw.z c218 z)
              exact hret _ _ _ _ _ _ _ (⟨roql, by rw [vtl_c hC hfx, hsc]; exact hstql, hfql⟩) hG hS (by dsimp only [List.length_nil]; omega) (by dsimp only [List.length_nil]; omega) d_Mo_held_230
            · have hfx : ¬ ls3 = ls1 := hzw.nz c218
              have hzl1 := hx1 hfx
              have hE4 : vtl (rVf rs) lo (zscu se) Wz ls1 ls3 t = vpr (rVf rs) lo true (vpr (rVf rs) lo true (vst (rVf rs) lo (vtl1 (rVf rs) Wz ls1 ls3 t)) (vat (rVf rs) lo ls3)) (vov (rVf rs) lo ls1) := by rw [vtl_d hC hfx, hsc]
              have hb4 : rBd c2 (vpr (rVf rs) lo true (vpr (rVf rs) lo true (vst (rVf rs) lo (vtl1 (rVf rs) Wz ls1 ls3 t)) (vat (rVf rs) lo ls3)) (vov (rVf rs) lo ls1)) := by rw [← hE4]; exact hB
              have hP4 : rPi c1 c2 (vtl (rVf rs) lo (zscu se) Wz ls1 ls3 t) 0 = rPi c1 c2 (vpr (rVf rs) lo true (vpr (rVf rs) lo true (vst (rVf rs) lo (vtl1 (rVf rs) Wz ls1 ls3 t)) (vat (rVf rs) lo ls3)) (vov (rVf rs) lo ls1)) 0 := by rw [hE4]
              have hle4 : zLe (vpr (rVf rs) lo true (vst (rVf rs) lo (vtl1 (rVf rs) Wz ls1 ls3 t)) (vat (rVf rs) lo ls3)) (vpr (rVf rs) lo true (vpr (rVf rs) lo true (vst (rVf rs) lo (vtl1 (rVf rs) Wz ls1 ls3 t)) (vat (rVf rs) lo ls3)) (vov (rVf rs) lo ls1)) := vpr_le _ _ _ _ _
              have hpi4 := rPi_le (n := 0) (m := 0) hc1 hc2 hle4 (rPw_le hle4)
              have hwl4 := wln_le hle4
              refine lv_aload_n hx hb d_Mo_held_221 rfl (lv_at hl 0 rfl) ?_
              refine lv_aload_n hx hb d_Mo_held_222 rfl (lv_at hl 0 rfl) ?_
              refine lv_aload_n hx hb d_Mo_held_223 rfl (lv_at hl 1 rfl) ?_
              have hGo224 := hG
              refine zk_q (va_runV (As := [.ref b1]) (rest := [.ref a]) ⟨hx, hb, hml, hown, hts⟩ (t_Mo_before_s l hstql b1 ls1 hn_b1ql (hzl1)) (zcV 1 hts w_1556 w_1558 wp_55 w_30 w_1559 (by decide +kernel) ⟨Nat.le_of_ble_eq_true rfl, Nat.le_of_ble_eq_true rfl⟩) (zc_preV hbase hK hN hQ hG hS raql rfl) rfl rfl hl.1 rfl (lv_room (Nat.le_of_ble_eq_true rfl)) d_Mo_held_224 ⟨(by dsimp only [List.length_nil]; omega), (by dsimp only [List.length_nil]; omega)⟩) hS (fun r224 G224 H locs hp224 hG hS => ?_)
              have hG : zP E G213 H := hp224.2 ▸ hG
              obtain ⟨j224, hj224, er224, hov224, hv224⟩ := hp224.1
              refine zr_some (a := rN (re rs j224)) er224 ?_
              have hnb224 := (hstql.nm hj224).1
              have hGo227 := hG
              refine zk_v (va_runV (As := [.ref (rN (re rs j224))]) (rest := []) ⟨hx, hb, hml, hown, hts⟩ (t_Mo_link l E G213 a c1 c2 roql lo rs (vpr (rVf rs) lo true (vst (rVf rs) lo (vtl1 (rVf rs) Wz ls1 ls3 t)) (vat (rVf rs) lo ls3)) wp th co se tp v19 v20 hstql (rN (re rs j224)) (rM (re rs j224)) hnb224 hov224.1.2 (by rw [hv224] at hb4; have := (hb4.le hc2 (vpr_le _ _ _ _ _)).1; omega) (by rw [hv224] at hb4; exact hb4.2)) (zcV 1 hts w_1493 w_1495 wp_43 w_30 w_1496 (by decide +kernel) ⟨Nat.le_of_ble_eq_true rfl, Nat.le_of_ble_eq_true rfl⟩) (zc_preV hbase hK hN hQ hG hS raql rfl) rfl rfl hl.1 rfl (lv_room (Nat.le_of_ble_eq_true rfl)) d_Mo_held_227 ⟨(by dsimp only [List.length_nil]; rw [← hv224]; omega), (by dsimp only [List.length_nil]; rw [← hv224]; omega)⟩) hS (fun G227 H locs hp227 hG hS => ?_)
              obtain ⟨roqm, hstqm, hsqm⟩ := hp227
              have hstqm : rSt E G227 roqm a c1 c2 lo rs (vpr (rVf rs) lo true (vpr (rVf rs) lo true (vst (rVf rs) lo (vtl1 (rVf rs) Wz ls1 ls3 t)) (vat (rVf rs) lo ls3)) (vov (rVf rs) lo ls1)) ([]) True (wln (vpr (rVf rs) lo true (vpr (rVf rs) lo true (vst (rVf rs) lo (vtl1 (rVf rs) Wz ls1 ls3 t)) (vat (rVf rs) lo ls3)) (vov (rVf rs) lo ls1)), 0, [], wp) th tp co se v19 v20 := by rw [hv224]; exact hstqm
              have hfqm : zfr ro zKr G roqm G227 := hfql.tr hsqm
              refine zW_more (cells2 := rPi c1 c2 (vpr (rVf rs) lo true (vpr (rVf rs) lo true (vst (rVf rs) lo (vtl1 (rVf rs) Wz ls1 ls3 t)) (vat (rVf rs) lo ls3)) (vov (rVf rs) lo ls1)) 0 - rPi c1 c2 Wz 0 + 0) (slots2 := rPi c1 c2 (vpr (rVf rs) lo true (vpr (rVf rs) lo true (vst (rVf rs) lo (vtl1 (rVf rs) Wz ls1 ls3 t)) (vat (rVf rs) lo ls3)) (vov (rVf rs) lo ls1)) 0 - rPi c1 c2 Wz 0 + 0) (by dsimp only [List.length_nil]; rw [← hv224]; omega) (by dsimp only [List.length_nil]; rw [← hv224]; omega) ?_
              obtain ⟨hqm, eh0qm, eh1qm, eh2qm, hcqm⟩ := id hstqm
              obtain ⟨raqm, rbqm, ⟨fmqm, rt1qm, rt2qm, rt3qm, rt4qm⟩, rtlqm, ⟨foqm, rn1qm, rn2qm, rn3qm, rn4qm, rn5qm⟩, rrqm, rgqm, rasqm⟩ := id hcqm
              rw [eh0qm] at raqm
              obtain ⟨⟨frqm, rm4qm, hfrqm⟩, hn2qm, hRsqm⟩ := id rrqm.1
              have hn_b1qm : rNm E G227 roqm b1 ls1 := hn_b1ql.fr hsqm zKr_0
              obtain ⟨f_b1qm, n1_b1qm, n2_b1qm, n3_b1qm, n4_b1qm, n5_b1qm⟩ := id hn_b1qm
              have sm_b1qm := n3_b1qm.2
              have hn_b3qm : rNm E G227 roqm b3 ls3 := hn_b3ql.fr hsqm zKr_0
              obtain ⟨f_b3qm, n1_b3qm, n2_b3qm, n3_b3qm, n4_b3qm, n5_b3qm⟩ := id hn_b3qm
              have sm_b3qm := n3_b3qm.2
              exact hret _ _ _ _ _ _ _ (⟨roqm, by rw [hE4]; exact hstqm, hfqm⟩) hG hS (by dsimp only [List.length_nil]; omega) (by dsimp only [List.length_nil]; omega) d_Mo_held_230
        · have hsc := zscu_0 c191
          exact hret _ _ _ _ _ _ _ (⟨roqn, by by_cases hfx : ls3 = ls1; (rw [vtl_c hC hfx, hsc, vpr_f]; exact hstqn); (rw [vtl_d hC hfx, hsc, vpr_f, vpr_f]; exact hstqn), hfqn⟩) hG hS (by dsimp only [List.length_nil]; omega) (by dsimp only [List.length_nil]; omega) d_Mo_held_194
      · have hnC := (hC6.resolve_left (fun z => c158 z.1)).2
        refine lv_iload hx hb d_Mo_held_161 (lv_at hl 4 rfl) ?_
        refine lv_if_eq (tgt := 182) hx hb d_Mo_held_163 (by decide) (fun c163 => ?_) (fun c163 => ?_)
        · have hfx : ls3 = ls1 := Classical.byContradiction (fun z => hzw.z c163 z)
          exact hret _ _ _ _ _ _ _ (⟨ro6, by first | (rw [vtl_a hnC hfx]; exact hst6) | (rw [vtl_b hnC hfx, hsc, vpr_f]; exact hst6), hf6⟩) hG hS (by dsimp only [List.length_nil]; omega) (by dsimp only [List.length_nil]; omega) d_Mo_held_182
        · have hfx : ¬ ls3 = ls1 := hzw.nz c163
          have hzl1 := hx1 hfx
          refine lv_aload_n hx hb d_Mo_held_166 rfl (lv_at hl 0 rfl) ?_
          refine zg_get (ci := 11) (C := "ZoneAnswersModel") (T := T_Mo) (N := 21) hx hb hts zi_Mo hown hK hG ra6 rfl 17 (by decide) (hts _ w_1298) (fun _ h9 => h9) rfl d_Mo_held_167 ?_
          refine lv_if_eq (tgt := 182) hx hb d_Mo_held_170 (by decide) (fun c170 => ?_) (fun c170 => ?_)
          · have hsc := zscu_0 c170
            exact hret _ _ _ _ _ _ _ (⟨ro6, by first | (rw [vtl_a hnC hfx]; exact hst6) | (rw [vtl_b hnC hfx, hsc, vpr_f]; exact hst6), hf6⟩) hG hS (by dsimp only [List.length_nil]; omega) (by dsimp only [List.length_nil]; omega) d_Mo_held_182
          · have hsc := zscu_1 c170
            have hE3 : vtl (rVf rs) lo (zscu se) Wz ls1 ls3 t = vpr (rVf rs) lo true (vtl1 (rVf rs) Wz ls1 ls3 t) (vov (rVf rs) lo ls1) := by rw [vtl_b hnC hfx, hsc]
            have hb3 : rBd c2 (vpr (rVf rs) lo true (vtl1 (rVf rs) Wz ls1 ls3 t) (vov (rVf rs) lo ls1)) := by rw [← hE3]; exact hB
            have hP3 : rPi c1 c2 (vtl (rVf rs) lo (zscu se) Wz ls1 ls3 t) 0 = rPi c1 c2 (vpr (rVf rs) lo true (vtl1 (rVf rs) Wz ls1 ls3 t) (vov (rVf rs) lo ls1)) 0 := by rw [hE3]
            have hle3 : zLe (vtl1 (rVf rs) Wz ls1 ls3 t) (vpr (rVf rs) lo true (vtl1 (rVf rs) Wz ls1 ls3 t) (vov (rVf rs) lo ls1)) := vpr_le _ _ _ _ _
            have hpi3 := rPi_le (n := 0) (m := 0) hc1 hc2 hle3 (rPw_le hle3)
            have hwl3 := wln_le hle3
            refine lv_aload_n hx hb d_Mo_held_173 rfl (lv_at hl 0 rfl) ?_
            refine lv_aload_n hx hb d_Mo_held_174 rfl (lv_at hl 0 rfl) ?_
            refine lv_aload_n hx hb d_Mo_held_175 rfl (lv_at hl 1 rfl) ?_
            have hGo176 := hG
            refine zk_q (va_runV (As := [.ref b1]) (rest := [.ref a]) ⟨hx, hb, hml, hown, hts⟩ (t_Mo_before_s l hst6 b1 ls1 hn_b16 (hzl1)) (zcV 1 hts w_1556 w_1558 wp_55 w_30 w_1559 (by decide +kernel) ⟨Nat.le_of_ble_eq_true rfl, Nat.le_of_ble_eq_true rfl⟩) (zc_preV hbase hK hN hQ hG hS ra6 rfl) rfl rfl hl.1 rfl (lv_room (Nat.le_of_ble_eq_true rfl)) d_Mo_held_176 ⟨(by dsimp only [List.length_nil]; omega), (by dsimp only [List.length_nil]; omega)⟩) hS (fun r176 G176 H locs hp176 hG hS => ?_)
            have hG : zP E Gx H := hp176.2 ▸ hG
            obtain ⟨j176, hj176, er176, hov176, hv176⟩ := hp176.1
            refine zr_some (a := rN (re rs j176)) er176 ?_
            have hnb176 := (hst6.nm hj176).1
            have hGo179 := hG
            refine zk_v (va_runV (As := [.ref (rN (re rs j176))]) (rest := []) ⟨hx, hb, hml, hown, hts⟩ (t_Mo_link l E Gx a c1 c2 ro6 lo rs (vtl1 (rVf rs) Wz ls1 ls3 t) wp th co se tp v19 v20 hst6 (rN (re rs j176)) (rM (re rs j176)) hnb176 hov176.1.2 (by rw [hv176] at hb3; have := (hb3.le hc2 (vpr_le _ _ _ _ _)).1; omega) (by rw [hv176] at hb3; exact hb3.2)) (zcV 1 hts w_1493 w_1495 wp_43 w_30 w_1496 (by decide +kernel) ⟨Nat.le_of_ble_eq_true rfl, Nat.le_of_ble_eq_true rfl⟩) (zc_preV hbase hK hN hQ hG hS ra6 rfl) rfl rfl hl.1 rfl (lv_room (Nat.le_of_ble_eq_true rfl)) d_Mo_held_179 ⟨(by dsimp only [List.length_nil]; rw [← hv176]; omega), (by dsimp only [List.length_nil]; rw [← hv176]; omega)⟩) hS (fun G179 H locs hp179 hG hS => ?_)
            obtain ⟨roqk, hstqk, hsqk⟩ := hp179
            have hstqk : rSt E G179 roqk a c1 c2 lo rs (vpr (rVf rs) lo true (vtl1 (rVf rs) Wz ls1 ls3 t) (vov (rVf rs) lo ls1)) ([]) True (wln (vpr (rVf rs) lo true (vtl1 (rVf rs) Wz ls1 ls3 t) (vov (rVf rs) lo ls1)), 0, [], wp) th tp co se v19 v20 := by rw [hv176]; exact hstqk
            have hfqk : zfr ro zKr G roqk G179 := hf6.tr hsqk
            refine zW_more (cells2 := rPi c1 c2 (vpr (rVf rs) lo true (vtl1 (rVf rs) Wz ls1 ls3 t) (vov (rVf rs) lo ls1)) 0 - rPi c1 c2 Wz 0 + 0) (slots2 := rPi c1 c2 (vpr (rVf rs) lo true (vtl1 (rVf rs) Wz ls1 ls3 t) (vov (rVf rs) lo ls1)) 0 - rPi c1 c2 Wz 0 + 0) (by dsimp only [List.length_nil]; rw [← hv176]; omega) (by dsimp only [List.length_nil]; rw [← hv176]; omega) ?_
            obtain ⟨hqk, eh0qk, eh1qk, eh2qk, hcqk⟩ := id hstqk
            obtain ⟨raqk, rbqk, ⟨fmqk, rt1qk, rt2qk, rt3qk, rt4qk⟩, rtlqk, ⟨foqk, rn1qk, rn2qk, rn3qk, rn4qk, rn5qk⟩, rrqk, rgqk, rasqk⟩ := id hcqk
            rw [eh0qk] at raqk
            obtain ⟨⟨frqk, rm4qk, hfrqk⟩, hn2qk, hRsqk⟩ := id rrqk.1
            have hn_b1qk : rNm E G179 roqk b1 ls1 := hn_b16.fr hsqk zKr_0
            obtain ⟨f_b1qk, n1_b1qk, n2_b1qk, n3_b1qk, n4_b1qk, n5_b1qk⟩ := id hn_b1qk
            have sm_b1qk := n3_b1qk.2
            have hn_b3qk : rNm E G179 roqk b3 ls3 := hn_b36.fr hsqk zKr_0
            obtain ⟨f_b3qk, n1_b3qk, n2_b3qk, n3_b3qk, n4_b3qk, n5_b3qk⟩ := id hn_b3qk
            have sm_b3qk := n3_b3qk.2
            exact hret _ _ _ _ _ _ _ (⟨roqk, by rw [hE3]; exact hstqk, hfqk⟩) hG hS (by dsimp only [List.length_nil]; omega) (by dsimp only [List.length_nil]; omega) d_Mo_held_182
  refine lv_iconst (v := 0) hx hb d_Mo_held_0 (by decide) ?_
  refine lv_istore (lv' := [(5, .int 0), (0, .ref a), (1, .ref b1), (2, .ref b3), (3, .int t), (4, .int z9)]) hx hb d_Mo_held_1 hl (by decide) rfl (fun ls hl => ?_)
  refine lv_iconst (v := 0) hx hb d_Mo_held_3 (by decide) ?_
  refine zi_as (y := nI 0) (nI_0.symm) ?_
  refine lv_istore (lv' := [(6, .int (nI 0)), (5, .int 0), (0, .ref a), (1, .ref b1), (2, .ref b3), (3, .int t), (4, .int z9)]) hx hb d_Mo_held_4 hl (by decide) rfl (fun ls hl => ?_)
  have loop6 : ∀ (N : Nat) (Gv : zg_G) (T : List Nat) (u : Nat) (an9 : Int32) (ro8 : zRo) (H : Heap) (locs : List Loc), (65536 - u) < N → (rTp (fun t => (rVf rs) ls3 t ≠ []) u T) → (u ≤ 65536) → (t = 255 ∨ T = []) → ((an9 = 0 ∧ T = []) ∨ (an9 = 1 ∧ T ≠ [])) → (rSt E Gv ro8 a c1 c2 lo rs (wad 1 Wz (T.flatMap (fun u => vrw (rVf rs) ls1 ls3 (nI u)))) ([]) True (wln (wad 1 Wz (T.flatMap (fun u => vrw (rVf rs) ls1 ls3 (nI u)))), 0, [], wp) th tp co se v19 v20) → (zfr ro zKr G ro8 Gv) → zP E Gv H → zg_S (zc_b E) s.heap H locs → ∀ (ls : Array Slot), lv_has ls 9 [(0, .ref a), (1, .ref b1), (2, .ref b3), (3, .int t), (4, .int z9), (5, .int an9), (6, .int (nI u))] → W p l e (rm_Mo_held (rPi c1 c2 (vtl (rVf rs) lo (zscu se) Wz ls1 ls3 t) 0 - rPi c1 c2 Wz 0) (rPi c1 c2 (vtl (rVf rs) lo (zscu se) Wz ls1 ls3 t) 0 - rPi c1 c2 Wz 0)) s m args below meth c H locs (rPi c1 c2 (wad 1 Wz (T.flatMap (fun u => vrw (rVf rs) ls1 ls3 (nI u)))) 0 - rPi c1 c2 Wz 0 + 0) (rPi c1 c2 (wad 1 Wz (T.flatMap (fun u => vrw (rVf rs) ls1 ls3 (nI u)))) 0 - rPi c1 c2 Wz 0 + 0) Q (F0 m 6 ls []) := by
    intro N
    induction N with
    | zero =>
      intro Gv T u an9 ro8 H locs hlt
      exact absurd hlt (Nat.not_lt_zero _)
    | succ N ih =>
      intro Gv T u an9 ro8 H locs hlt hT hu hT0 hany hst8 hf8 hG hS ls hl
      have ih6 := ih
      obtain ⟨h8, eh08, eh18, eh28, hc8⟩ := id hst8
      obtain ⟨ra8, rb8, ⟨fm8, rt18, rt28, rt38, rt48⟩, rtl8, ⟨fo8, rn18, rn28, rn38, rn48, rn58⟩, rr8, rg8, ras8⟩ := id hc8
      rw [eh08] at ra8
      obtain ⟨⟨fr8, rm48, hfr8⟩, hn28, hRs8⟩ := id rr8.1
      have hn_b18 : rNm E Gv ro8 b1 ls1 := hn1.fr hf8 zKr_0
      obtain ⟨f_b18, n1_b18, n2_b18, n3_b18, n4_b18, n5_b18⟩ := id hn_b18
      have sm_b18 := n3_b18.2
      have hn_b38 : rNm E Gv ro8 b3 ls3 := hn3.fr hf8 zKr_0
      obtain ⟨f_b38, n1_b38, n2_b38, n3_b38, n4_b38, n5_b38⟩ := id hn_b38
      have sm_b38 := n3_b38.2
      have hTp := rTs_pre hT
      have hleT : t = 255 → zLe (wad 1 Wz (T.flatMap (fun u => vrw (rVf rs) ls1 ls3 (nI u)))) (vtl1 (rVf rs) Wz ls1 ls3 t) := fun z => by rw [vtl1_y z]; exact flt_le hTp
      have hpT : rPi c1 c2 Wz 0 ≤ rPi c1 c2 (wad 1 Wz (T.flatMap (fun u => vrw (rVf rs) ls1 ls3 (nI u)))) 0 := rPi_le hc1 hc2 (zLe_wad _ _ _) (rPw_le (zLe_wad _ _ _))
      refine lv_iload_n hx hb d_Mo_held_6 rfl (lv_at hl 3 rfl) ?_
      refine lv_sipush (v := 255) hx hb d_Mo_held_7 (by decide) ?_
      refine lv_icmp_ne (tgt := 129) hx hb d_Mo_held_10 (by decide) (fun c10 => ?_) (fun c10 => ?_)
      · have hT9 : T = [] := hT0.resolve_left c10
        have hWT : wad 1 Wz (T.flatMap (fun u => vrw (rVf rs) ls1 ls3 (nI u))) = Wz := by rw [hT9]; exact wad_nil 1 Wz
        have hstn : rSt E Gv ro8 a c1 c2 lo rs Wz ([]) True (wln Wz, 0, [], wp) th tp co se v19 v20 := by rw [hWT] at hst8; exact hst8
        refine zW_more (cells2 := rPi c1 c2 Wz 0 - rPi c1 c2 Wz 0 + 0) (slots2 := rPi c1 c2 Wz 0 - rPi c1 c2 Wz 0 + 0) (by rw [hWT]; exact Nat.le_refl _) (by rw [hWT]; exact Nat.le_refl _) ?_
        have han0 : an9 = 0 := by
          rcases hany with z | z
          · exact z.1
          · exact absurd hT9 z.2
        have hW1n : vtl1 (rVf rs) Wz ls1 ls3 t = wad 1 Wz (vrw (rVf rs) ls1 ls3 t) := vtl1_n c10
        have hP1n : rPi c1 c2 (vtl1 (rVf rs) Wz ls1 ls3 t) 0 = rPi c1 c2 (wad 1 Wz (vrw (rVf rs) ls1 ls3 t)) 0 := by rw [hW1n]
        have hw1n : wln (vtl1 (rVf rs) Wz ls1 ls3 t) = wln (wad 1 Wz (vrw (rVf rs) ls1 ls3 t)) := by rw [hW1n]
        obtain ⟨hn, eh0n, eh1n, eh2n, hcn⟩ := id hstn
        obtain ⟨ran, rbn, ⟨fmn, rt1n, rt2n, rt3n, rt4n⟩, rtln, ⟨fon, rn1n, rn2n, rn3n, rn4n, rn5n⟩, rrn, rgn, rasn⟩ := id hcn
        rw [eh0n] at ran
        obtain ⟨⟨frn, rm4n, hfrn⟩, hn2n, hRsn⟩ := id rrn.1
        have hn_b1n : rNm E Gv ro8 b1 ls1 := hn1.fr hf8 zKr_0
        obtain ⟨f_b1n, n1_b1n, n2_b1n, n3_b1n, n4_b1n, n5_b1n⟩ := id hn_b1n
        have sm_b1n := n3_b1n.2
        have hn_b3n : rNm E Gv ro8 b3 ls3 := hn3.fr hf8 zKr_0
        obtain ⟨f_b3n, n1_b3n, n2_b3n, n3_b3n, n4_b3n, n5_b3n⟩ := id hn_b3n
        have sm_b3n := n3_b3n.2
        refine lv_iload_n hx hb d_Mo_held_129 rfl (lv_at hl 3 rfl) ?_
        refine lv_sipush (v := 255) hx hb d_Mo_held_130 (by decide) ?_
        refine lv_icmp_eq (tgt := 156) hx hb d_Mo_held_133 (by decide) (fun c133 => ?_) (fun c133 => ?_)
        · exact absurd c133 c10
        · refine lv_aload_n hx hb d_Mo_held_136 rfl (lv_at hl 0 rfl) ?_
          refine lv_aload_n hx hb d_Mo_held_137 rfl (lv_at hl 2 rfl) ?_
          refine lv_iconst (v := 0) hx hb d_Mo_held_138 (by decide) ?_
          refine zi_as (y := nI (np_pos ls3 0)) (by rw [np_pos0]; rfl) ?_
          refine lv_iload_n hx hb d_Mo_held_139 rfl (lv_at hl 3 rfl) ?_
          refine zk_i (va_runV (As := [.ref b3, .int (nI (np_pos ls3 0)), .int t]) (rest := []) ⟨hx, hb, hml, hown, hts⟩ (t_Mo_has_s l hstn 0 t b3 ls3 hn_b3n (Nat.zero_le _)) (zcV 3 hts w_1408 w_1410 wp_30 w_30 w_1411 (by decide +kernel) ⟨Nat.le_of_ble_eq_true rfl, Nat.le_of_ble_eq_true rfl⟩) (zc_preV hbase hK hN hQ hG hS ran rfl) rfl rfl hl.1 rfl (lv_room (Nat.le_of_ble_eq_true rfl)) d_Mo_held_140 ⟨(by dsimp only [List.length_nil]; omega), (by dsimp only [List.length_nil]; omega)⟩) hS (fun r140 G140 H locs hp140 hG hS => ?_)
          have hG : zP E Gv H := hp140.2 ▸ hG
          refine lv_if_eq (tgt := 156) hx hb d_Mo_held_143 (by decide) (fun c143 => ?_) (fun c143 => ?_)
          · have hno43 : (rVf rs) ls3 t = [] := Classical.byContradiction (fun z => hp140.1.z c143 z)
            have hW1z : vtl1 (rVf rs) Wz ls1 ls3 t = Wz := by rw [hW1n]; unfold vrw; rw [hno43]; exact wad_nil 1 Wz
            have hst9 : rSt E Gv ro8 a c1 c2 lo rs (vtl1 (rVf rs) Wz ls1 ls3 t) ([]) True (wln (vtl1 (rVf rs) Wz ls1 ls3 t), 0, [], wp) th tp co se v19 v20 := by rw [hW1z]; exact hstn
            have hP1t : rPi c1 c2 (vtl1 (rVf rs) Wz ls1 ls3 t) 0 = rPi c1 c2 Wz 0 := by rw [hW1z]
            have hC9 : (an9 = 0 ∧ (¬ vD (rVf rs) ls3 ∨ (¬ t = 255 ∧ (rVf rs) ls3 t = []))) ∨ (an9 = 1 ∧ ¬ (¬ vD (rVf rs) ls3 ∨ (¬ t = 255 ∧ (rVf rs) ls3 t = []))) := Or.inl ⟨han0, Or.inr ⟨c10, hno43⟩⟩
            refine zW_more (cells2 := rPi c1 c2 (vtl1 (rVf rs) Wz ls1 ls3 t) 0 - rPi c1 c2 Wz 0 + 0) (slots2 := rPi c1 c2 (vtl1 (rVf rs) Wz ls1 ls3 t) 0 - rPi c1 c2 Wz 0 + 0) (by first | omega | (dsimp only [List.length_nil]; omega)) (by first | omega | (dsimp only [List.length_nil]; omega)) ?_
            exact loop156 _ Gv an9 ro8 _ _ (Nat.lt_succ_self _) (hC9) (hst9) (hf8) hG hS ls (lv_sub hl [0, 1, 2, 3, 4, 5] rfl)
          · have hya := hp140.1.nz c143
            have ht47 := rV47 hgd hya
            refine lv_iconst (v := 1) hx hb d_Mo_held_146 (by decide) ?_
            refine lv_istore (lv' := [(5, .int 1), (0, .ref a), (1, .ref b1), (2, .ref b3), (3, .int t), (4, .int z9), (6, .int (nI u))]) hx hb d_Mo_held_147 hl (by decide) rfl (fun ls hl => ?_)
            refine lv_aload_n hx hb d_Mo_held_149 rfl (lv_at hl 1 rfl) ?_
            refine lv_aload_n hx hb d_Mo_held_150 rfl (lv_at hl 2 rfl) ?_
            refine lv_aload_n hx hb d_Mo_held_151 rfl (lv_at hl 3 rfl) ?_
            refine lv_iload_n hx hb d_Mo_held_152 rfl (lv_at hl 4 rfl) ?_
            have hGo153 := hG
            refine zk_v (va_runV (As := [.ref b1, .ref b3, .int t]) (rest := []) ⟨hx, hb, hml, hown, hts⟩ (t_Mo_first l E Gv a c1 c2 ro8 lo rs Wz wp th co se tp v19 v20 hstn b1 ls1 hn_b1n b3 ls3 hn_b3n t ht47 hvd (by rw [← hw1n]; exact hb1.1)) (zcV 3 hts w_1560 w_1562 wp_56 w_30 w_1563 (by decide +kernel) ⟨Nat.le_of_ble_eq_true rfl, Nat.le_of_ble_eq_true rfl⟩) (zc_preV hbase hK hN hQ hG hS ran rfl) rfl rfl hl.1 rfl (lv_room (Nat.le_of_ble_eq_true rfl)) d_Mo_held_153 ⟨(by dsimp only [List.length_nil]; omega), (by dsimp only [List.length_nil]; omega)⟩) hS (fun G153 H locs hp153 hG hS => ?_)
            obtain ⟨roqf, hstqf, hsqf⟩ := hp153
            have hfqf : zfr ro zKr G roqf G153 := hf8.tr hsqf
            refine zW_more (cells2 := rPi c1 c2 (wad 1 Wz (vrw (rVf rs) ls1 ls3 t)) 0 - rPi c1 c2 Wz 0 + 0) (slots2 := rPi c1 c2 (wad 1 Wz (vrw (rVf rs) ls1 ls3 t)) 0 - rPi c1 c2 Wz 0 + 0) (by dsimp only [List.length_nil]; omega) (by dsimp only [List.length_nil]; omega) ?_
            obtain ⟨hqf, eh0qf, eh1qf, eh2qf, hcqf⟩ := id hstqf
            obtain ⟨raqf, rbqf, ⟨fmqf, rt1qf, rt2qf, rt3qf, rt4qf⟩, rtlqf, ⟨foqf, rn1qf, rn2qf, rn3qf, rn4qf, rn5qf⟩, rrqf, rgqf, rasqf⟩ := id hcqf
            rw [eh0qf] at raqf
            obtain ⟨⟨frqf, rm4qf, hfrqf⟩, hn2qf, hRsqf⟩ := id rrqf.1
            have hn_b1qf : rNm E G153 roqf b1 ls1 := hn_b1n.fr hsqf zKr_0
            obtain ⟨f_b1qf, n1_b1qf, n2_b1qf, n3_b1qf, n4_b1qf, n5_b1qf⟩ := id hn_b1qf
            have sm_b1qf := n3_b1qf.2
            have hn_b3qf : rNm E G153 roqf b3 ls3 := hn_b3n.fr hsqf zKr_0
            obtain ⟨f_b3qf, n1_b3qf, n2_b3qf, n3_b3qf, n4_b3qf, n5_b3qf⟩ := id hn_b3qf
            have sm_b3qf := n3_b3qf.2
            have hC9 : ((1 : Int32) = 0 ∧ (¬ vD (rVf rs) ls3 ∨ (¬ t = 255 ∧ (rVf rs) ls3 t = []))) ∨ ((1 : Int32) = 1 ∧ ¬ (¬ vD (rVf rs) ls3 ∨ (¬ t = 255 ∧ (rVf rs) ls3 t = []))) := Or.inr ⟨rfl, fun z => z.elim (fun w => w ⟨_, hya⟩) (fun w => hya w.2)⟩
            have hst9 : rSt E G153 roqf a c1 c2 lo rs (vtl1 (rVf rs) Wz ls1 ls3 t) ([]) True (wln (vtl1 (rVf rs) Wz ls1 ls3 t), 0, [], wp) th tp co se v19 v20 := by rw [hW1n]; exact hstqf
            refine zW_more (cells2 := rPi c1 c2 (vtl1 (rVf rs) Wz ls1 ls3 t) 0 - rPi c1 c2 Wz 0 + 0) (slots2 := rPi c1 c2 (vtl1 (rVf rs) Wz ls1 ls3 t) 0 - rPi c1 c2 Wz 0 + 0) (by first | omega | (dsimp only [List.length_nil]; omega)) (by first | omega | (dsimp only [List.length_nil]; omega)) ?_
            exact loop156 _ G153 1 roqf _ _ (Nat.lt_succ_self _) (hC9) (hst9) (hfqf) hG hS ls (lv_sub hl [1, 2, 3, 4, 5, 0] rfl)
      · have hl9 := hleT c10
        have hp9 := rPi_le (n := 0) (m := 0) hc1 hc2 hl9 (rPw_le hl9)
        have hw9 := wln_le hl9
        refine lv_iload hx hb d_Mo_held_13 (lv_at hl 6 rfl) ?_
        refine lv_ldc hx hb hown (hts _ w_1251) d_Mo_held_15 ?_
        refine zi_as (y := nI 65536) (by decide) ?_
        refine lv_icmp_ge (tgt := 129) hx hb d_Mo_held_17 (by decide) (fun c17 => ?_) (fun c17 => ?_)
        · have b17 : 65536 ≤ u := (nI_leI (a := 65536) (b := u) (by omega) (by omega)).mp c17
          have hu9 : u = 65536 := by omega
          rw [hu9] at hT
          have hW1t : vtl1 (rVf rs) Wz ls1 ls3 t = wad 1 Wz (T.flatMap (fun u => vrw (rVf rs) ls1 ls3 (nI u))) := by rw [vtl1_y c10, rTs_e hT]
          have hP1t : rPi c1 c2 (vtl1 (rVf rs) Wz ls1 ls3 t) 0 = rPi c1 c2 (wad 1 Wz (T.flatMap (fun u => vrw (rVf rs) ls1 ls3 (nI u)))) 0 := by rw [hW1t]
          have hst9 : rSt E Gv ro8 a c1 c2 lo rs (vtl1 (rVf rs) Wz ls1 ls3 t) ([]) True (wln (vtl1 (rVf rs) Wz ls1 ls3 t), 0, [], wp) th tp co se v19 v20 := by rw [hW1t]; exact hst8
          have hC9 : (an9 = 0 ∧ (¬ vD (rVf rs) ls3 ∨ (¬ t = 255 ∧ (rVf rs) ls3 t = []))) ∨ (an9 = 1 ∧ ¬ (¬ vD (rVf rs) ls3 ∨ (¬ t = 255 ∧ (rVf rs) ls3 t = []))) := by
            rcases hany with ⟨z1, z2⟩ | ⟨z1, z2⟩
            · refine Or.inl ⟨z1, Or.inl (fun ⟨t9, ht9⟩ => ?_)⟩
              obtain ⟨e, he, e1, e2⟩ := rVf_ne.mp ht9
              have q := rTn_eq hgd he
              have hm : rTn e ∈ T := (hT.2 _).mpr ⟨q.2.1, by show (rVf rs) ls3 (nI (rTn e)) ≠ []; rw [← q.1, e1]; exact ht9, by omega⟩
              rw [z2] at hm; exact List.not_mem_nil hm
            · refine Or.inr ⟨z1, fun z => ?_⟩
              rcases z with z | z
              · obtain ⟨t9, ht9⟩ := List.exists_mem_of_ne_nil T z2
                exact z ⟨_, ((hT.2 t9).mp ht9).2.1⟩
              · exact z.1 c10
          refine lv_iload_n hx hb d_Mo_held_129 rfl (lv_at hl 3 rfl) ?_
          refine lv_sipush (v := 255) hx hb d_Mo_held_130 (by decide) ?_
          refine lv_icmp_eq (tgt := 156) hx hb d_Mo_held_133 (by decide) (fun c133 => ?_) (fun c133 => ?_)
          · refine zW_more (cells2 := rPi c1 c2 (vtl1 (rVf rs) Wz ls1 ls3 t) 0 - rPi c1 c2 Wz 0 + 0) (slots2 := rPi c1 c2 (vtl1 (rVf rs) Wz ls1 ls3 t) 0 - rPi c1 c2 Wz 0 + 0) (by first | omega | (dsimp only [List.length_nil]; omega)) (by first | omega | (dsimp only [List.length_nil]; omega)) ?_
            exact loop156 _ Gv an9 ro8 _ _ (Nat.lt_succ_self _) (hC9) (hst9) (hf8) hG hS ls (lv_sub hl [0, 1, 2, 3, 4, 5] rfl)
          · exact absurd c10 c133
        · have b17 : ¬ 65536 ≤ u := fun q => c17 ((nI_leI (a := 65536) (b := u) (by omega) (by omega)).mpr q)
          refine lv_ldc hx hb hown (hts _ w_1251) d_Mo_held_20 ?_
          refine zi_as (y := nI 65536) (by decide) ?_
          refine lv_istore (lv' := [(7, .int (nI 65536)), (0, .ref a), (1, .ref b1), (2, .ref b3), (3, .int t), (4, .int z9), (5, .int an9), (6, .int (nI u))]) hx hb d_Mo_held_22 hl (by decide) rfl (fun ls hl => ?_)
          refine lv_iconst (v := 0) hx hb d_Mo_held_24 (by decide) ?_
          refine zi_as (y := nI 0) (nI_0.symm) ?_
          refine lv_istore (lv' := [(8, .int (nI 0)), (7, .int (nI 65536)), (0, .ref a), (1, .ref b1), (2, .ref b3), (3, .int t), (4, .int z9), (5, .int an9), (6, .int (nI u))]) hx hb d_Mo_held_25 hl (by decide) rfl (fun ls hl => ?_)
          have loop27 : ∀ (N : Nat) (Gw : zg_G) (i : Nat) (bs : Nat) (H : Heap) (locs : List Loc), (rs.length - i) < N → (i ≤ rs.length) → (bs ≤ 65536) → (rBs rs ls3 u i bs) → (rSt E Gw ro8 a c1 c2 lo rs (wad 1 Wz (T.flatMap (fun u => vrw (rVf rs) ls1 ls3 (nI u)))) ([]) True (wln (wad 1 Wz (T.flatMap (fun u => vrw (rVf rs) ls1 ls3 (nI u)))), 0, [], wp) th tp co se v19 v20) → (zfr ro zKr G ro8 Gw) → zP E Gw H → zg_S (zc_b E) s.heap H locs → ∀ (ls : Array Slot), lv_has ls 9 [(0, .ref a), (1, .ref b1), (2, .ref b3), (3, .int t), (4, .int z9), (5, .int an9), (6, .int (nI u)), (7, .int (nI bs)), (8, .int (nI i))] → W p l e (rm_Mo_held (rPi c1 c2 (vtl (rVf rs) lo (zscu se) Wz ls1 ls3 t) 0 - rPi c1 c2 Wz 0) (rPi c1 c2 (vtl (rVf rs) lo (zscu se) Wz ls1 ls3 t) 0 - rPi c1 c2 Wz 0)) s m args below meth c H locs (rPi c1 c2 (wad 1 Wz (T.flatMap (fun u => vrw (rVf rs) ls1 ls3 (nI u)))) 0 - rPi c1 c2 Wz 0 + 0) (rPi c1 c2 (wad 1 Wz (T.flatMap (fun u => vrw (rVf rs) ls1 ls3 (nI u)))) 0 - rPi c1 c2 Wz 0 + 0) Q (F0 m 27 ls []) := by
            intro N
            induction N with
            | zero =>
              intro Gw i bs H locs hlt
              exact absurd hlt (Nat.not_lt_zero _)
            | succ N ih =>
              intro Gw i bs H locs hlt hi hbs6 hbs hst7 hf7 hG hS ls hl
              obtain ⟨h7, eh07, eh17, eh27, hc7⟩ := id hst7
              obtain ⟨ra7, rb7, ⟨fm7, rt17, rt27, rt37, rt47⟩, rtl7, ⟨fo7, rn17, rn27, rn37, rn47, rn57⟩, rr7, rg7, ras7⟩ := id hc7
              rw [eh07] at ra7
              obtain ⟨⟨fr7, rm47, hfr7⟩, hn27, hRs7⟩ := id rr7.1
              have hn_b17 : rNm E Gw ro8 b1 ls1 := hn1.fr hf7 zKr_0
              obtain ⟨f_b17, n1_b17, n2_b17, n3_b17, n4_b17, n5_b17⟩ := id hn_b17
              have sm_b17 := n3_b17.2
              have hn_b37 : rNm E Gw ro8 b3 ls3 := hn3.fr hf7 zKr_0
              obtain ⟨f_b37, n1_b37, n2_b37, n3_b37, n4_b37, n5_b37⟩ := id hn_b37
              have sm_b37 := n3_b37.2
              refine lv_iload hx hb d_Mo_held_27 (lv_at hl 8 rfl) ?_
              refine lv_aload_n hx hb d_Mo_held_29 rfl (lv_at hl 0 rfl) ?_
              refine zg_get (ci := 11) (C := "ZoneAnswersModel") (T := T_Mo) (N := 21) hx hb hts zi_Mo hown hK hG ra7 rfl 5 (by decide) (hts _ w_1286) (fun _ h9 => h9) rfl d_Mo_held_30 ?_
              refine lv_icmp_ge (tgt := 101) hx hb d_Mo_held_33 (by decide) (fun c33 => ?_) (fun c33 => ?_)
              · have b33 : rs.length ≤ i := (nI_leI (a := rs.length) (b := i) (by omega) (by omega)).mp c33
                have hi9 : i = rs.length := by omega
                rw [hi9] at hbs
                refine lv_iload hx hb d_Mo_held_101 (lv_at hl 7 rfl) ?_
                refine lv_istore (lv' := [(6, .int (nI bs)), (0, .ref a), (1, .ref b1), (2, .ref b3), (3, .int t), (4, .int z9), (5, .int an9), (7, .int (nI bs)), (8, .int (nI i))]) hx hb d_Mo_held_103 hl (by decide) rfl (fun ls hl => ?_)
                refine lv_iload hx hb d_Mo_held_105 (lv_at hl 7 rfl) ?_
                refine lv_ldc hx hb hown (hts _ w_1251) d_Mo_held_107 ?_
                refine zi_as (y := nI 65536) (by decide) ?_
                refine lv_icmp_ne (tgt := 115) hx hb d_Mo_held_109 (by decide) (fun c109 => ?_) (fun c109 => ?_)
                · have b109 : ¬ bs = 65536 := fun q => c109 ((nI_eq (a := bs) (b := 65536) (by omega) (by omega)).mpr q)
                  obtain ⟨hTb, hub, hpb⟩ := rTp_b hgd hT hbs (by rcases hbs with ⟨z, -⟩ | ⟨z, -⟩; exact absurd z b109; exact z)
                  have hbs6 : bs < 65536 := by rcases hbs with ⟨z, -⟩ | ⟨z, -⟩; exact absurd z b109; exact z
                  have hTp2 := rTs_pre hTb
                  have hl10 : zLe (wad 1 Wz ((T ++ [bs]).flatMap (fun u => vrw (rVf rs) ls1 ls3 (nI u)))) (vtl1 (rVf rs) Wz ls1 ls3 t) := by rw [vtl1_y c10]; exact flt_le hTp2
                  have hp10 := rPi_le (n := 0) (m := 0) hc1 hc2 hl10 (rPw_le hl10)
                  have hw10 := wln_le hl10
                  have hWs : wad 1 Wz ((T ++ [bs]).flatMap (fun u => vrw (rVf rs) ls1 ls3 (nI u))) = wad 1 (wad 1 Wz (T.flatMap (fun u => vrw (rVf rs) ls1 ls3 (nI u)))) (vrw (rVf rs) ls1 ls3 (nI bs)) := by rw [List.flatMap_append, wad_app]; congr 1; simp
                  have hPs : rPi c1 c2 (wad 1 Wz ((T ++ [bs]).flatMap (fun u => vrw (rVf rs) ls1 ls3 (nI u)))) 0 = rPi c1 c2 (wad 1 (wad 1 Wz (T.flatMap (fun u => vrw (rVf rs) ls1 ls3 (nI u)))) (vrw (rVf rs) ls1 ls3 (nI bs))) 0 := by rw [hWs]
                  have hws : wln (wad 1 Wz ((T ++ [bs]).flatMap (fun u => vrw (rVf rs) ls1 ls3 (nI u)))) = wln (wad 1 (wad 1 Wz (T.flatMap (fun u => vrw (rVf rs) ls1 ls3 (nI u)))) (vrw (rVf rs) ls1 ls3 (nI bs))) := by rw [hWs]
                  have hps2 : rPi c1 c2 (wad 1 Wz (T.flatMap (fun u => vrw (rVf rs) ls1 ls3 (nI u)))) 0 ≤ rPi c1 c2 (wad 1 (wad 1 Wz (T.flatMap (fun u => vrw (rVf rs) ls1 ls3 (nI u)))) (vrw (rVf rs) ls1 ls3 (nI bs))) 0 := rPi_le hc1 hc2 (zLe_wad _ _ _) (rPw_le (zLe_wad _ _ _))
                  refine lv_iconst (v := 1) hx hb d_Mo_held_115 (by decide) ?_
                  refine lv_istore (lv' := [(5, .int 1), (6, .int (nI bs)), (0, .ref a), (1, .ref b1), (2, .ref b3), (3, .int t), (4, .int z9), (7, .int (nI bs)), (8, .int (nI i))]) hx hb d_Mo_held_116 hl (by decide) rfl (fun ls hl => ?_)
                  refine lv_aload_n hx hb d_Mo_held_118 rfl (lv_at hl 2 rfl) ?_
                  refine lv_aload_n hx hb d_Mo_held_119 rfl (lv_at hl 3 rfl) ?_
                  refine lv_aload_n hx hb d_Mo_held_120 rfl (lv_at hl 4 rfl) ?_
                  refine lv_iload hx hb d_Mo_held_121 (lv_at hl 7 rfl) ?_
                  have hGo123 := hG
                  refine zk_v (va_runV (As := [.ref b1, .ref b3, .int (nI bs)]) (rest := []) ⟨hx, hb, hml, hown, hts⟩ (t_Mo_first l E Gw a c1 c2 ro8 lo rs (wad 1 Wz (T.flatMap (fun u => vrw (rVf rs) ls1 ls3 (nI u)))) wp th co se tp v19 v20 hst7 b1 ls1 hn_b17 b3 ls3 hn_b37 (nI bs) (rV47 hgd hpb) hvd (by rw [← hws]; have := hb1.1; omega)) (zcV 3 hts w_1560 w_1562 wp_56 w_30 w_1563 (by decide +kernel) ⟨Nat.le_of_ble_eq_true rfl, Nat.le_of_ble_eq_true rfl⟩) (zc_preV hbase hK hN hQ hG hS ra7 rfl) rfl rfl hl.1 rfl (lv_room (Nat.le_of_ble_eq_true rfl)) d_Mo_held_123 ⟨(by dsimp only [List.length_nil]; omega), (by dsimp only [List.length_nil]; omega)⟩) hS (fun G123 H locs hp123 hG hS => ?_)
                  obtain ⟨ro5, hst5, hs5⟩ := hp123
                  have hst5 : rSt E G123 ro5 a c1 c2 lo rs (wad 1 Wz ((T ++ [bs]).flatMap (fun u => vrw (rVf rs) ls1 ls3 (nI u)))) ([]) True (wln (wad 1 Wz ((T ++ [bs]).flatMap (fun u => vrw (rVf rs) ls1 ls3 (nI u)))), 0, [], wp) th tp co se v19 v20 := by rw [hWs]; exact hst5
                  have hf5 : zfr ro zKr G ro5 G123 := hf7.tr hs5
                  refine lv_goto (tgt := 6) hx hb d_Mo_held_126 (by decide) ?_
                  refine zW_more (cells2 := rPi c1 c2 (wad 1 Wz ((T ++ [bs]).flatMap (fun u => vrw (rVf rs) ls1 ls3 (nI u)))) 0 - rPi c1 c2 Wz 0 + 0) (slots2 := rPi c1 c2 (wad 1 Wz ((T ++ [bs]).flatMap (fun u => vrw (rVf rs) ls1 ls3 (nI u)))) 0 - rPi c1 c2 Wz 0 + 0) (by dsimp only [List.length_nil]; omega) (by dsimp only [List.length_nil]; omega) ?_
                  exact ih6 G123 (T ++ [bs]) bs 1 ro5 _ _ (by omega) (hTb) (by omega) (Or.inl c10) (Or.inr ⟨rfl, by simp⟩) (hst5) (hf5) hG hS ls (lv_sub hl [2, 3, 4, 5, 6, 0, 1] rfl)
                · have b109 : bs = 65536 := (nI_eq (a := bs) (b := 65536) (by omega) (by omega)).mp c109
                  refine lv_goto (tgt := 6) hx hb d_Mo_held_112 (by decide) ?_
                  refine zW_more (cells2 := rPi c1 c2 (wad 1 Wz (T.flatMap (fun u => vrw (rVf rs) ls1 ls3 (nI u)))) 0 - rPi c1 c2 Wz 0 + 0) (slots2 := rPi c1 c2 (wad 1 Wz (T.flatMap (fun u => vrw (rVf rs) ls1 ls3 (nI u)))) 0 - rPi c1 c2 Wz 0 + 0) (Nat.le_refl _) (Nat.le_refl _) ?_
                  exact ih6 Gw T bs an9 ro8 _ _ (by omega) (by rw [b109]; exact rTp_z hgd hT (by rw [b109] at hbs; exact hbs) hu) (by omega) (Or.inl c10) (hany) (hst7) (hf7) hG hS ls (lv_sub hl [1, 2, 3, 4, 5, 6, 0] rfl)
              · have b33 : ¬ rs.length ≤ i := fun q => c33 ((nI_leI (a := rs.length) (b := i) (by omega) (by omega)).mpr q)
                have hin : i < rs.length := by omega
                obtain ⟨hr1, ⟨nf, hr2, hr3, hr4, hr5⟩, df, hr6, hr7, hr8⟩ := hRs7 _ (re_mem hin)
                have sm := hr4.2
                have htq := rTn_eq hgd (re_mem hin)
                have hti : (nI u < rT (re rs i) ↔ u < rTn (re rs i)) := by rw [htq.1]; exact nI_ltI (by omega) (by have := htq.2.1; omega)
                have htb : (rT (re rs i) < nI bs ↔ rTn (re rs i) < bs) := by rw [htq.1]; exact nI_ltI (by have := htq.2.1; omega) (by omega)
                refine lv_aload_n hx hb d_Mo_held_36 rfl (lv_at hl 0 rfl) ?_
                refine zg_get (ci := 11) (C := "ZoneAnswersModel") (T := T_Mo) (N := 21) hx hb hts zi_Mo hown hK hG ra7 rfl 4 (by decide) (hts _ w_1285) (fun _ h9 => h9) rfl d_Mo_held_37 ?_
                refine lv_iload hx hb d_Mo_held_40 (lv_at hl 8 rfl) ?_
                refine zg_aldq hx hb hK hG 4 rm47 rfl (vp_in_nI (by omega) (by omega)) d_Mo_held_42 ?_
                refine zr_as (y := fr7 i) (by rw [zi_n _ (by omega)]) ?_
                refine zr_some (a := rA (re rs i)) (hfr7 i hin) ?_
                refine zg_get (ci := 12) (C := "ZoneAnswersModel$Rec") (T := T_Re) (N := 5) hx hb hts zi_Re hown hK hG hr1 rfl 3 (by decide) (hts _ w_1268) (fun _ h9 => h9) rfl d_Mo_held_43 ?_
                refine lv_iload hx hb d_Mo_held_46 (lv_at hl 6 rfl) ?_
                refine lv_icmp_le (tgt := 95) hx hb d_Mo_held_48 (by decide) (fun c48 => ?_) (fun c48 => ?_)
                · refine lv_iinc (v := nI (i + 1)) (lv' := [(8, .int (nI (i + 1))), (0, .ref a), (1, .ref b1), (2, .ref b3), (3, .int t), (4, .int z9), (5, .int an9), (6, .int (nI u)), (7, .int (nI bs))]) hx hb d_Mo_held_95 hl (k := 8) rfl (nI_add i 1) (by decide) rfl (fun ls hl => ?_)
                  refine lv_goto (tgt := 27) hx hb d_Mo_held_98 (by decide) ?_
                  exact ih Gw (i + 1) bs _ _ (by omega) (by omega) (hbs6) (by first | exact rBs_n hbs htq.2.1 (fun _ z => absurd (hti.mpr z) (Int32.not_lt.mpr c48)) | exact rBs_n hbs htq.2.1 (fun _ _ => Nat.le_of_not_lt (fun z => absurd (htb.mpr z) (Int32.not_lt.mpr c63))) | exact rBs_n hbs htq.2.1 (fun z _ => absurd ((zsm_n hr3 n2_b37 hr4 n3_b37).mpr z) (hp77.1.z c80)) | exact rBs_y hbs htq.2.1 ((zsm_n hr3 n2_b37 hr4 n3_b37).mp (hp77.1.nz c80)) (hti.mp (Int32.not_le.mp c48)) (htb.mp (Int32.not_le.mp c63))) (hst7) (hf7) hG hS ls (lv_sub hl [1, 2, 3, 4, 5, 6, 7, 8, 0] rfl)
                · refine lv_aload_n hx hb d_Mo_held_51 rfl (lv_at hl 0 rfl) ?_
                  refine zg_get (ci := 11) (C := "ZoneAnswersModel") (T := T_Mo) (N := 21) hx hb hts zi_Mo hown hK hG ra7 rfl 4 (by decide) (hts _ w_1285) (fun _ h9 => h9) rfl d_Mo_held_52 ?_
                  refine lv_iload hx hb d_Mo_held_55 (lv_at hl 8 rfl) ?_
                  refine zg_aldq hx hb hK hG 4 rm47 rfl (vp_in_nI (by omega) (by omega)) d_Mo_held_57 ?_
                  refine zr_as (y := fr7 i) (by rw [zi_n _ (by omega)]) ?_
                  refine zr_some (a := rA (re rs i)) (hfr7 i hin) ?_
                  refine zg_get (ci := 12) (C := "ZoneAnswersModel$Rec") (T := T_Re) (N := 5) hx hb hts zi_Re hown hK hG hr1 rfl 3 (by decide) (hts _ w_1268) (fun _ h9 => h9) rfl d_Mo_held_58 ?_
                  refine lv_iload hx hb d_Mo_held_61 (lv_at hl 7 rfl) ?_
                  refine lv_icmp_ge (tgt := 95) hx hb d_Mo_held_63 (by decide) (fun c63 => ?_) (fun c63 => ?_)
                  · refine lv_iinc (v := nI (i + 1)) (lv' := [(8, .int (nI (i + 1))), (0, .ref a), (1, .ref b1), (2, .ref b3), (3, .int t), (4, .int z9), (5, .int an9), (6, .int (nI u)), (7, .int (nI bs))]) hx hb d_Mo_held_95 hl (k := 8) rfl (nI_add i 1) (by decide) rfl (fun ls hl => ?_)
                    refine lv_goto (tgt := 27) hx hb d_Mo_held_98 (by decide) ?_
                    exact ih Gw (i + 1) bs _ _ (by omega) (by omega) (hbs6) (by first | exact rBs_n hbs htq.2.1 (fun _ z => absurd (hti.mpr z) (Int32.not_lt.mpr c48)) | exact rBs_n hbs htq.2.1 (fun _ _ => Nat.le_of_not_lt (fun z => absurd (htb.mpr z) (Int32.not_lt.mpr c63))) | exact rBs_n hbs htq.2.1 (fun z _ => absurd ((zsm_n hr3 n2_b37 hr4 n3_b37).mpr z) (hp77.1.z c80)) | exact rBs_y hbs htq.2.1 ((zsm_n hr3 n2_b37 hr4 n3_b37).mp (hp77.1.nz c80)) (hti.mp (Int32.not_le.mp c48)) (htb.mp (Int32.not_le.mp c63))) (hst7) (hf7) hG hS ls (lv_sub hl [1, 2, 3, 4, 5, 6, 7, 8, 0] rfl)
                  · refine lv_aload_n hx hb d_Mo_held_66 rfl (lv_at hl 0 rfl) ?_
                    refine zg_get (ci := 11) (C := "ZoneAnswersModel") (T := T_Mo) (N := 21) hx hb hts zi_Mo hown hK hG ra7 rfl 4 (by decide) (hts _ w_1285) (fun _ h9 => h9) rfl d_Mo_held_67 ?_
                    refine lv_iload hx hb d_Mo_held_70 (lv_at hl 8 rfl) ?_
                    refine zg_aldq hx hb hK hG 4 rm47 rfl (vp_in_nI (by omega) (by omega)) d_Mo_held_72 ?_
                    refine zr_as (y := fr7 i) (by rw [zi_n _ (by omega)]) ?_
                    refine zr_some (a := rA (re rs i)) (hfr7 i hin) ?_
                    refine zg_get (ci := 12) (C := "ZoneAnswersModel$Rec") (T := T_Re) (N := 5) hx hb hts zi_Re hown hK hG hr1 rfl 0 (by decide) (hts _ w_1265) (fun _ h9 => h9) rfl d_Mo_held_73 ?_
                    refine lv_aload_n hx hb d_Mo_held_76 rfl (lv_at hl 2 rfl) ?_
                    refine zk_i (va_runS (As := [.ref (rN (re rs i)), .ref b3]) (rest := []) ⟨hx, hb, hml, hown, hts⟩ (t_Ns_same l E Gw (rN (re rs i)) (np_len (rM (re rs i))) nf hr2 b3 (np_len ls3) f_b37 n1_b37 (by omega) (by omega)) (zcS 2 hts w_1405 w_1406 w_33 w_1407 (by decide +kernel) ⟨Nat.le_of_ble_eq_true rfl, Nat.le_of_ble_eq_true rfl⟩) (zc_pre hbase hK hN hQ hG hS) rfl rfl hl.1 rfl (lv_room (Nat.le_of_ble_eq_true rfl)) d_Mo_held_77 ⟨(by dsimp only [List.length_nil]; omega), (by dsimp only [List.length_nil]; omega)⟩) hS (fun r77 G77 H locs hp77 hG hS => ?_)
                    have hG : zP E Gw H := hp77.2 ▸ hG
                    refine lv_if_eq (tgt := 95) hx hb d_Mo_held_80 (by decide) (fun c80 => ?_) (fun c80 => ?_)
                    · refine lv_iinc (v := nI (i + 1)) (lv' := [(8, .int (nI (i + 1))), (0, .ref a), (1, .ref b1), (2, .ref b3), (3, .int t), (4, .int z9), (5, .int an9), (6, .int (nI u)), (7, .int (nI bs))]) hx hb d_Mo_held_95 hl (k := 8) rfl (nI_add i 1) (by decide) rfl (fun ls hl => ?_)
                      refine lv_goto (tgt := 27) hx hb d_Mo_held_98 (by decide) ?_
                      exact ih Gw (i + 1) bs _ _ (by omega) (by omega) (hbs6) (by first | exact rBs_n hbs htq.2.1 (fun _ z => absurd (hti.mpr z) (Int32.not_lt.mpr c48)) | exact rBs_n hbs htq.2.1 (fun _ _ => Nat.le_of_not_lt (fun z => absurd (htb.mpr z) (Int32.not_lt.mpr c63))) | exact rBs_n hbs htq.2.1 (fun z _ => absurd ((zsm_n hr3 n2_b37 hr4 n3_b37).mpr z) (hp77.1.z c80)) | exact rBs_y hbs htq.2.1 ((zsm_n hr3 n2_b37 hr4 n3_b37).mp (hp77.1.nz c80)) (hti.mp (Int32.not_le.mp c48)) (htb.mp (Int32.not_le.mp c63))) (hst7) (hf7) hG hS ls (lv_sub hl [1, 2, 3, 4, 5, 6, 7, 8, 0] rfl)
                    · refine lv_aload_n hx hb d_Mo_held_83 rfl (lv_at hl 0 rfl) ?_
                      refine zg_get (ci := 11) (C := "ZoneAnswersModel") (T := T_Mo) (N := 21) hx hb hts zi_Mo hown hK hG ra7 rfl 4 (by decide) (hts _ w_1285) (fun _ h9 => h9) rfl d_Mo_held_84 ?_
                      refine lv_iload hx hb d_Mo_held_87 (lv_at hl 8 rfl) ?_
                      refine zg_aldq hx hb hK hG 4 rm47 rfl (vp_in_nI (by omega) (by omega)) d_Mo_held_89 ?_
                      refine zr_as (y := fr7 i) (by rw [zi_n _ (by omega)]) ?_
                      refine zr_some (a := rA (re rs i)) (hfr7 i hin) ?_
                      refine zg_get (ci := 12) (C := "ZoneAnswersModel$Rec") (T := T_Re) (N := 5) hx hb hts zi_Re hown hK hG hr1 rfl 3 (by decide) (hts _ w_1268) (fun _ h9 => h9) rfl d_Mo_held_90 ?_
                      refine lv_istore (lv' := [(7, .int (rT (re rs i))), (0, .ref a), (1, .ref b1), (2, .ref b3), (3, .int t), (4, .int z9), (5, .int an9), (6, .int (nI u)), (8, .int (nI i))]) hx hb d_Mo_held_93 hl (by decide) rfl (fun ls hl => ?_)
                      refine lv_iinc (v := nI (i + 1)) (lv' := [(8, .int (nI (i + 1))), (7, .int (rT (re rs i))), (0, .ref a), (1, .ref b1), (2, .ref b3), (3, .int t), (4, .int z9), (5, .int an9), (6, .int (nI u))]) hx hb d_Mo_held_95 hl (k := 8) rfl (nI_add i 1) (by decide) rfl (fun ls hl => ?_)
                      refine lv_goto (tgt := 27) hx hb d_Mo_held_98 (by decide) ?_
                      rw [htq.1] at hl
                      exact ih Gw (i + 1) (rTn (re rs i)) _ _ (by omega) (by omega) (by have := htq.2.1; omega) (by first | exact rBs_n hbs htq.2.1 (fun _ z => absurd (hti.mpr z) (Int32.not_lt.mpr c48)) | exact rBs_n hbs htq.2.1 (fun _ _ => Nat.le_of_not_lt (fun z => absurd (htb.mpr z) (Int32.not_lt.mpr c63))) | exact rBs_n hbs htq.2.1 (fun z _ => absurd ((zsm_n hr3 n2_b37 hr4 n3_b37).mpr z) (hp77.1.z c80)) | exact rBs_y hbs htq.2.1 ((zsm_n hr3 n2_b37 hr4 n3_b37).mp (hp77.1.nz c80)) (hti.mp (Int32.not_le.mp c48)) (htb.mp (Int32.not_le.mp c63))) (hst7) (hf7) hG hS ls (lv_sub hl [2, 3, 4, 5, 6, 7, 8, 1, 0] rfl)
          exact loop27 _ Gv 0 65536 _ _ (Nat.lt_succ_self _) (Nat.zero_le _) (Nat.le_refl _) (rBs_0) (hst8) (hf8) hG hS ls (lv_sub hl [2, 3, 4, 5, 6, 7, 8, 1, 0] rfl)
  refine zW_more (cells2 := rPi c1 c2 (wad 1 Wz (([]).flatMap (fun u => vrw (rVf rs) ls1 ls3 (nI u)))) 0 - rPi c1 c2 Wz 0 + 0) (slots2 := rPi c1 c2 (wad 1 Wz (([]).flatMap (fun u => vrw (rVf rs) ls1 ls3 (nI u)))) 0 - rPi c1 c2 Wz 0 + 0) (Nat.zero_le _) (Nat.zero_le _) ?_
  exact loop6 _ G ([]) 0 0 ro _ _ (Nat.lt_succ_self _) (rTp_0 (fun t ht h65 => rVf_pos hgd ht)) (by decide) (Or.inr rfl) (Or.inl ⟨rfl, rfl⟩) (by rw [show wad 1 Wz (([]).flatMap (fun u => vrw (rVf rs) ls1 ls3 (nI u))) = Wz from wad_nil 1 Wz]; exact hst) (zfr.rf) hG hS ls (lv_sub hl [2, 3, 4, 5, 6, 1, 0] rfl)
