/-- the owner whose name a link points to -/
def zNx (os : List zOt) (pl nx : Nat) : Prop := (nx = 0 ∧ ∀ j, pl < j → j < os.length → zgb (oe os j) = true) ∨ (pl < nx ∧ nx < os.length ∧ ¬ zgb (oe os nx) = true ∧ ∀ j, pl < j → j < nx → zgb (oe os j) = true)
def zlT (o : zOt) : List Nat := (zlk o).map Int32.toNatClampNeg
theorem zlT_len (o : zOt) : (zlT o).length = (zlk o).length := List.length_map _
/-- an owner's types are as they may be -/
def zty (o : zOt) : Prop := ∀ s ∈ oX o, 1 ≤ sT s ∧ sT s ≤ 65535
theorem nI_cl2 {v : Int32} (h : 0 ≤ v) : nI v.toNatClampNeg = v := by
  obtain ⟨n, hn, e⟩ := nI_of (Int32.not_lt.mpr h)
  subst e
  rw [zi_n _ hn]
theorem zfl_mem {o : zOt} {lo hi v : Int32} {xs : List zSt} (h : v ∈ zfl o lo hi xs) : lo ≤ v ∧ v ≤ hi ∧ ∃ s ∈ xs, sT s = v := by
  unfold zfl at h
  obtain ⟨s, h1, rfl⟩ := List.mem_map.mp h
  obtain ⟨h2, h3⟩ := List.mem_filter.mp h1
  unfold zfb at h3
  simp only [Bool.and_eq_true, decide_eq_true_eq] at h3
  exact ⟨h3.1.2, h3.2, s, h2, rfl⟩
theorem zlk_mem {o : zOt} {v : Int32} (h : v ∈ zlk o) : 1 ≤ v ∧ v ≤ 65535 := by
  unfold zlk at h
  rcases List.mem_append.mp h with h | h
  · rcases List.mem_append.mp h with h | h
    · have := zfl_mem h; exact ⟨this.1, Int32.le_trans this.2.1 (by decide)⟩
    · rcases List.mem_cons.mp h with rfl | h
      · decide
      · rw [List.mem_singleton.mp h]; decide
  · have := zfl_mem h; exact ⟨Int32.le_trans (by decide) this.1, this.2.1⟩
theorem zlk_pw {o : zOt} (h : zss o) : (zlk o).Pairwise (· < ·) := by
  have hp : ∀ lo hi, (zfl o lo hi (oX o)).Pairwise (· < ·) := fun lo hi => by
    unfold zfl
    rw [List.pairwise_map]
    exact (zss_pw.mp h).filter _
  unfold zlk
  rw [List.pairwise_append, List.pairwise_append]
  refine ⟨⟨hp _ _, ?_, fun x hx y hy => ?_⟩, hp _ _, fun x hx y hy => ?_⟩
  · exact List.Pairwise.cons (fun y hy => by rw [List.mem_singleton.mp hy]; decide) (List.pairwise_singleton _ _)
  · have h1 := (zfl_mem hx).2.1
    rcases List.mem_cons.mp hy with rfl | hy
    · exact Int32.lt_of_le_of_lt h1 (by decide)
    · rw [List.mem_singleton.mp hy]; exact Int32.lt_of_le_of_lt h1 (by decide)
  · have h1 := (zfl_mem hy).1
    rcases List.mem_append.mp hx with hx | hx
    · exact Int32.lt_of_le_of_lt (zfl_mem hx).2.1 (Int32.lt_of_lt_of_le (by decide) h1)
    · rcases List.mem_cons.mp hx with rfl | hx
      · exact Int32.lt_of_lt_of_le (by decide) h1
      · rw [List.mem_singleton.mp hx]; exact Int32.lt_of_lt_of_le (by decide) h1
theorem clamp_lt {v w : Int32} (hv : 0 ≤ v) (hw : 0 ≤ w) (h : v < w) : v.toNatClampNeg < w.toNatClampNeg := by
  obtain ⟨n, hn, rfl⟩ := nI_of (Int32.not_lt.mpr hv)
  obtain ⟨k, hk, rfl⟩ := nI_of (Int32.not_lt.mpr hw)
  rw [zi_n _ hn, zi_n _ hk]
  exact (nI_ltI hn hk).mp h
theorem zlk_0 {o : zOt} {v : Int32} (h : v ∈ zlk o) : 0 ≤ v := Int32.le_trans (by decide) (zlk_mem h).1
theorem zlT_at {o : zOt} {j : Nat} (h : j < (zlk o).length) : (zlT o).getD j 0 = ((zlk o)[j]).toNatClampNeg := by
  unfold zlT
  rw [List.getD_eq_getElem?_getD, List.getElem?_map, List.getElem?_eq_getElem h]; rfl
theorem zlT_so {o : zOt} (h : zss o) : wso (zlT o) := by
  intro i hi
  rw [zlT_len] at hi
  rw [zlT_at (by omega), zlT_at hi]
  exact clamp_lt (zlk_0 (List.getElem_mem _)) (zlk_0 (List.getElem_mem _)) (List.pairwise_iff_getElem.mp (zlk_pw h) i (i + 1) (by omega) hi (Nat.lt_succ_self _))
theorem zlT_b {o : zOt} : ∀ t ∈ zlT o, t < 65536 := by
  intro t ht
  obtain ⟨v, hv, rfl⟩ := List.mem_map.mp ht
  have h1 := zlk_mem hv
  obtain ⟨n, hn, e⟩ := nI_of (Int32.not_lt.mpr (zlk_0 hv))
  subst e
  rw [zi_n _ hn]
  have := (nI_leI (a := n) (b := 65535) hn (by decide)).mp h1.2
  omega
theorem zlT_f {o : zOt} {f : Nat → Int32} (h : ∀ j, j < (zlk o).length → f j = (zlk o).getD j 0) : ∀ j, j < (zlT o).length → f j = nI ((zlT o).getD j 0) := by
  intro j hj
  rw [zlT_len] at hj
  rw [h j hj, zlT_at hj, nI_cl2 (zlk_0 (List.getElem_mem _)), List.getD_eq_getElem?_getD, List.getElem?_eq_getElem hj]; rfl
theorem wst_le {s : List Int32 × Nat × Nat} {t : Nat} (h : s.2.1 = t / 256 + 1 → s.2.2 + 2 ≤ s.1.length) : (wst s t).1.length ≤ s.1.length + 34 := by
  rw [wst_len]
  unfold wpr
  split
  · rename_i z
    show max s.1.length (s.2.2 + 2 + t % 256 / 8) ≤ _
    have := h z
    omega
  · show max (s.1 ++ _).length (s.1.length + 1 + 2 + t % 256 / 8) ≤ _
    rw [List.length_append]
    show max (s.1.length + 2) _ ≤ _
    omega
theorem wws_le {T : List Nat} (hs : wso T) : ∀ i, i ≤ T.length → (wws (T.take i)).1.length ≤ 34 * i := by
  intro i
  induction i with
  | zero => intro _; exact Nat.le_refl _
  | succ i ih =>
    intro h
    rw [wws_take h]
    have h1 := ih (by omega)
    have h2 := wst_le (s := wws (T.take i)) (t := T.getD i 0) (fun z => by
      rcases Nat.eq_zero_or_pos i with w | w
      · rw [w] at z; exact absurd z (by show ¬ (0 : Nat) = _; omega)
      · have q := (wws_inv hs (i - 1) (by omega)).1
        rw [show i - 1 + 1 = i by omega] at q
        omega)
    omega
theorem zlT_wl {o : zOt} (h : zss o) : (wws (zlT o)).1.length ≤ 34 * ((oX o).length + 2) := by
  have h1 := wws_le (zlT_so h) (zlT o).length (Nat.le_refl _)
  rw [List.take_length] at h1
  have h2 := zlk_le o
  rw [zlT_len] at h1
  omega
theorem zlT_wp {o : zOt} (h : zss o) : 0 < (wws (zlT o)).1.length := by
  have h0 : 0 < (zlT o).length := by rw [zlT_len, zlk_len]; omega
  have h1 := (wws_inv (zlT_so h) ((zlT o).length - 1) (by omega)).1
  rw [show (zlT o).length - 1 + 1 = (zlT o).length by omega, List.take_length] at h1
  omega
theorem zBy_w {E : zc_E} {G : zg_G} {q : Nat} {f0 f1 f2 : Nat → Int32} {x : np_N} {w : List Int32} (h : G q = some (.inl (E.2.1 0, np_len x + w.length, .inl f2))) (hx : np_f x f0) (h1 : ∀ j, j < np_len x → f1 j = f0 j) (hw : wA f1 f2 (np_len x) (fun j => w.getD j 0)) (hft : sb_Fit f2) : zBy E G q (np_enc x ++ w) := by
  refine ⟨f2, by rw [List.length_append, np_enc_len]; exact h, fun j hj => ?_, hft⟩
  rw [hw j, List.getD_eq_getElem?_getD]
  by_cases z : j < np_len x
  · rw [if_pos z, h1 j z, hx j z, List.getElem?_append_left (by rw [np_enc_len]; exact z), List.getD_eq_getElem?_getD]
  · rw [if_neg z, List.getElem?_append_right (by rw [np_enc_len]; omega), np_enc_len]; exact List.getD_eq_getElem?_getD ..
theorem w_115 : (.fieldLink "ZoneAnswers$Zone" 169 "ZoneAnswers$Name" "bytes" "[B" : Cond) ∈ zw := zw_at 115 (by decide +kernel) (by decide +kernel)
theorem w_1101 : (.methodLink "ZoneAnswers$Zone" 172 ⟨"ZoneAnswers$Owner", "linkTypes", "()[I"⟩ : Cond) ∈ zw := zw_at 1101 (by decide +kernel) (by decide +kernel)
theorem w_1102 : (.instanceMethod ⟨"ZoneAnswers$Owner", "linkTypes", "()[I"⟩ : Cond) ∈ zw := zw_at 1102 (by decide +kernel) (by decide +kernel)
theorem w_1103 : (.selects "ZoneAnswers$Owner" ⟨"ZoneAnswers$Owner", "linkTypes", "()[I"⟩ ⟨"ZoneAnswers$Owner", "linkTypes", "()[I"⟩ : Cond) ∈ zw := zw_at 1103 (by decide +kernel) (by decide +kernel)
theorem w_1104 : (.code ⟨"ZoneAnswers$Owner", "linkTypes", "()[I"⟩ prog_5_method_7_code 3 (some (.array .int)) : Cond) ∈ zw := zw_at 1104 (by decide +kernel) (by decide +kernel)
theorem w_1122 : (.methodLink "ZoneAnswers$Zone" 176 ⟨"ZoneAnswers$Zone", "windowsLength", "([I)I"⟩ : Cond) ∈ zw := zw_at 1122 (by decide +kernel) (by decide +kernel)
theorem w_1123 : (.static ⟨"ZoneAnswers$Zone", "windowsLength", "([I)I"⟩ : Cond) ∈ zw := zw_at 1123 (by decide +kernel) (by decide +kernel)
theorem w_1124 : (.code ⟨"ZoneAnswers$Zone", "windowsLength", "([I)I"⟩ prog_10_method_24_code 3 (some .int) : Cond) ∈ zw := zw_at 1124 (by decide +kernel) (by decide +kernel)
theorem w_1125 : (.methodLink "ZoneAnswers$Zone" 180 ⟨"java/util/Arrays", "copyOf", "([BI)[B"⟩ : Cond) ∈ zw := zw_at 1125 (by decide +kernel) (by decide +kernel)
theorem w_1126 : (.methodLink "ZoneAnswers$Zone" 186 ⟨"ZoneAnswers$Zone", "writeWindows", "([BI[I)V"⟩ : Cond) ∈ zw := zw_at 1126 (by decide +kernel) (by decide +kernel)
theorem w_1127 : (.static ⟨"ZoneAnswers$Zone", "writeWindows", "([BI[I)V"⟩ : Cond) ∈ zw := zw_at 1127 (by decide +kernel) (by decide +kernel)
theorem w_1128 : (.code ⟨"ZoneAnswers$Zone", "writeWindows", "([BI[I)V"⟩ prog_10_method_25_code 8 none : Cond) ∈ zw := zw_at 1128 (by decide +kernel) (by decide +kernel)
abbrev c_Zo_link : ByteArray := prog_10_method_23_code
abbrev y_Zo_link : MethodName := ⟨"ZoneAnswers$Zone", "link", "(I)LZoneAnswers$Datum;"⟩
theorem d_Zo_link_0 : decode c_Zo_link 0 = .ok (.iload_n 1, 1) := by decide +kernel
theorem d_Zo_link_1 : decode c_Zo_link 1 = .ok (.iconst 1, 1) := by decide +kernel
theorem d_Zo_link_2 : decode c_Zo_link 2 = .ok (.iadd, 1) := by decide +kernel
theorem d_Zo_link_3 : decode c_Zo_link 3 = .ok (.istore_n 2, 1) := by decide +kernel
theorem d_Zo_link_4 : decode c_Zo_link 4 = .ok (.iload_n 2, 1) := by decide +kernel
theorem d_Zo_link_5 : decode c_Zo_link 5 = .ok (.aload_n 0, 1) := by decide +kernel
theorem d_Zo_link_6 : decode c_Zo_link 6 = .ok (.getfield 12, 3) := by decide +kernel
theorem d_Zo_link_9 : decode c_Zo_link 9 = .ok (.invokevirtual 75, 3) := by decide +kernel
theorem d_Zo_link_12 : decode c_Zo_link 12 = .ok (.if_icmp .ge 26, 3) := by decide +kernel
theorem d_Zo_link_15 : decode c_Zo_link 15 = .ok (.aload_n 0, 1) := by decide +kernel
theorem d_Zo_link_16 : decode c_Zo_link 16 = .ok (.getfield 12, 3) := by decide +kernel
theorem d_Zo_link_19 : decode c_Zo_link 19 = .ok (.iload_n 2, 1) := by decide +kernel
theorem d_Zo_link_20 : decode c_Zo_link 20 = .ok (.invokevirtual 79, 3) := by decide +kernel
theorem d_Zo_link_23 : decode c_Zo_link 23 = .ok (.checkcast 83, 3) := by decide +kernel
theorem d_Zo_link_26 : decode c_Zo_link 26 = .ok (.invokevirtual 163, 3) := by decide +kernel
theorem d_Zo_link_29 : decode c_Zo_link 29 = .ok (.ifCond .eq 9, 3) := by decide +kernel
theorem d_Zo_link_32 : decode c_Zo_link 32 = .ok (.iinc 2 1, 3) := by decide +kernel
theorem d_Zo_link_35 : decode c_Zo_link 35 = .ok (.goto (-31), 3) := by decide +kernel
theorem d_Zo_link_38 : decode c_Zo_link 38 = .ok (.aload_n 0, 1) := by decide +kernel
theorem d_Zo_link_39 : decode c_Zo_link 39 = .ok (.getfield 12, 3) := by decide +kernel
theorem d_Zo_link_42 : decode c_Zo_link 42 = .ok (.iload_n 2, 1) := by decide +kernel
theorem d_Zo_link_43 : decode c_Zo_link 43 = .ok (.aload_n 0, 1) := by decide +kernel
theorem d_Zo_link_44 : decode c_Zo_link 44 = .ok (.getfield 12, 3) := by decide +kernel
theorem d_Zo_link_47 : decode c_Zo_link 47 = .ok (.invokevirtual 75, 3) := by decide +kernel
theorem d_Zo_link_50 : decode c_Zo_link 50 = .ok (.if_icmp .ge 7, 3) := by decide +kernel
theorem d_Zo_link_53 : decode c_Zo_link 53 = .ok (.iload_n 2, 1) := by decide +kernel
theorem d_Zo_link_54 : decode c_Zo_link 54 = .ok (.goto 4, 3) := by decide +kernel
theorem d_Zo_link_57 : decode c_Zo_link 57 = .ok (.iconst 0, 1) := by decide +kernel
theorem d_Zo_link_58 : decode c_Zo_link 58 = .ok (.invokevirtual 79, 3) := by decide +kernel
theorem d_Zo_link_61 : decode c_Zo_link 61 = .ok (.checkcast 83, 3) := by decide +kernel
theorem d_Zo_link_64 : decode c_Zo_link 64 = .ok (.getfield 85, 3) := by decide +kernel
theorem d_Zo_link_67 : decode c_Zo_link 67 = .ok (.getfield 169, 3) := by decide +kernel
theorem d_Zo_link_70 : decode c_Zo_link 70 = .ok (.astore_n 3, 1) := by decide +kernel
theorem d_Zo_link_71 : decode c_Zo_link 71 = .ok (.aload_n 0, 1) := by decide +kernel
theorem d_Zo_link_72 : decode c_Zo_link 72 = .ok (.getfield 12, 3) := by decide +kernel
theorem d_Zo_link_75 : decode c_Zo_link 75 = .ok (.iload_n 1, 1) := by decide +kernel
theorem d_Zo_link_76 : decode c_Zo_link 76 = .ok (.invokevirtual 79, 3) := by decide +kernel
theorem d_Zo_link_79 : decode c_Zo_link 79 = .ok (.checkcast 83, 3) := by decide +kernel
theorem d_Zo_link_82 : decode c_Zo_link 82 = .ok (.invokevirtual 172, 3) := by decide +kernel
theorem d_Zo_link_85 : decode c_Zo_link 85 = .ok (.astore 4, 2) := by decide +kernel
theorem d_Zo_link_87 : decode c_Zo_link 87 = .ok (.aload_n 3, 1) := by decide +kernel
theorem d_Zo_link_88 : decode c_Zo_link 88 = .ok (.aload_n 3, 1) := by decide +kernel
theorem d_Zo_link_89 : decode c_Zo_link 89 = .ok (.arraylength, 1) := by decide +kernel
theorem d_Zo_link_90 : decode c_Zo_link 90 = .ok (.aload 4, 2) := by decide +kernel
theorem d_Zo_link_92 : decode c_Zo_link 92 = .ok (.invokestatic 176, 3) := by decide +kernel
theorem d_Zo_link_95 : decode c_Zo_link 95 = .ok (.iadd, 1) := by decide +kernel
theorem d_Zo_link_96 : decode c_Zo_link 96 = .ok (.invokestatic 180, 3) := by decide +kernel
theorem d_Zo_link_99 : decode c_Zo_link 99 = .ok (.astore 5, 2) := by decide +kernel
theorem d_Zo_link_101 : decode c_Zo_link 101 = .ok (.aload 5, 2) := by decide +kernel
theorem d_Zo_link_103 : decode c_Zo_link 103 = .ok (.aload_n 3, 1) := by decide +kernel
theorem d_Zo_link_104 : decode c_Zo_link 104 = .ok (.arraylength, 1) := by decide +kernel
theorem d_Zo_link_105 : decode c_Zo_link 105 = .ok (.aload 4, 2) := by decide +kernel
theorem d_Zo_link_107 : decode c_Zo_link 107 = .ok (.invokestatic 186, 3) := by decide +kernel
theorem d_Zo_link_110 : decode c_Zo_link 110 = .ok (.new 33, 3) := by decide +kernel
theorem d_Zo_link_113 : decode c_Zo_link 113 = .ok (.dup, 1) := by decide +kernel
theorem d_Zo_link_114 : decode c_Zo_link 114 = .ok (.aload 5, 2) := by decide +kernel
theorem d_Zo_link_116 : decode c_Zo_link 116 = .ok (.aconst_null, 1) := by decide +kernel
theorem d_Zo_link_117 : decode c_Zo_link 117 = .ok (.invokespecial 35, 3) := by decide +kernel
theorem d_Zo_link_120 : decode c_Zo_link 120 = .ok (.areturn, 1) := by decide +kernel
abbrev rm_Zo_link (n0 : Nat) : Room := { frames := 6, cells := 4, slots := 36 * (n0 + 2) + 260, locals := 180 }
set_option maxHeartbeats 4000000 in
set_option maxRecDepth 100000 in
/-- Zone.link(place) -/
theorem t_Zo_link (l : Launch) (E : zc_E) (G : zg_G) (a la tn st sd : Nat) (rc : Int32) (ha : G a = some (.inr (9, [.ref la, .ref tn, .ref st, .ref sd, .int rc]))) (ro : zRo) (dd : Nat) (os : List zOt) (hZR : zZR E G ro la dd os) (hne : 0 < os.length) (hol : os.length ≤ 2000) (pl : Nat) (hpl : pl < os.length) (hss : zss (oe os pl)) (hsl : (oX (oe os pl)).length < 2000) : zMq l E y_Zo_link c_Zo_link 6 (some (.object "ZoneAnswers$Datum")) (rm_Zo_link (oX (oe os pl)).length) [.ref a, .int (nI pl)] G (fun (r : Option Nat) (G2 : zg_G) => ∃ dq bq nx, r = some dq ∧ G dq = none ∧ G bq = none ∧ zx z0 G G2 ∧ G2 dq = some (.inr (2, [.ref bq, .null])) ∧ zBy E G2 bq (np_enc (oM (oe os nx)) ++ (wws (zlT (oe os pl))).1) ∧ zNx os pl nx) := by
  refine zMq.of (by decide) (Nat.le_of_ble_eq_true rfl) ?_
  intro p e s m args below meth c Q hZ hG hret ls hl
  obtain ⟨hx, hb, hr, hts, hown, hlocks, hml, hnm, hbase, hK, hN, hQ⟩ := hZ
  have hl : lv_has ls 6 [(0, .ref a), (1, .int (nI pl))] := hl
  have hS : zg_S (zc_b E) s.heap s.heap [] := va_S.rf
  obtain ⟨k9, cap9, f9, hla, hd9, h09, hc9, hz9, hf9⟩ := hZR.1.1.un2 (by rw [List.length_map]; exact hne)
  rw [List.length_map] at hla hc9
  have hinp : pl < os.length := by omega
  obtain ⟨ho1p, ho2p, ⟨btp, ftp, ho3p, ho4p, ho5p, ho6p, ho7p, ho8p, ho9p⟩, ⟨⟨⟨kl9p, ho10p⟩, -⟩, -⟩, -⟩ := hZR.2 _ (oe_mem hinp)
  rw [List.length_map] at ho10p
  have hcnp := ho6p.count
  have hwl := zlT_wl hss
  have hwp := zlT_wp hss
  have hkl := zlk_le (oe os pl)
  have hx0 : zx z0 G G := zx.rf
  refine lv_iload_n hx hb d_Zo_link_0 rfl (lv_at hl 1 rfl) ?_
  refine lv_iconst (v := 1) hx hb d_Zo_link_1 (by decide) ?_
  refine lv_iadd hx hb d_Zo_link_2 ?_
  refine zi_as (y := nI (pl + 1)) (nI_add pl 1) ?_
  refine lv_istore_n (lv' := [(2, .int (nI (pl + 1))), (0, .ref a), (1, .int (nI pl))]) hx hb d_Zo_link_3 rfl hl (by decide) rfl (fun ls hl => ?_)
  have loop4 : ∀ (N : Nat) (n2 : Nat) (H : Heap) (locs : List Loc), (os.length - n2) < N → (pl < n2) → (n2 ≤ os.length) → (∀ j, pl < j → j < n2 → zgb (oe os j) = true) → zP E G H → zg_S (zc_b E) s.heap H locs → ∀ (ls : Array Slot), lv_has ls 6 [(0, .ref a), (1, .int (nI pl)), (2, .int (nI n2))] → W p l e (rm_Zo_link (oX (oe os pl)).length) s m args below meth c H locs 0 0 Q (F0 m 4 ls []) := by
    intro N
    induction N with
    | zero =>
      intro n2 H locs hlt
      exact absurd hlt (Nat.not_lt_zero _)
    | succ N ih =>
      intro n2 H locs hlt hn1 hn2 hq hG hS ls hl
      refine lv_iload_n hx hb d_Zo_link_4 rfl (lv_at hl 2 rfl) ?_
      refine lv_aload_n hx hb d_Zo_link_5 rfl (lv_at hl 0 rfl) ?_
      refine zg_get (ci := 9) (C := "ZoneAnswers$Zone") (T := T_Zo) (N := 5) hx hb hts zi_Zo hown hK hG ha rfl 0 (by decide) (hts _ w_91) (fun _ h9 => h9) rfl d_Zo_link_6 ?_
      refine zk_i (va_runV (As := []) (rest := [.int (nI n2)]) ⟨hx, hb, hml, hown, hts⟩ (t_AL_size l E G la (.ref dd) (nI os.length) k9 hla) (zcV 0 hts w_159 w_160 w_161 w_6 w_162 (by decide +kernel) ⟨Nat.le_of_ble_eq_true rfl, Nat.le_of_ble_eq_true rfl⟩) (zc_preV hbase hK hN hQ hG hS hla rfl) rfl rfl hl.1 rfl (lv_room (Nat.le_of_ble_eq_true rfl)) d_Zo_link_9 ⟨(by dsimp only; omega), (by dsimp only; omega)⟩) hS (fun r9 G9 H locs hp9 hG hS => ?_)
      have hG : zP E G H := hp9.2 ▸ hG
      refine zi_as (y := nI os.length) hp9.1 ?_
      refine lv_icmp_ge (tgt := 38) hx hb d_Zo_link_12 (by decide) (fun c12 => ?_) (fun c12 => ?_)
      · have b12 : os.length ≤ n2 := (nI_leI (a := os.length) (b := n2) (by omega) (by omega)).mp c12
        refine lv_aload_n hx hb d_Zo_link_38 rfl (lv_at hl 0 rfl) ?_
        refine zg_get (ci := 9) (C := "ZoneAnswers$Zone") (T := T_Zo) (N := 5) hx hb hts zi_Zo hown hK hG ha rfl 0 (by decide) (hts _ w_91) (fun _ h9 => h9) rfl d_Zo_link_39 ?_
        refine lv_iload_n hx hb d_Zo_link_42 rfl (lv_at hl 2 rfl) ?_
        refine lv_aload_n hx hb d_Zo_link_43 rfl (lv_at hl 0 rfl) ?_
        refine zg_get (ci := 9) (C := "ZoneAnswers$Zone") (T := T_Zo) (N := 5) hx hb hts zi_Zo hown hK hG ha rfl 0 (by decide) (hts _ w_91) (fun _ h9 => h9) rfl d_Zo_link_44 ?_
        refine zk_i (va_runV (As := []) (rest := [.int (nI n2), .ref la]) ⟨hx, hb, hml, hown, hts⟩ (t_AL_size l E G la (.ref dd) (nI os.length) k9 hla) (zcV 0 hts w_159 w_160 w_161 w_6 w_162 (by decide +kernel) ⟨Nat.le_of_ble_eq_true rfl, Nat.le_of_ble_eq_true rfl⟩) (zc_preV hbase hK hN hQ hG hS hla rfl) rfl rfl hl.1 rfl (lv_room (Nat.le_of_ble_eq_true rfl)) d_Zo_link_47 ⟨(by dsimp only; omega), (by dsimp only; omega)⟩) hS (fun r47 G47 H locs hp47 hG hS => ?_)
        have hG : zP E G H := hp47.2 ▸ hG
        refine zi_as (y := nI os.length) hp47.1 ?_
        refine lv_icmp_ge (tgt := 57) hx hb d_Zo_link_50 (by decide) (fun c50 => ?_) (fun c50 => ?_)
        · have b50 : os.length ≤ n2 := (nI_leI (a := os.length) (b := n2) (by omega) (by omega)).mp c50
          have hinx : 0 < os.length := by omega
          obtain ⟨ho1x, ho2x, ⟨btx, ftx, ho3x, ho4x, ho5x, ho6x, ho7x, ho8x, ho9x⟩, ⟨⟨⟨kl9x, ho10x⟩, -⟩, -⟩, -⟩ := hZR.2 _ (oe_mem hinx)
          rw [List.length_map] at ho10x
          have hcnx := ho6x.count
          have hsmx := ho6x.2
          refine lv_iconst (v := 0) hx hb d_Zo_link_57 (by decide) ?_
          refine zi_as (y := nI 0) (nI_0.symm) ?_
          have hGo58 := hG
          refine zk_q (va_runV (As := [.int (nI 0)]) (rest := []) ⟨hx, hb, hml, hown, hts⟩ (t_AL_get l E G la dd os.length cap9 k9 f9 hla hd9 hc9 (by omega) 0 hinx) (zcV 1 hts w_163 w_164 w_165 w_6 w_166 (by decide +kernel) ⟨Nat.le_of_ble_eq_true rfl, Nat.le_of_ble_eq_true rfl⟩) (zc_preV hbase hK hN hQ hG hS hla rfl) rfl rfl hl.1 rfl (lv_room (Nat.le_of_ble_eq_true rfl)) d_Zo_link_58 ⟨(by dsimp only; omega), (by dsimp only; omega)⟩) hS (fun r58 G58 H locs hp58 hG hS => ?_)
          have hG : zP E G H := hp58.2 ▸ hG
          refine zr_some (a := oA (oe os 0)) (hp58.1.trans ((hf9 0).trans (oe_m hinx))) ?_
          refine zg_castY hx hb hown (hts _ w_177) hK hG ho1x rfl (zN.at hN (w := .castable "ZoneAnswers$Owner" "ZoneAnswers$Owner") (by decide +kernel)) d_Zo_link_61 ?_
          refine zg_get (ci := 4) (C := "ZoneAnswers$Owner") (T := T_Ow) (N := 3) hx hb hts zi_Ow hown hK hG ho1x rfl 0 (by decide) (hts _ w_206) (fun _ h9 => h9) rfl d_Zo_link_64 ?_
          refine zg_get (ci := 3) (C := "ZoneAnswers$Name") (T := T_Na) (N := 2) hx hb hts zi_Na hown hK hG ho3x rfl 0 (by decide) (hts _ w_115) (fun _ h9 => h9) rfl d_Zo_link_67 ?_
          refine lv_astore_n (lv' := [(3, .ref btx), (0, .ref a), (1, .int (nI pl)), (2, .int (nI n2))]) hx hb d_Zo_link_70 rfl hl (by decide) rfl (fun ls hl => ?_)
          refine lv_aload_n hx hb d_Zo_link_71 rfl (lv_at hl 1 rfl) ?_
          refine zg_get (ci := 9) (C := "ZoneAnswers$Zone") (T := T_Zo) (N := 5) hx hb hts zi_Zo hown hK hG ha rfl 0 (by decide) (hts _ w_91) (fun _ h9 => h9) rfl d_Zo_link_72 ?_
          refine lv_iload_n hx hb d_Zo_link_75 rfl (lv_at hl 2 rfl) ?_
          have hGo76 := hG
          refine zk_q (va_runV (As := [.int (nI pl)]) (rest := []) ⟨hx, hb, hml, hown, hts⟩ (t_AL_get l E G la dd os.length cap9 k9 f9 hla hd9 hc9 (by omega) pl hinp) (zcV 1 hts w_163 w_164 w_165 w_6 w_166 (by decide +kernel) ⟨Nat.le_of_ble_eq_true rfl, Nat.le_of_ble_eq_true rfl⟩) (zc_preV hbase hK hN hQ hG hS hla rfl) rfl rfl hl.1 rfl (lv_room (Nat.le_of_ble_eq_true rfl)) d_Zo_link_76 ⟨(by dsimp only; omega), (by dsimp only; omega)⟩) hS (fun r76 G76 H locs hp76 hG hS => ?_)
          have hG : zP E G H := hp76.2 ▸ hG
          refine zr_some (a := oA (oe os pl)) (hp76.1.trans ((hf9 pl).trans (oe_m hinp))) ?_
          refine zg_castY hx hb hown (hts _ w_177) hK hG ho1p rfl (zN.at hN (w := .castable "ZoneAnswers$Owner" "ZoneAnswers$Owner") (by decide +kernel)) d_Zo_link_79 ?_
          have hGo82 := hG
          refine zk_q (va_runV (As := []) (rest := []) ⟨hx, hb, hml, hown, hts⟩ (t_Ow_linkTypes l E G ro (oe os pl) (hZR.2 _ (oe_mem hinp)) hsl) (zcV 0 hts w_1101 w_1102 w_1103 w_12 w_1104 (by decide +kernel) ⟨Nat.le_of_ble_eq_true rfl, Nat.le_of_ble_eq_true rfl⟩) (zc_preV hbase hK hN hQ hG hS ho1p rfl) rfl rfl hl.1 rfl (lv_room (Nat.le_of_ble_eq_true rfl)) d_Zo_link_82 ⟨(by dsimp only; omega), (by dsimp only; omega)⟩) hS (fun r82 G82 H locs hp82 hG hS => ?_)
          obtain ⟨qt, ft9, er82, nqt, hx82, hct, hft9⟩ := hp82
          refine zr_some (a := qt) er82 ?_
          rw [← zlT_len] at hct
          have hT9 := zlT_f hft9
          have k1 : G82 btx = some (.inl (E.2.1 0, np_len (oM (oe os 0)), .inl ftx)) := hx82.o ho4x
          have ne_qt_btx : btx ≠ qt := zg_fr nqt ho4x
          have hx2 : zx z0 G G82 := hx0.tr (hx82.w (fun _ z => z.elim))
          refine lv_astore (lv' := [(4, .ref qt), (3, .ref btx), (0, .ref a), (1, .int (nI pl)), (2, .int (nI n2))]) hx hb d_Zo_link_85 hl (by decide) rfl (fun ls hl => ?_)
          refine lv_aload_n hx hb d_Zo_link_87 rfl (lv_at hl 1 rfl) ?_
          refine lv_aload_n hx hb d_Zo_link_88 rfl (lv_at hl 1 rfl) ?_
          refine zg_alen hx hb hK hG 0 k1 rfl (v := nI (np_len (oM (oe os 0)))) rfl d_Zo_link_89 ?_
          refine lv_aload hx hb d_Zo_link_90 (lv_at hl 0 rfl) ?_
          refine zk_i (va_runS (As := [.ref qt]) (rest := [.int (nI (np_len (oM (oe os 0)))), .ref btx]) ⟨hx, hb, hml, hown, hts⟩ (t_Zo_windowsLength l E G82 qt (zlT (oe os pl)) ft9 hct hT9 zlT_b (zlT_so hss) (by rw [zlT_len]; omega)) (zcS 1 hts w_1122 w_1123 w_3 w_1124 (by decide +kernel) ⟨Nat.le_of_ble_eq_true rfl, Nat.le_of_ble_eq_true rfl⟩) (zc_pre hbase hK hN hQ hG hS) rfl rfl hl.1 rfl (lv_room (Nat.le_of_ble_eq_true rfl)) d_Zo_link_92 ⟨(by dsimp only; omega), (by dsimp only; omega)⟩) hS (fun r92 G92 H locs hp92 hG hS => ?_)
          have hG : zP E G82 H := hp92.2 ▸ hG
          refine zi_as (y := nI ((wws (zlT (oe os pl))).1.length)) hp92.1 ?_
          refine lv_iadd hx hb d_Zo_link_95 ?_
          refine zi_as (y := nI (np_len (oM (oe os 0)) + ((wws (zlT (oe os pl))).1.length))) (nI_add (np_len (oM (oe os 0))) ((wws (zlT (oe os pl))).1.length)) ?_
          have hGo96 := hG
          refine zk_q (va_runS (As := [.ref btx, .int (nI (np_len (oM (oe os 0)) + ((wws (zlT (oe os pl))).1.length)))]) (rest := []) ⟨hx, hb, hml, hown, hts⟩ (t_Ar_copyOf l E G82 btx (np_len (oM (oe os 0))) ftx k1 ho7x (by have := ho6x.2; omega) (np_len (oM (oe os 0)) + (wws (zlT (oe os pl))).1.length) (by omega) (by have := ho6x.2; omega)) (zcS 2 hts w_1125 w_338 w_22 w_339 (by decide +kernel) ⟨Nat.le_of_ble_eq_true rfl, Nat.le_of_ble_eq_true rfl⟩) (zc_pre hbase hK hN hQ hG hS) rfl rfl hl.1 rfl (lv_room (Nat.le_of_ble_eq_true rfl)) d_Zo_link_96 ⟨(by have := ho6x.2; dsimp only; omega), (by have := ho6x.2; dsimp only; omega)⟩) hS (fun r96 G96 H locs hp96 hG hS => ?_)
          obtain ⟨qd, f96, er96, nqd, hx96, hcd, hft96, hfa96, hfz96⟩ := hp96
          refine zr_some (a := qd) er96 ?_
          have k3 : G96 btx = some (.inl (E.2.1 0, np_len (oM (oe os 0)), .inl ftx)) := hx96.o k1
          have ne_qd_btx : btx ≠ qd := zg_fr nqd k1
          have k4 : G96 qt = some (.inl (E.2.1 1, (zlT (oe os pl)).length, .inl ft9)) := hx96.o hct
          have ne_qd_qt : qt ≠ qd := zg_fr nqd hct
          have hx5 : zx z0 G G96 := hx2.tr (hx96.w (fun _ z => z.elim))
          have nqd0 : G qd = none := zx.no hx2 nqd
          refine lv_astore (lv' := [(5, .ref qd), (4, .ref qt), (3, .ref btx), (0, .ref a), (1, .int (nI pl)), (2, .int (nI n2))]) hx hb d_Zo_link_99 hl (by decide) rfl (fun ls hl => ?_)
          refine lv_aload hx hb d_Zo_link_101 (lv_at hl 0 rfl) ?_
          refine lv_aload_n hx hb d_Zo_link_103 rfl (lv_at hl 2 rfl) ?_
          refine zg_alen hx hb hK hG 0 k3 rfl (v := nI (np_len (oM (oe os 0)))) rfl d_Zo_link_104 ?_
          refine lv_aload hx hb d_Zo_link_105 (lv_at hl 1 rfl) ?_
          have hGo107 := hG
          refine zk_v (va_runS (As := [.ref qd, .int (nI (np_len (oM (oe os 0)))), .ref qt]) (rest := []) ⟨hx, hb, hml, hown, hts⟩ (t_Zo_writeWindows l E G96 qd (np_len (oM (oe os 0))) f96 qt (zlT (oe os pl)) ft9 k4 hT9 zlT_b (zlT_so hss) (by rw [zlT_len]; omega) hcd hft96 hfz96 (by have := ho6x.2; omega) (Ne.symm ne_qd_qt |> Ne.symm)) (zcS 3 hts w_1126 w_1127 w_3 w_1128 (by decide +kernel) ⟨Nat.le_of_ble_eq_true rfl, Nat.le_of_ble_eq_true rfl⟩) (zc_pre hbase hK hN hQ hG hS) rfl rfl hl.1 rfl (lv_room (Nat.le_of_ble_eq_true rfl)) d_Zo_link_107 ⟨(by dsimp only; omega), (by dsimp only; omega)⟩) hS (fun G107 H locs hp107 hG hS => ?_)
          obtain ⟨f107, hcw, hx107, hftw, hwa9⟩ := hp107
          have hx6 : zx z0 G G107 := fun q x hs hq => hx107 q x (fun z => by rw [z, nqd0] at hq; cases hq) (hx5 q x hs hq)
          refine zg_new (ci := 2) (fs := [.null, .null]) (C := "ZoneAnswers$Datum") (T := T_Da) (N := 2) hx hb hts zi_Da t_Da t_Da_ok hown (hts _ w_133) (hts _ w_134) (hts _ w_8) hK hG hS hbase rfl (fun j hj => by rcases (show j = 0 ∨ j = 1 by omega) with rfl | rfl <;> rfl) (by dsimp only; omega) (by dsimp only; omega) d_Zo_link_110 (fun q110 H n110 hG hS => ?_)
          obtain ⟨G7, eG7⟩ : ∃ z : zg_G, z = zg_up G107 q110 (.inr (2, [.null, .null])) := ⟨_, rfl⟩
          have hG : zP E G7 H := by rw [eG7]; exact hG
          have nf110 : G q110 = none := zx.fr hx6 n110 (fun h => h)
          have hx8 : zx z0 G G7 := hx6.tr (by rw [eG7]; exact zx.nw n110)
          have ne110_qd : qd ≠ q110 := zg_fr n110 hcw
          have k9 : G7 qd = some (.inl (E.2.1 0, np_len (oM (oe os 0)) + (wws (zlT (oe os pl))).1.length, .inl f107)) := by rw [eG7, zg_up_ne (zg_fr n110 hcw)]; exact hcw
          have k10 : G7 q110 = some (.inr (2, [.null, .null])) := by rw [eG7]; exact zg_up_self _ _ _
          refine lv_dup hx hb d_Zo_link_113 rfl ?_
          refine lv_aload hx hb d_Zo_link_114 (lv_at hl 0 rfl) ?_
          refine lv_null hx hb d_Zo_link_116 ?_
          have hGo117 := hG
          refine zk_v (va_runI (As := [.ref qd, .null]) (rest := [.ref q110]) ⟨hx, hb, hml, hown, hts⟩ (t_Da_init_n l E G7 q110 qd k10) (zcI 2 hts w_135 w_136 w_8 w_137 rfl (by decide +kernel) ⟨Nat.le_of_ble_eq_true rfl, Nat.le_of_ble_eq_true rfl⟩) (zc_pre hbase hK hN hQ hG hS) rfl rfl hl.1 rfl (lv_room (Nat.le_of_ble_eq_true rfl)) d_Zo_link_117 ⟨(by dsimp only; omega), (by dsimp only; omega)⟩) hS (fun G117 H locs hp117 hG hS => ?_)
          have hx11 : zx z0 G G117 := by rw [hp117]; exact hx8.upn nf110
          have k12 : G117 qd = some (.inl (E.2.1 0, np_len (oM (oe os 0)) + (wws (zlT (oe os pl))).1.length, .inl f107)) := by rw [hp117, zg_up_ne (ne110_qd)]; exact k9
          have k13 : G117 q110 = some (.inr (2, [.ref qd, .null])) := by rw [hp117]; exact zg_up_self _ _ _
          exact hret (some q110) _ _ _ _ _ _ _ _ hr (Or.inl ⟨_, rfl⟩) (⟨q110, qd, 0, rfl, nf110, nqd0, hx11, k13, zBy_w k12 ho5x hfa96 hwa9 hftw, Or.inl ⟨rfl, fun j h1 h2 => hq j h1 (by omega)⟩⟩) hG hS (by dsimp only; omega) (by dsimp only; omega) d_Zo_link_120
        · have b50 : ¬ os.length ≤ n2 := fun q => c50 ((nI_leI (a := os.length) (b := n2) (by omega) (by omega)).mpr q)
          exact absurd hn2 (by omega)
      · have b12 : ¬ os.length ≤ n2 := fun q => c12 ((nI_leI (a := os.length) (b := n2) (by omega) (by omega)).mpr q)
        have hinn : n2 < os.length := by omega
        obtain ⟨ho1n, ho2n, ⟨btn, ftn, ho3n, ho4n, ho5n, ho6n, ho7n, ho8n, ho9n⟩, ⟨⟨⟨kl9n, ho10n⟩, -⟩, -⟩, -⟩ := hZR.2 _ (oe_mem hinn)
        rw [List.length_map] at ho10n
        have hcnn := ho6n.count
        refine lv_aload_n hx hb d_Zo_link_15 rfl (lv_at hl 0 rfl) ?_
        refine zg_get (ci := 9) (C := "ZoneAnswers$Zone") (T := T_Zo) (N := 5) hx hb hts zi_Zo hown hK hG ha rfl 0 (by decide) (hts _ w_91) (fun _ h9 => h9) rfl d_Zo_link_16 ?_
        refine lv_iload_n hx hb d_Zo_link_19 rfl (lv_at hl 2 rfl) ?_
        have hGo20 := hG
        refine zk_q (va_runV (As := [.int (nI n2)]) (rest := []) ⟨hx, hb, hml, hown, hts⟩ (t_AL_get l E G la dd os.length cap9 k9 f9 hla hd9 hc9 (by omega) n2 hinn) (zcV 1 hts w_163 w_164 w_165 w_6 w_166 (by decide +kernel) ⟨Nat.le_of_ble_eq_true rfl, Nat.le_of_ble_eq_true rfl⟩) (zc_preV hbase hK hN hQ hG hS hla rfl) rfl rfl hl.1 rfl (lv_room (Nat.le_of_ble_eq_true rfl)) d_Zo_link_20 ⟨(by dsimp only; omega), (by dsimp only; omega)⟩) hS (fun r20 G20 H locs hp20 hG hS => ?_)
        have hG : zP E G H := hp20.2 ▸ hG
        refine zr_some (a := oA (oe os n2)) (hp20.1.trans ((hf9 n2).trans (oe_m hinn))) ?_
        refine zg_castY hx hb hown (hts _ w_177) hK hG ho1n rfl (zN.at hN (w := .castable "ZoneAnswers$Owner" "ZoneAnswers$Owner") (by decide +kernel)) d_Zo_link_23 ?_
        refine zk_i (va_runV (As := []) (rest := []) ⟨hx, hb, hml, hown, hts⟩ (t_Ow_isGivenAway_t l (hZR.2 _ (oe_mem hinn))) (zcV 0 hts w_757 w_758 w_759 w_12 w_760 (by decide +kernel) ⟨Nat.le_of_ble_eq_true rfl, Nat.le_of_ble_eq_true rfl⟩) (zc_preV hbase hK hN hQ hG hS ho1n rfl) rfl rfl hl.1 rfl (lv_room (Nat.le_of_ble_eq_true rfl)) d_Zo_link_26 ⟨(by dsimp only; omega), (by dsimp only; omega)⟩) hS (fun r26 G26 H locs hp26 hG hS => ?_)
        have hG : zP E G H := hp26.2 ▸ hG
        refine lv_if_eq (tgt := 38) hx hb d_Zo_link_29 (by decide) (fun c29 => ?_) (fun c29 => ?_)
        · refine lv_aload_n hx hb d_Zo_link_38 rfl (lv_at hl 0 rfl) ?_
          refine zg_get (ci := 9) (C := "ZoneAnswers$Zone") (T := T_Zo) (N := 5) hx hb hts zi_Zo hown hK hG ha rfl 0 (by decide) (hts _ w_91) (fun _ h9 => h9) rfl d_Zo_link_39 ?_
          refine lv_iload_n hx hb d_Zo_link_42 rfl (lv_at hl 2 rfl) ?_
          refine lv_aload_n hx hb d_Zo_link_43 rfl (lv_at hl 0 rfl) ?_
          refine zg_get (ci := 9) (C := "ZoneAnswers$Zone") (T := T_Zo) (N := 5) hx hb hts zi_Zo hown hK hG ha rfl 0 (by decide) (hts _ w_91) (fun _ h9 => h9) rfl d_Zo_link_44 ?_
          refine zk_i (va_runV (As := []) (rest := [.int (nI n2), .ref la]) ⟨hx, hb, hml, hown, hts⟩ (t_AL_size l E G la (.ref dd) (nI os.length) k9 hla) (zcV 0 hts w_159 w_160 w_161 w_6 w_162 (by decide +kernel) ⟨Nat.le_of_ble_eq_true rfl, Nat.le_of_ble_eq_true rfl⟩) (zc_preV hbase hK hN hQ hG hS hla rfl) rfl rfl hl.1 rfl (lv_room (Nat.le_of_ble_eq_true rfl)) d_Zo_link_47 ⟨(by dsimp only; omega), (by dsimp only; omega)⟩) hS (fun r47 G47 H locs hp47 hG hS => ?_)
          have hG : zP E G H := hp47.2 ▸ hG
          refine zi_as (y := nI os.length) hp47.1 ?_
          refine lv_icmp_ge (tgt := 57) hx hb d_Zo_link_50 (by decide) (fun c50 => ?_) (fun c50 => ?_)
          · have b50 : os.length ≤ n2 := (nI_leI (a := os.length) (b := n2) (by omega) (by omega)).mp c50
            exact absurd hinn (by omega)
          · have b50 : ¬ os.length ≤ n2 := fun q => c50 ((nI_leI (a := os.length) (b := n2) (by omega) (by omega)).mpr q)
            have hinx : n2 < os.length := by omega
            obtain ⟨ho1x, ho2x, ⟨btx, ftx, ho3x, ho4x, ho5x, ho6x, ho7x, ho8x, ho9x⟩, ⟨⟨⟨kl9x, ho10x⟩, -⟩, -⟩, -⟩ := hZR.2 _ (oe_mem hinx)
            rw [List.length_map] at ho10x
            have hcnx := ho6x.count
            have hsmx := ho6x.2
            refine lv_iload_n hx hb d_Zo_link_53 rfl (lv_at hl 2 rfl) ?_
            refine lv_goto (tgt := 58) hx hb d_Zo_link_54 (by decide) ?_
            have hGo58 := hG
            refine zk_q (va_runV (As := [.int (nI n2)]) (rest := []) ⟨hx, hb, hml, hown, hts⟩ (t_AL_get l E G la dd os.length cap9 k9 f9 hla hd9 hc9 (by omega) n2 hinx) (zcV 1 hts w_163 w_164 w_165 w_6 w_166 (by decide +kernel) ⟨Nat.le_of_ble_eq_true rfl, Nat.le_of_ble_eq_true rfl⟩) (zc_preV hbase hK hN hQ hG hS hla rfl) rfl rfl hl.1 rfl (lv_room (Nat.le_of_ble_eq_true rfl)) d_Zo_link_58 ⟨(by dsimp only; omega), (by dsimp only; omega)⟩) hS (fun r58 G58 H locs hp58 hG hS => ?_)
            have hG : zP E G H := hp58.2 ▸ hG
            refine zr_some (a := oA (oe os n2)) (hp58.1.trans ((hf9 n2).trans (oe_m hinx))) ?_
            refine zg_castY hx hb hown (hts _ w_177) hK hG ho1x rfl (zN.at hN (w := .castable "ZoneAnswers$Owner" "ZoneAnswers$Owner") (by decide +kernel)) d_Zo_link_61 ?_
            refine zg_get (ci := 4) (C := "ZoneAnswers$Owner") (T := T_Ow) (N := 3) hx hb hts zi_Ow hown hK hG ho1x rfl 0 (by decide) (hts _ w_206) (fun _ h9 => h9) rfl d_Zo_link_64 ?_
            refine zg_get (ci := 3) (C := "ZoneAnswers$Name") (T := T_Na) (N := 2) hx hb hts zi_Na hown hK hG ho3x rfl 0 (by decide) (hts _ w_115) (fun _ h9 => h9) rfl d_Zo_link_67 ?_
            refine lv_astore_n (lv' := [(3, .ref btx), (0, .ref a), (1, .int (nI pl)), (2, .int (nI n2))]) hx hb d_Zo_link_70 rfl hl (by decide) rfl (fun ls hl => ?_)
            refine lv_aload_n hx hb d_Zo_link_71 rfl (lv_at hl 1 rfl) ?_
            refine zg_get (ci := 9) (C := "ZoneAnswers$Zone") (T := T_Zo) (N := 5) hx hb hts zi_Zo hown hK hG ha rfl 0 (by decide) (hts _ w_91) (fun _ h9 => h9) rfl d_Zo_link_72 ?_
            refine lv_iload_n hx hb d_Zo_link_75 rfl (lv_at hl 2 rfl) ?_
            have hGo76 := hG
            refine zk_q (va_runV (As := [.int (nI pl)]) (rest := []) ⟨hx, hb, hml, hown, hts⟩ (t_AL_get l E G la dd os.length cap9 k9 f9 hla hd9 hc9 (by omega) pl hinp) (zcV 1 hts w_163 w_164 w_165 w_6 w_166 (by decide +kernel) ⟨Nat.le_of_ble_eq_true rfl, Nat.le_of_ble_eq_true rfl⟩) (zc_preV hbase hK hN hQ hG hS hla rfl) rfl rfl hl.1 rfl (lv_room (Nat.le_of_ble_eq_true rfl)) d_Zo_link_76 ⟨(by dsimp only; omega), (by dsimp only; omega)⟩) hS (fun r76 G76 H locs hp76 hG hS => ?_)
            have hG : zP E G H := hp76.2 ▸ hG
            refine zr_some (a := oA (oe os pl)) (hp76.1.trans ((hf9 pl).trans (oe_m hinp))) ?_
            refine zg_castY hx hb hown (hts _ w_177) hK hG ho1p rfl (zN.at hN (w := .castable "ZoneAnswers$Owner" "ZoneAnswers$Owner") (by decide +kernel)) d_Zo_link_79 ?_
            have hGo82 := hG
            refine zk_q (va_runV (As := []) (rest := []) ⟨hx, hb, hml, hown, hts⟩ (t_Ow_linkTypes l E G ro (oe os pl) (hZR.2 _ (oe_mem hinp)) hsl) (zcV 0 hts w_1101 w_1102 w_1103 w_12 w_1104 (by decide +kernel) ⟨Nat.le_of_ble_eq_true rfl, Nat.le_of_ble_eq_true rfl⟩) (zc_preV hbase hK hN hQ hG hS ho1p rfl) rfl rfl hl.1 rfl (lv_room (Nat.le_of_ble_eq_true rfl)) d_Zo_link_82 ⟨(by dsimp only; omega), (by dsimp only; omega)⟩) hS (fun r82 G82 H locs hp82 hG hS => ?_)
            obtain ⟨qt, ft9, er82, nqt, hx82, hct, hft9⟩ := hp82
            refine zr_some (a := qt) er82 ?_
            rw [← zlT_len] at hct
            have hT9 := zlT_f hft9
            have k14 : G82 btx = some (.inl (E.2.1 0, np_len (oM (oe os n2)), .inl ftx)) := hx82.o ho4x
            have ne_qt_btx : btx ≠ qt := zg_fr nqt ho4x
            have hx15 : zx z0 G G82 := hx0.tr (hx82.w (fun _ z => z.elim))
            refine lv_astore (lv' := [(4, .ref qt), (3, .ref btx), (0, .ref a), (1, .int (nI pl)), (2, .int (nI n2))]) hx hb d_Zo_link_85 hl (by decide) rfl (fun ls hl => ?_)
            refine lv_aload_n hx hb d_Zo_link_87 rfl (lv_at hl 1 rfl) ?_
            refine lv_aload_n hx hb d_Zo_link_88 rfl (lv_at hl 1 rfl) ?_
            refine zg_alen hx hb hK hG 0 k14 rfl (v := nI (np_len (oM (oe os n2)))) rfl d_Zo_link_89 ?_
            refine lv_aload hx hb d_Zo_link_90 (lv_at hl 0 rfl) ?_
            refine zk_i (va_runS (As := [.ref qt]) (rest := [.int (nI (np_len (oM (oe os n2)))), .ref btx]) ⟨hx, hb, hml, hown, hts⟩ (t_Zo_windowsLength l E G82 qt (zlT (oe os pl)) ft9 hct hT9 zlT_b (zlT_so hss) (by rw [zlT_len]; omega)) (zcS 1 hts w_1122 w_1123 w_3 w_1124 (by decide +kernel) ⟨Nat.le_of_ble_eq_true rfl, Nat.le_of_ble_eq_true rfl⟩) (zc_pre hbase hK hN hQ hG hS) rfl rfl hl.1 rfl (lv_room (Nat.le_of_ble_eq_true rfl)) d_Zo_link_92 ⟨(by dsimp only; omega), (by dsimp only; omega)⟩) hS (fun r92 G92 H locs hp92 hG hS => ?_)
            have hG : zP E G82 H := hp92.2 ▸ hG
            refine zi_as (y := nI ((wws (zlT (oe os pl))).1.length)) hp92.1 ?_
            refine lv_iadd hx hb d_Zo_link_95 ?_
            refine zi_as (y := nI (np_len (oM (oe os n2)) + ((wws (zlT (oe os pl))).1.length))) (nI_add (np_len (oM (oe os n2))) ((wws (zlT (oe os pl))).1.length)) ?_
            have hGo96 := hG
            refine zk_q (va_runS (As := [.ref btx, .int (nI (np_len (oM (oe os n2)) + ((wws (zlT (oe os pl))).1.length)))]) (rest := []) ⟨hx, hb, hml, hown, hts⟩ (t_Ar_copyOf l E G82 btx (np_len (oM (oe os n2))) ftx k14 ho7x (by have := ho6x.2; omega) (np_len (oM (oe os n2)) + (wws (zlT (oe os pl))).1.length) (by omega) (by have := ho6x.2; omega)) (zcS 2 hts w_1125 w_338 w_22 w_339 (by decide +kernel) ⟨Nat.le_of_ble_eq_true rfl, Nat.le_of_ble_eq_true rfl⟩) (zc_pre hbase hK hN hQ hG hS) rfl rfl hl.1 rfl (lv_room (Nat.le_of_ble_eq_true rfl)) d_Zo_link_96 ⟨(by have := ho6x.2; dsimp only; omega), (by have := ho6x.2; dsimp only; omega)⟩) hS (fun r96 G96 H locs hp96 hG hS => ?_)
            obtain ⟨qd, f96, er96, nqd, hx96, hcd, hft96, hfa96, hfz96⟩ := hp96
            refine zr_some (a := qd) er96 ?_
            have k16 : G96 btx = some (.inl (E.2.1 0, np_len (oM (oe os n2)), .inl ftx)) := hx96.o k14
            have ne_qd_btx : btx ≠ qd := zg_fr nqd k14
            have k17 : G96 qt = some (.inl (E.2.1 1, (zlT (oe os pl)).length, .inl ft9)) := hx96.o hct
            have ne_qd_qt : qt ≠ qd := zg_fr nqd hct
            have hx18 : zx z0 G G96 := hx15.tr (hx96.w (fun _ z => z.elim))
            have nqd0 : G qd = none := zx.no hx15 nqd
            refine lv_astore (lv' := [(5, .ref qd), (4, .ref qt), (3, .ref btx), (0, .ref a), (1, .int (nI pl)), (2, .int (nI n2))]) hx hb d_Zo_link_99 hl (by decide) rfl (fun ls hl => ?_)
            refine lv_aload hx hb d_Zo_link_101 (lv_at hl 0 rfl) ?_
            refine lv_aload_n hx hb d_Zo_link_103 rfl (lv_at hl 2 rfl) ?_
            refine zg_alen hx hb hK hG 0 k16 rfl (v := nI (np_len (oM (oe os n2)))) rfl d_Zo_link_104 ?_
            refine lv_aload hx hb d_Zo_link_105 (lv_at hl 1 rfl) ?_
            have hGo107 := hG
            refine zk_v (va_runS (As := [.ref qd, .int (nI (np_len (oM (oe os n2)))), .ref qt]) (rest := []) ⟨hx, hb, hml, hown, hts⟩ (t_Zo_writeWindows l E G96 qd (np_len (oM (oe os n2))) f96 qt (zlT (oe os pl)) ft9 k17 hT9 zlT_b (zlT_so hss) (by rw [zlT_len]; omega) hcd hft96 hfz96 (by have := ho6x.2; omega) (Ne.symm ne_qd_qt |> Ne.symm)) (zcS 3 hts w_1126 w_1127 w_3 w_1128 (by decide +kernel) ⟨Nat.le_of_ble_eq_true rfl, Nat.le_of_ble_eq_true rfl⟩) (zc_pre hbase hK hN hQ hG hS) rfl rfl hl.1 rfl (lv_room (Nat.le_of_ble_eq_true rfl)) d_Zo_link_107 ⟨(by dsimp only; omega), (by dsimp only; omega)⟩) hS (fun G107 H locs hp107 hG hS => ?_)
            obtain ⟨f107, hcw, hx107, hftw, hwa9⟩ := hp107
            have hx19 : zx z0 G G107 := fun q x hs hq => hx107 q x (fun z => by rw [z, nqd0] at hq; cases hq) (hx18 q x hs hq)
            refine zg_new (ci := 2) (fs := [.null, .null]) (C := "ZoneAnswers$Datum") (T := T_Da) (N := 2) hx hb hts zi_Da t_Da t_Da_ok hown (hts _ w_133) (hts _ w_134) (hts _ w_8) hK hG hS hbase rfl (fun j hj => by rcases (show j = 0 ∨ j = 1 by omega) with rfl | rfl <;> rfl) (by dsimp only; omega) (by dsimp only; omega) d_Zo_link_110 (fun q110 H n110 hG hS => ?_)
            obtain ⟨G20, eG20⟩ : ∃ z : zg_G, z = zg_up G107 q110 (.inr (2, [.null, .null])) := ⟨_, rfl⟩
            have hG : zP E G20 H := by rw [eG20]; exact hG
            have nf110 : G q110 = none := zx.fr hx19 n110 (fun h => h)
            have hx21 : zx z0 G G20 := hx19.tr (by rw [eG20]; exact zx.nw n110)
            have ne110_qd : qd ≠ q110 := zg_fr n110 hcw
            have k22 : G20 qd = some (.inl (E.2.1 0, np_len (oM (oe os n2)) + (wws (zlT (oe os pl))).1.length, .inl f107)) := by rw [eG20, zg_up_ne (zg_fr n110 hcw)]; exact hcw
            have k23 : G20 q110 = some (.inr (2, [.null, .null])) := by rw [eG20]; exact zg_up_self _ _ _
            refine lv_dup hx hb d_Zo_link_113 rfl ?_
            refine lv_aload hx hb d_Zo_link_114 (lv_at hl 0 rfl) ?_
            refine lv_null hx hb d_Zo_link_116 ?_
            have hGo117 := hG
            refine zk_v (va_runI (As := [.ref qd, .null]) (rest := [.ref q110]) ⟨hx, hb, hml, hown, hts⟩ (t_Da_init_n l E G20 q110 qd k23) (zcI 2 hts w_135 w_136 w_8 w_137 rfl (by decide +kernel) ⟨Nat.le_of_ble_eq_true rfl, Nat.le_of_ble_eq_true rfl⟩) (zc_pre hbase hK hN hQ hG hS) rfl rfl hl.1 rfl (lv_room (Nat.le_of_ble_eq_true rfl)) d_Zo_link_117 ⟨(by dsimp only; omega), (by dsimp only; omega)⟩) hS (fun G117 H locs hp117 hG hS => ?_)
            have hx24 : zx z0 G G117 := by rw [hp117]; exact hx21.upn nf110
            have k25 : G117 qd = some (.inl (E.2.1 0, np_len (oM (oe os n2)) + (wws (zlT (oe os pl))).1.length, .inl f107)) := by rw [hp117, zg_up_ne (ne110_qd)]; exact k22
            have k26 : G117 q110 = some (.inr (2, [.ref qd, .null])) := by rw [hp117]; exact zg_up_self _ _ _
            exact hret (some q110) _ _ _ _ _ _ _ _ hr (Or.inl ⟨_, rfl⟩) (⟨q110, qd, n2, rfl, nf110, nqd0, hx24, k26, zBy_w k25 ho5x hfa96 hwa9 hftw, Or.inr ⟨hn1, hinn, hp26.1.z c29, hq⟩⟩) hG hS (by dsimp only; omega) (by dsimp only; omega) d_Zo_link_120
        · refine lv_iinc (v := nI (n2 + 1)) (lv' := [(2, .int (nI (n2 + 1))), (0, .ref a), (1, .int (nI pl))]) hx hb d_Zo_link_32 hl (k := 2) rfl (nI_add n2 1) (by decide) rfl (fun ls hl => ?_)
          refine lv_goto (tgt := 4) hx hb d_Zo_link_35 (by decide) ?_
          exact ih (n2 + 1) _ _ (by omega) (by omega) (by omega) (fun j h1 h2 => by rcases Nat.lt_or_ge j n2 with q | q; exact hq j h1 q; rw [show j = n2 by omega]; exact hp26.1.nz c29) hG hS ls (lv_sub hl [1, 2, 0] rfl)
  exact loop4 _ (pl + 1) _ _ (Nat.lt_succ_self _) (by omega) (by omega) (fun j h1 h2 => absurd h1 (by omega)) hG hS ls (lv_sub hl [1, 2, 0] rfl)
