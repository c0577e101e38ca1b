theorem zDR.tg {E : zc_E} {G : zg_G} {r : zRo} {d : zDt} {ls : np_N} (h : zDR E G r d) (e : d.2.2 = some ls) : ∃ b y, G d.1 = some (.inr (2, [.ref b, .ref y])) ∧ zNR E G r y ls := by
  obtain ⟨b, t, h1, h2, h3, h4, ⟨-, h5⟩ | ⟨y, l2, e1, e2, h6⟩⟩ := h
  · rw [e] at h5; cases h5
  · rw [e] at e2
    cases e2
    rw [e1] at h1
    exact ⟨b, y, h1, h6⟩
theorem fold_take {α β : Type} {f : β → α → β} {xs : List α} {i : Nat} {a : α} {A : β} (h : xs[i]? = some a) : (xs.take (i + 1)).foldl f A = f ((xs.take i).foldl f A) a := by
  rw [List.take_add_one, h, List.foldl_append]; rfl
theorem vfold_tk {α : Type} {f : zW → α → zW} (hf : ∀ W a, zLe W (f W a)) {xs : List α} {n : Nat} {A : zW} : zLe ((xs.take n).foldl f A) (xs.foldl f A) := by
  have e : xs.foldl f A = (xs.drop n).foldl f ((xs.take n).foldl f A) := by rw [← List.foldl_append, List.take_append_drop]
  rw [e]; exact vfold_le f hf _ _
theorem zss_un {o : zOt} (h : zss o) {i j : Nat} (hi : i < (oX o).length) (hj : j < (oX o).length) (e : sT (oS o i) = sT (oS o j)) : i = j := by
  by_cases z : i = j
  · exact z
  · exact absurd e (zss_ne h hi hj z)
theorem vrf1_0 {V : zVt} {top c : np_N} {sec : Bool} {W : zW} (h : V c 43 = []) : vrf1 V top sec W c = vpr V top sec (w2 W (vrw V c c 2)) c := if_pos h
theorem vrf1_s {V : zVt} {top c : np_N} {sec : Bool} {W : zW} (h : ¬ V c 43 = []) (h2 : sec = true) : vrf1 V top sec W c = w2 (w2 W (vrw V c c 2)) (vrw V c c 43) := by unfold vrf1; rw [if_neg h, if_pos h2]
theorem vrf1_n {V : zVt} {top c : np_N} {sec : Bool} {W : zW} (h : ¬ V c 43 = []) (h2 : ¬ sec = true) : vrf1 V top sec W c = w2 W (vrw V c c 2) := by unfold vrf1; rw [if_neg h, if_neg h2]
theorem vat_c {V : zVt} {top c : np_N} (h : vch V top c) : vat V top c = c := zif_y h
theorem zGZ.fi {os : List zOt} {top : np_N} (h : zGZ os top) {i : Nat} (hi : i < os.length) : oM (oe os 0) = oM (oe os i) ∨ nk_d (zky (oM (oe os 0))) (zky (oM (oe os i))) < 0 := by
  rcases Nat.eq_zero_or_pos i with z | z
  · exact Or.inl (by rw [z])
  · exact Or.inr ((h.lt h.2.2.1 hi).mpr z)
theorem zV_fd {os : List zOt} {i : Nat} {t : Int32} (h : zgo os) (hi : i < os.length) (hn : ∀ j, j < (oX (oe os i)).length → sT (oS (oe os i) j) ≠ t) : zV os (oM (oe os i)) t = [] := Classical.byContradiction (fun z => absurd ((zV_ne h hi).mp z) (fun w => by obtain ⟨j, q1, q2⟩ := w; exact hn j q1 q2))
theorem w_144 : (.fieldLink "ZoneAnswers$Answer" 132 "ZoneAnswers$Datum" "target" "LZoneAnswers$Name;" : Cond) ∈ zw := zw_at 144 (by decide +kernel) (by decide +kernel)
theorem w_626 : (.fieldLink "ZoneAnswers$Answer" 120 "ZoneAnswers$Rrset" "data" "Ljava/util/ArrayList;" : Cond) ∈ zw := zw_at 626 (by decide +kernel) (by decide +kernel)
theorem w_880 : (.instanceMethod ⟨"ZoneAnswers$Zone", "at", "(LZoneAnswers$Name;)LZoneAnswers$Owner;"⟩ : Cond) ∈ zw := zw_at 880 (by decide +kernel) (by decide +kernel)
theorem w_881 : (.selects "ZoneAnswers$Zone" ⟨"ZoneAnswers$Zone", "at", "(LZoneAnswers$Name;)LZoneAnswers$Owner;"⟩ ⟨"ZoneAnswers$Zone", "at", "(LZoneAnswers$Name;)LZoneAnswers$Owner;"⟩ : Cond) ∈ zw := zw_at 881 (by decide +kernel) (by decide +kernel)
theorem w_882 : (.code ⟨"ZoneAnswers$Zone", "at", "(LZoneAnswers$Name;)LZoneAnswers$Owner;"⟩ prog_10_method_10_code 3 (some (.object "ZoneAnswers$Owner")) : Cond) ∈ zw := zw_at 882 (by decide +kernel) (by decide +kernel)
theorem w_1068 : (.methodLink "ZoneAnswers$Answer" 113 ⟨"ZoneAnswers$Zone", "linkAt", "(LZoneAnswers$Name;)I"⟩ : Cond) ∈ zw := zw_at 1068 (by decide +kernel) (by decide +kernel)
theorem w_1069 : (.instanceMethod ⟨"ZoneAnswers$Zone", "linkAt", "(LZoneAnswers$Name;)I"⟩ : Cond) ∈ zw := zw_at 1069 (by decide +kernel) (by decide +kernel)
theorem w_1070 : (.selects "ZoneAnswers$Zone" ⟨"ZoneAnswers$Zone", "linkAt", "(LZoneAnswers$Name;)I"⟩ ⟨"ZoneAnswers$Zone", "linkAt", "(LZoneAnswers$Name;)I"⟩ : Cond) ∈ zw := zw_at 1070 (by decide +kernel) (by decide +kernel)
theorem w_1071 : (.code ⟨"ZoneAnswers$Zone", "linkAt", "(LZoneAnswers$Name;)I"⟩ prog_10_method_19_code 3 (some .int) : Cond) ∈ zw := zw_at 1071 (by decide +kernel) (by decide +kernel)
theorem w_1134 : (.methodLink "ZoneAnswers$Answer" 116 ⟨"ZoneAnswers$Rrset", "size", "()I"⟩ : Cond) ∈ zw := zw_at 1134 (by decide +kernel) (by decide +kernel)
theorem w_1135 : (.methodLink "ZoneAnswers$Answer" 124 ⟨"java/util/ArrayList", "get", "(I)Ljava/lang/Object;"⟩ : Cond) ∈ zw := zw_at 1135 (by decide +kernel) (by decide +kernel)
theorem w_1136 : (.classLink "ZoneAnswers$Answer" 130 "ZoneAnswers$Datum" : Cond) ∈ zw := zw_at 1136 (by decide +kernel) (by decide +kernel)
theorem w_1137 : (.methodLink "ZoneAnswers$Answer" 79 ⟨"ZoneAnswers$Zone", "at", "(LZoneAnswers$Name;)LZoneAnswers$Owner;"⟩ : Cond) ∈ zw := zw_at 1137 (by decide +kernel) (by decide +kernel)
theorem w_1138 : (.methodLink "ZoneAnswers$Answer" 135 ⟨"ZoneAnswers$Answer", "addAddressesOf", "(LZoneAnswers$Owner;)V"⟩ : Cond) ∈ zw := zw_at 1138 (by decide +kernel) (by decide +kernel)
theorem w_1140 : (.instanceMethod ⟨"ZoneAnswers$Answer", "addAddressesOf", "(LZoneAnswers$Owner;)V"⟩ : Cond) ∈ zw := zw_at 1140 (by decide +kernel) (by decide +kernel)
theorem w_1141 : (.code ⟨"ZoneAnswers$Answer", "addAddressesOf", "(LZoneAnswers$Owner;)V"⟩ prog_2_method_11_code 2 none : Cond) ∈ zw := zw_at 1141 (by decide +kernel) (by decide +kernel)
theorem wp_19 : (.selects "ZoneAnswers$Answer" ⟨"ZoneAnswers$Answer", "addAddressesOf", "(LZoneAnswers$Owner;)V"⟩ ⟨"ZoneAnswers$Answer", "addAddressesOf", "(LZoneAnswers$Owner;)V"⟩ : Cond) ∈ zw := zw_pv 19 (y := ⟨"ZoneAnswers$Answer", "addAddressesOf", "(LZoneAnswers$Owner;)V"⟩) rfl (by decide +kernel)
abbrev c_An_refer : ByteArray := prog_2_method_5_code
abbrev y_An_refer : MethodName := ⟨"ZoneAnswers$Answer", "refer", "(LZoneAnswers$Owner;)V"⟩
theorem d_An_refer_0 : decode c_An_refer 0 = .ok (.aload_n 1, 1) := by decide +kernel
theorem d_An_refer_1 : decode c_An_refer 1 = .ok (.iconst 2, 1) := by decide +kernel
theorem d_An_refer_2 : decode c_An_refer 2 = .ok (.invokevirtual 86, 3) := by decide +kernel
theorem d_An_refer_5 : decode c_An_refer 5 = .ok (.astore_n 2, 1) := by decide +kernel
theorem d_An_refer_6 : decode c_An_refer 6 = .ok (.aload_n 2, 1) := by decide +kernel
theorem d_An_refer_7 : decode c_An_refer 7 = .ok (.ifnonnull 4, 3) := by decide +kernel
theorem d_An_refer_10 : decode c_An_refer 10 = .ok (.return_, 1) := by decide +kernel
theorem d_An_refer_11 : decode c_An_refer 11 = .ok (.aload_n 0, 1) := by decide +kernel
theorem d_An_refer_12 : decode c_An_refer 12 = .ok (.getfield 22, 3) := by decide +kernel
theorem d_An_refer_15 : decode c_An_refer 15 = .ok (.aload_n 1, 1) := by decide +kernel
theorem d_An_refer_16 : decode c_An_refer 16 = .ok (.getfield 55, 3) := by decide +kernel
theorem d_An_refer_19 : decode c_An_refer 19 = .ok (.aload_n 2, 1) := by decide +kernel
theorem d_An_refer_20 : decode c_An_refer 20 = .ok (.aload_n 2, 1) := by decide +kernel
theorem d_An_refer_21 : decode c_An_refer 21 = .ok (.getfield 94, 3) := by decide +kernel
theorem d_An_refer_24 : decode c_An_refer 24 = .ok (.invokevirtual 99, 3) := by decide +kernel
theorem d_An_refer_27 : decode c_An_refer 27 = .ok (.aload_n 1, 1) := by decide +kernel
theorem d_An_refer_28 : decode c_An_refer 28 = .ok (.bipush 43, 2) := by decide +kernel
theorem d_An_refer_30 : decode c_An_refer 30 = .ok (.invokevirtual 86, 3) := by decide +kernel
theorem d_An_refer_33 : decode c_An_refer 33 = .ok (.astore_n 3, 1) := by decide +kernel
theorem d_An_refer_34 : decode c_An_refer 34 = .ok (.aload_n 3, 1) := by decide +kernel
theorem d_An_refer_35 : decode c_An_refer 35 = .ok (.ifnonnull 21, 3) := by decide +kernel
theorem d_An_refer_38 : decode c_An_refer 38 = .ok (.aload_n 0, 1) := by decide +kernel
theorem d_An_refer_39 : decode c_An_refer 39 = .ok (.aload_n 0, 1) := by decide +kernel
theorem d_An_refer_40 : decode c_An_refer 40 = .ok (.getfield 9, 3) := by decide +kernel
theorem d_An_refer_43 : decode c_An_refer 43 = .ok (.aload_n 1, 1) := by decide +kernel
theorem d_An_refer_44 : decode c_An_refer 44 = .ok (.getfield 55, 3) := by decide +kernel
theorem d_An_refer_47 : decode c_An_refer 47 = .ok (.invokevirtual 113, 3) := by decide +kernel
theorem d_An_refer_50 : decode c_An_refer 50 = .ok (.invokevirtual 106, 3) := by decide +kernel
theorem d_An_refer_53 : decode c_An_refer 53 = .ok (.goto 26, 3) := by decide +kernel
theorem d_An_refer_56 : decode c_An_refer 56 = .ok (.aload_n 0, 1) := by decide +kernel
theorem d_An_refer_57 : decode c_An_refer 57 = .ok (.getfield 35, 3) := by decide +kernel
theorem d_An_refer_60 : decode c_An_refer 60 = .ok (.ifCond .eq 19, 3) := by decide +kernel
theorem d_An_refer_63 : decode c_An_refer 63 = .ok (.aload_n 0, 1) := by decide +kernel
theorem d_An_refer_64 : decode c_An_refer 64 = .ok (.getfield 22, 3) := by decide +kernel
theorem d_An_refer_67 : decode c_An_refer 67 = .ok (.aload_n 1, 1) := by decide +kernel
theorem d_An_refer_68 : decode c_An_refer 68 = .ok (.getfield 55, 3) := by decide +kernel
theorem d_An_refer_71 : decode c_An_refer 71 = .ok (.aload_n 3, 1) := by decide +kernel
theorem d_An_refer_72 : decode c_An_refer 72 = .ok (.aload_n 3, 1) := by decide +kernel
theorem d_An_refer_73 : decode c_An_refer 73 = .ok (.getfield 94, 3) := by decide +kernel
theorem d_An_refer_76 : decode c_An_refer 76 = .ok (.invokevirtual 99, 3) := by decide +kernel
theorem d_An_refer_79 : decode c_An_refer 79 = .ok (.iconst 0, 1) := by decide +kernel
theorem d_An_refer_80 : decode c_An_refer 80 = .ok (.istore 4, 2) := by decide +kernel
theorem d_An_refer_82 : decode c_An_refer 82 = .ok (.iload 4, 2) := by decide +kernel
theorem d_An_refer_84 : decode c_An_refer 84 = .ok (.aload_n 2, 1) := by decide +kernel
theorem d_An_refer_85 : decode c_An_refer 85 = .ok (.invokevirtual 116, 3) := by decide +kernel
theorem d_An_refer_88 : decode c_An_refer 88 = .ok (.if_icmp .ge 35, 3) := by decide +kernel
theorem d_An_refer_91 : decode c_An_refer 91 = .ok (.aload_n 0, 1) := by decide +kernel
theorem d_An_refer_92 : decode c_An_refer 92 = .ok (.aload_n 0, 1) := by decide +kernel
theorem d_An_refer_93 : decode c_An_refer 93 = .ok (.getfield 9, 3) := by decide +kernel
theorem d_An_refer_96 : decode c_An_refer 96 = .ok (.aload_n 2, 1) := by decide +kernel
theorem d_An_refer_97 : decode c_An_refer 97 = .ok (.getfield 120, 3) := by decide +kernel
theorem d_An_refer_100 : decode c_An_refer 100 = .ok (.iload 4, 2) := by decide +kernel
theorem d_An_refer_102 : decode c_An_refer 102 = .ok (.invokevirtual 124, 3) := by decide +kernel
theorem d_An_refer_105 : decode c_An_refer 105 = .ok (.checkcast 130, 3) := by decide +kernel
theorem d_An_refer_108 : decode c_An_refer 108 = .ok (.getfield 132, 3) := by decide +kernel
theorem d_An_refer_111 : decode c_An_refer 111 = .ok (.invokevirtual 79, 3) := by decide +kernel
theorem d_An_refer_114 : decode c_An_refer 114 = .ok (.invokevirtual 135, 3) := by decide +kernel
theorem d_An_refer_117 : decode c_An_refer 117 = .ok (.iinc 4 1, 3) := by decide +kernel
theorem d_An_refer_120 : decode c_An_refer 120 = .ok (.goto (-38), 3) := by decide +kernel
theorem d_An_refer_123 : decode c_An_refer 123 = .ok (.return_, 1) := by decide +kernel
abbrev rm_An_refer (c9 s9 : Nat) : Room := { frames := 12, cells := c9, slots := s9, locals := 420 }
set_option maxHeartbeats 4000000 in
set_option maxRecDepth 100000 in
/-- Answer.refer(cut) -/
theorem t_An_refer (l : Launch) (E : zc_E) (G : zg_G) (k : Nat → Nat) (ro : zRo) (rc ty se : Int32) (os : List zOt) (top : np_N) (d1 d2 d3 : Nat) (t1 t2 t3 : List zTt) (hCx : zCx E G ro k rc ty se os top d1 d2 d3 t1 t2 t3) (hGZ : zGZ os top) (hdw : zdw os) (hzn : znr os < 2000) (ci : Nat) (hci : ci < os.length) (hct : zhT (oe os ci) 2) (hch : vch (zV os) top (oM (oe os ci))) (hB9 : zB9 (vrf (zV os) top (zscu se) (zWt t1 t2 t3) (oM (oe os ci)))) : zMv l E y_An_refer c_An_refer 5 (rm_An_refer (zPc (vrf (zV os) top (zscu se) (zWt t1 t2 t3) (oM (oe os ci))) - zPc (zWt t1 t2 t3)) (zPh os k (vrf (zV os) top (zscu se) (zWt t1 t2 t3) (oM (oe os ci))) - zPh os k (zWt t1 t2 t3))) [.ref (k 0), .ref (oA (oe os ci))] G (fun (G2 : zg_G) => ∃ ro2 e1 e2 e3 u1 u2 u3, zCx E G2 ro2 k rc ty se os top e1 e2 e3 u1 u2 u3 ∧ zfr ro zKa G ro2 G2 ∧ zWt u1 u2 u3 = vrf (zV os) top (zscu se) (zWt t1 t2 t3) (oM (oe os ci))) := by
  refine zMv.of (by decide) (Nat.le_of_ble_eq_true rfl) ?_
  intro p e s m args below meth c Q hZ hG hret ls hl
  obtain ⟨hx, hb, hr, hts, hown, hlocks, hml, hnm, hbase, hK, hN, hQ⟩ := hZ
  have hl : lv_has ls 5 [(0, .ref (k 0)), (1, .ref (oA (oe os ci)))] := hl
  have hS : zg_S (zc_b E) s.heap s.heap [] := va_S.rf
  obtain ⟨⟨hz1, hz2, hz3, hz4, hz5, soa, u9, hz6, hz7, hz8, hz9, hzA⟩, ⟨ha1, ha2, hs1, hs2, hs3⟩, hT1⟩ := id hCx
  obtain ⟨bo, fo, hno1, hno2, hno3, hno4, hno5, -⟩ := id hz4
  have hne : 0 < os.length := hGZ.2.2.1
  have hsz := hGZ.1.sz
  have hol : os.length ≤ 2000 := by have := hsz.1; omega
  have hso := hGZ.1.1
  have hE00 : G (E.2.2.2 0) = none := hQ.out hG
  have hl0 := zWt_l t1 t2 t3
  obtain ⟨j2, hj2, ht2⟩ := id hct
  have hvr := vrw_s (x := oM (oe os ci)) hGZ.1 hci hj2
  rw [ht2] at hvr
  have hvl : (vrw (zV os) (oM (oe os ci)) (oM (oe os ci)) 2).length = (sX (oS (oe os ci) j2)).length := by rw [hvr, List.length_map]
  have hszs := (hsz.2 ci hci).2 j2 hj2
  have hph2 := zPh_2 (os := os) (k := k) (W := zWt t1 t2 t3) hvl
  have hpc2 := zPc_2 (W := zWt t1 t2 t3) hvl
  rw [hl0.2.1] at hph2
  have hleR : zLe (zWt t1 t2 t3) (vrf1 (zV os) top (zscu se) (zWt t1 t2 t3) (oM (oe os ci))) := vrf1_le (zV os) top (zscu se) _ _
  have hleF : zLe (vrf1 (zV os) top (zscu se) (zWt t1 t2 t3) (oM (oe os ci))) (vrf (zV os) top (zscu se) (zWt t1 t2 t3) (oM (oe os ci))) := vfold_le _ (fun W p => vao_le (zV os) W _) _ _
  have hleB : zLe (w2 (zWt t1 t2 t3) (vrw (zV os) (oM (oe os ci)) (oM (oe os ci)) 2)) (vrf1 (zV os) top (zscu se) (zWt t1 t2 t3) (oM (oe os ci))) := by
    unfold vrf1; split
    · exact vpr_le (zV os) top (zscu se) _ _
    · split
      · exact zLe.w2 _ _
      · exact zLe.rf _
  have hb9B := hB9.le (hleB.tr hleF)
  have hlB : t2.length + (sX (oS (oe os ci) j2)).length < 2000 := by have q := hb9B.2.1; unfold w2 at q; dsimp only at q; rw [List.length_append, hl0.2.1, hvl] at q; exact q
  have hpahleR := zPh_le (os := os) (k := k) hleR
  have hpdhleR := zPc_le hleR
  have hpahleF := zPh_le (os := os) (k := k) hleF
  have hpdhleF := zPc_le hleF
  have hpahleB := zPh_le (os := os) (k := k) hleB
  have hpdhleB := zPc_le hleB
  have loop82 : ∀ (N : Nat) (Gv : zg_G) (i : Nat) (ro8 : zRo) (d18 : Nat) (d28 : Nat) (d38 : Nat) (t18 : List zTt) (t28 : List zTt) (t38 : List zTt) (H : Heap) (locs : List Loc), ((sX (oS (oe os ci) j2)).length - i) < N → (i ≤ (sX (oS (oe os ci) j2)).length) → (zCx E Gv ro8 k rc ty se os top d18 d28 d38 t18 t28 t38) → (zfr ro zKa G ro8 Gv) → (zWt t18 t28 t38 = ((zV os (oM (oe os ci)) 2).take i).foldl (fun (W : zW) (p : Int32 × List Int32) => vao (zV os) W (vtg 2 p.2)) (vrf1 (zV os) top (zscu se) (zWt t1 t2 t3) (oM (oe os ci)))) → zP E Gv H → zg_S (zc_b E) s.heap H locs → ∀ (ls : Array Slot), lv_has ls 5 [(0, .ref (k 0)), (2, .ref (sA (oS (oe os ci) j2))), (4, .int (nI i))] → W p l e (rm_An_refer (zPc (vrf (zV os) top (zscu se) (zWt t1 t2 t3) (oM (oe os ci))) - zPc (zWt t1 t2 t3)) (zPh os k (vrf (zV os) top (zscu se) (zWt t1 t2 t3) (oM (oe os ci))) - zPh os k (zWt t1 t2 t3))) s m args below meth c H locs (zPc (((zV os (oM (oe os ci)) 2).take i).foldl (fun (W : zW) (p : Int32 × List Int32) => vao (zV os) W (vtg 2 p.2)) (vrf1 (zV os) top (zscu se) (zWt t1 t2 t3) (oM (oe os ci)))) - zPc (zWt t1 t2 t3)) (zPh os k (((zV os (oM (oe os ci)) 2).take i).foldl (fun (W : zW) (p : Int32 × List Int32) => vao (zV os) W (vtg 2 p.2)) (vrf1 (zV os) top (zscu se) (zWt t1 t2 t3) (oM (oe os ci)))) - zPh os k (zWt t1 t2 t3)) Q (F0 m 82 ls []) := by
    intro N
    induction N with
    | zero =>
      intro Gv i ro8 d18 d28 d38 t18 t28 t38 H locs hlt
      exact absurd hlt (Nat.not_lt_zero _)
    | succ N ih =>
      intro Gv i ro8 d18 d28 d38 t18 t28 t38 H locs hlt hi hC8 hf8 hW8 hG hS ls hl
      obtain ⟨⟨hz18, hz28, hz38, hz48, hz58, soa8, u98, hz68, hz78, hz88, hz98, hzA8⟩, ⟨ha18, ha28, hs18, hs28, hs38⟩, hT18⟩ := id hC8
      obtain ⟨bo8, fo8, hno18, hno28, hno38, hno48, hno58, -⟩ := id hz48
      have hE8 : Gv (E.2.2.2 0) = none := hQ.out hG
      have hsr8 := (hz38.2 _ (oe_mem hci)).2.2.2.2 _ (oS_mem hj2)
      obtain ⟨⟨⟨kq8, hql8⟩, -⟩, -⟩ := id hsr8.2.2.1
      rw [List.length_map] at hql8
      have hle8 : zLe (vrf1 (zV os) top (zscu se) (zWt t1 t2 t3) (oM (oe os ci))) (((zV os (oM (oe os ci)) 2).take i).foldl (fun (W : zW) (p : Int32 × List Int32) => vao (zV os) W (vtg 2 p.2)) (vrf1 (zV os) top (zscu se) (zWt t1 t2 t3) (oM (oe os ci)))) := vfold_le _ (fun W p => vao_le (zV os) W _) _ _
      have hle8b : zLe (((zV os (oM (oe os ci)) 2).take i).foldl (fun (W : zW) (p : Int32 × List Int32) => vao (zV os) W (vtg 2 p.2)) (vrf1 (zV os) top (zscu se) (zWt t1 t2 t3) (oM (oe os ci)))) (vrf (zV os) top (zscu se) (zWt t1 t2 t3) (oM (oe os ci))) := vfold_tk (fun W p => vao_le (zV os) W _)
      have hpa8 := zPh_le (os := os) (k := k) hle8
      have hpd8 := zPc_le hle8
      have hpa8b := zPh_le (os := os) (k := k) hle8b
      have hpd8b := zPc_le hle8b
      refine lv_iload hx hb d_An_refer_82 (lv_at hl 2 rfl) ?_
      refine lv_aload_n hx hb d_An_refer_84 rfl (lv_at hl 1 rfl) ?_
      refine zk_i (va_runV (As := []) (rest := [.int (nI i)]) ⟨hx, hb, hml, hown, hts⟩ (t_Rr_size l E Gv (sA (oS (oe os ci) j2)) (sT (oS (oe os ci) j2)) (sU (oS (oe os ci) j2)) (sL (oS (oe os ci) j2)) (.ref (sD (oS (oe os ci) j2))) (nI ((sX (oS (oe os ci) j2)).length)) kq8 hql8 hsr8.1) (zcV 0 hts w_1134 w_933 w_934 w_27 w_935 (by decide +kernel) ⟨Nat.le_of_ble_eq_true rfl, Nat.le_of_ble_eq_true rfl⟩) (zc_preV hbase hK hN hQ hG hS hsr8.1 rfl) rfl rfl hl.1 rfl (lv_room (Nat.le_of_ble_eq_true rfl)) d_An_refer_85 ⟨(by dsimp only; omega), (by dsimp only; omega)⟩) hS (fun r85 G85 H locs hp85 hG hS => ?_)
      have hG : zP E Gv H := hp85.2 ▸ hG
      refine zi_as (y := nI ((sX (oS (oe os ci) j2)).length)) hp85.1 ?_
      refine lv_icmp_ge (tgt := 123) hx hb d_An_refer_88 (by decide) (fun c88 => ?_) (fun c88 => ?_)
      · have b88 : ((sX (oS (oe os ci) j2)).length) ≤ i := (nI_leI (a := ((sX (oS (oe os ci) j2)).length)) (b := i) (by omega) (by omega)).mp c88
        exact hret _ _ _ _ _ _ _ (⟨ro8, d18, d28, d38, t18, t28, t38, hC8, hf8, by rw [hW8, show i = (zV os (oM (oe os ci)) 2).length by rw [← ht2, zV_s hGZ.1 hci hj2, List.length_map]; omega, List.take_length]; rfl⟩) hG hS (by dsimp only; omega) (by dsimp only; omega) d_An_refer_123
      · have b88 : ¬ ((sX (oS (oe os ci) j2)).length) ≤ i := fun q => c88 ((nI_leI (a := ((sX (oS (oe os ci) j2)).length)) (b := i) (by omega) (by omega)).mpr q)
        have hin : i < (sX (oS (oe os ci) j2)).length := by omega
        refine lv_aload_n hx hb d_An_refer_91 rfl (lv_at hl 0 rfl) ?_
        refine lv_aload_n hx hb d_An_refer_92 rfl (lv_at hl 0 rfl) ?_
        refine zg_get (ci := 1) (C := "ZoneAnswers$Answer") (T := T_An) (N := 6) hx hb hts zi_An hown hK hG ha18 rfl 0 (by decide) (hts _ w_684) (fun _ h9 => h9) rfl d_An_refer_93 ?_
        refine lv_aload_n hx hb d_An_refer_96 rfl (lv_at hl 1 rfl) ?_
        refine zg_get (ci := 5) (C := "ZoneAnswers$Rrset") (T := T_Rr) (N := 3) hx hb hts zi_Rr hown hK hG hsr8.1 rfl 2 (by decide) (hts _ w_626) (fun _ h9 => h9) rfl d_An_refer_97 ?_
        refine lv_iload hx hb d_An_refer_100 (lv_at hl 2 rfl) ?_
        have hGo102 := hG
        refine zk_q (va_runV (As := [.int (nI i)]) (rest := [.ref (k 1), .ref (k 0)]) ⟨hx, hb, hml, hown, hts⟩ (t_AL_get_u l hsr8.2.2.1.1 i (by rw [List.length_map]; exact hin)) (zcV 1 hts w_1135 w_164 w_165 w_6 w_166 (by decide +kernel) ⟨Nat.le_of_ble_eq_true rfl, Nat.le_of_ble_eq_true rfl⟩) (zc_preV hbase hK hN hQ hG hS hql8 rfl) rfl rfl hl.1 rfl (lv_room (Nat.le_of_ble_eq_true rfl)) d_An_refer_102 ⟨(by dsimp only; omega), (by dsimp only; omega)⟩) hS (fun r102 G102 H locs hp102 hG hS => ?_)
        have hG : zP E Gv H := hp102.2 ▸ hG
        refine zr_some (a := (sE (oS (oe os ci) j2) i).1) (hp102.1.trans (sE_at hin)) ?_
        obtain ⟨lsd, ed1, ed2, ed3⟩ := hdw _ (oe_mem hci) _ (oS_mem hj2) _ (sE_mem hin) (by rw [ht2]; exact Or.inl rfl)
        obtain ⟨bd9, yt9, hdc9, hNt9⟩ := (hsr8.2.2.2 _ (sE_mem hin)).tg ed1
        obtain ⟨bt9, ft9, hq19, hq29, hq39, hq49, hq59, -⟩ := id hNt9
        rw [ht2] at ed2
        have etg : vtg 2 (sE (oS (oe os ci) j2) i).2.1 = lsd := vnm_y ed2 ed3
        have hVi : (zV os (oM (oe os ci)) 2)[i]? = some (sU (oS (oe os ci) j2), (sE (oS (oe os ci) j2) i).2.1) := by rw [← ht2, zV_s hGZ.1 hci hj2, List.getElem?_map, sE_q hin]; rfl
        have hWn : ((zV os (oM (oe os ci)) 2).take (i + 1)).foldl (fun (W : zW) (p : Int32 × List Int32) => vao (zV os) W (vtg 2 p.2)) (vrf1 (zV os) top (zscu se) (zWt t1 t2 t3) (oM (oe os ci))) = vao (zV os) (((zV os (oM (oe os ci)) 2).take i).foldl (fun (W : zW) (p : Int32 × List Int32) => vao (zV os) W (vtg 2 p.2)) (vrf1 (zV os) top (zscu se) (zWt t1 t2 t3) (oM (oe os ci)))) lsd := by rw [fold_take hVi, etg]
        have hle9 : zLe (vao (zV os) (((zV os (oM (oe os ci)) 2).take i).foldl (fun (W : zW) (p : Int32 × List Int32) => vao (zV os) W (vtg 2 p.2)) (vrf1 (zV os) top (zscu se) (zWt t1 t2 t3) (oM (oe os ci)))) lsd) (vrf (zV os) top (zscu se) (zWt t1 t2 t3) (oM (oe os ci))) := by rw [← hWn]; exact vfold_tk (fun W p => vao_le (zV os) W _)
        have hpa9 := zPh_le (os := os) (k := k) hle9
        have hpd9 := zPc_le hle9
        have hle0 := vao_le (zV os) (((zV os (oM (oe os ci)) 2).take i).foldl (fun (W : zW) (p : Int32 × List Int32) => vao (zV os) W (vtg 2 p.2)) (vrf1 (zV os) top (zscu se) (zWt t1 t2 t3) (oM (oe os ci)))) lsd
        have hpa0 := zPh_le (os := os) (k := k) hle0
        have hpd0 := zPc_le hle0
        refine zg_castY hx hb hown (hts _ w_1136) hK hG hdc9 rfl (zN.at hN (w := .castable "ZoneAnswers$Datum" "ZoneAnswers$Datum") (by decide +kernel)) d_An_refer_105 ?_
        refine zg_get (ci := 2) (C := "ZoneAnswers$Datum") (T := T_Da) (N := 2) hx hb hts zi_Da hown hK hG hdc9 rfl 1 (by decide) (hts _ w_144) (fun _ h9 => h9) rfl d_An_refer_108 ?_
        have hGo111 := hG
        refine zk_q (va_runV (As := [.ref yt9]) (rest := [.ref (k 0)]) ⟨hx, hb, hml, hown, hts⟩ (t_Zo_at_t l hz18 hz38 hne hso hq19 hq29 hq39 hq49 hq59) (zcV 1 hts w_1137 w_880 w_881 w_3 w_882 (by decide +kernel) ⟨Nat.le_of_ble_eq_true rfl, Nat.le_of_ble_eq_true rfl⟩) (zc_preV hbase hK hN hQ hG hS hz18 rfl) rfl rfl hl.1 rfl (lv_room (Nat.le_of_ble_eq_true rfl)) d_An_refer_111 ⟨(by dsimp only; omega), (by dsimp only; omega)⟩) hS (fun r111 G111 H locs hp111 hG hS => ?_)
        rcases hp111 with ⟨⟨it, hit1, hit2, er111⟩ | ⟨hitn, er111⟩, eg111⟩
        · have hG : zP E Gv H := eg111 ▸ hG
          refine zr_some (a := oA (oe os it)) er111 ?_
          have hq114 := t_An_addAddressesOf l E Gv k ro8 rc ty se os top d18 d28 d38 t18 t28 t38 hC8 hGZ hdw hzn it hit1 (by rw [hW8]; exact by rw [hit2]; exact hB9.le hle9)
          rw [hW8] at hq114
          rw [hit2] at hq114
          have hGo114 := hG
          refine zk_v (va_runV (As := [.ref (oA (oe os it))]) (rest := []) ⟨hx, hb, hml, hown, hts⟩ (hq114) (zcV 1 hts w_1138 w_1140 wp_19 w_28 w_1141 (by decide +kernel) ⟨Nat.le_of_ble_eq_true rfl, Nat.le_of_ble_eq_true rfl⟩) (zc_preV hbase hK hN hQ hG hS ha18 rfl) rfl rfl hl.1 rfl (lv_room (Nat.le_of_ble_eq_true rfl)) d_An_refer_114 ⟨(by dsimp only; omega), (by dsimp only; omega)⟩) hS (fun G114 H locs hp114 hG hS => ?_)
          obtain ⟨ro_114, d1_114, d2_114, d3_114, t1_114, t2_114, t3_114, hC_114, hf0_114, hW0_114⟩ := hp114
          have hf_114 : zfr ro zKa G ro_114 G114 := hf8.tr hf0_114
          have hW_114 : zWt t1_114 t2_114 t3_114 = vao (zV os) (((zV os (oM (oe os ci)) 2).take i).foldl (fun (W : zW) (p : Int32 × List Int32) => vao (zV os) W (vtg 2 p.2)) (vrf1 (zV os) top (zscu se) (zWt t1 t2 t3) (oM (oe os ci)))) lsd := hW0_114
          have hE_114 : G114 (E.2.2.2 0) = none := hQ.out hG
          obtain ⟨⟨hz1_114, hz2_114, hz3_114, hz4_114, hz5_114, soa_114, u9_114, hz6_114, hz7_114, hz8_114, hz9_114, hzA_114⟩, ⟨ha1_114, ha2_114, hs1_114, hs2_114, hs3_114⟩, hT1_114⟩ := id hC_114
          obtain ⟨bo_114, fo_114, hno1_114, hno2_114, hno3_114, hno4_114, hno5_114, -⟩ := id hz4_114
          have hl_114 := zWt_l t1_114 t2_114 t3_114
          refine lv_iinc (v := nI (i + 1)) (lv' := [(4, .int (nI (i + 1))), (0, .ref (k 0)), (2, .ref (sA (oS (oe os ci) j2)))]) hx hb d_An_refer_117 hl (k := 2) rfl (nI_add i 1) (by decide) rfl (fun ls hl => ?_)
          refine lv_goto (tgt := 82) hx hb d_An_refer_120 (by decide) ?_
          refine zW_more (cells2 := zPc (((zV os (oM (oe os ci)) 2).take (i + 1)).foldl (fun (W : zW) (p : Int32 × List Int32) => vao (zV os) W (vtg 2 p.2)) (vrf1 (zV os) top (zscu se) (zWt t1 t2 t3) (oM (oe os ci)))) - zPc (zWt t1 t2 t3)) (slots2 := zPh os k (((zV os (oM (oe os ci)) 2).take (i + 1)).foldl (fun (W : zW) (p : Int32 × List Int32) => vao (zV os) W (vtg 2 p.2)) (vrf1 (zV os) top (zscu se) (zWt t1 t2 t3) (oM (oe os ci)))) - zPh os k (zWt t1 t2 t3)) (by rw [hWn]; dsimp only; omega) (by rw [hWn]; dsimp only; omega) ?_
          exact ih G114 (i + 1) ro_114 d1_114 d2_114 d3_114 t1_114 t2_114 t3_114 _ _ (by omega) (by omega) (hC_114) (hf_114) (by rw [hWn]; exact hW_114) hG hS ls (lv_sub hl [1, 2, 0] rfl)
        · have hG : zP E Gv H := eg111 ▸ hG
          refine zr_none er111 ?_
          have hv0 : vao (zV os) (((zV os (oM (oe os ci)) 2).take i).foldl (fun (W : zW) (p : Int32 × List Int32) => vao (zV os) W (vtg 2 p.2)) (vrf1 (zV os) top (zscu se) (zWt t1 t2 t3) (oM (oe os ci)))) lsd = ((zV os (oM (oe os ci)) 2).take i).foldl (fun (W : zW) (p : Int32 × List Int32) => vao (zV os) W (vtg 2 p.2)) (vrf1 (zV os) top (zscu se) (zWt t1 t2 t3) (oM (oe os ci))) := vao_0 (fun t => zV_nil hitn)
          have hGo114 := hG
          refine zk_v (va_runV (As := [.null]) (rest := []) ⟨hx, hb, hml, hown, hts⟩ (t_An_addAddressesOf_n l E Gv (k 0) _ ha18) (zcV 1 hts w_1138 w_1140 wp_19 w_28 w_1141 (by decide +kernel) ⟨Nat.le_of_ble_eq_true rfl, Nat.le_of_ble_eq_true rfl⟩) (zc_preV hbase hK hN hQ hG hS ha18 rfl) rfl rfl hl.1 rfl (lv_room (Nat.le_of_ble_eq_true rfl)) d_An_refer_114 ⟨(by dsimp only; omega), (by dsimp only; omega)⟩) hS (fun G114 H locs hp114 hG hS => ?_)
          have hG : zP E Gv H := hp114 ▸ hG
          refine lv_iinc (v := nI (i + 1)) (lv' := [(4, .int (nI (i + 1))), (0, .ref (k 0)), (2, .ref (sA (oS (oe os ci) j2)))]) hx hb d_An_refer_117 hl (k := 2) rfl (nI_add i 1) (by decide) rfl (fun ls hl => ?_)
          refine lv_goto (tgt := 82) hx hb d_An_refer_120 (by decide) ?_
          refine zW_more (cells2 := zPc (((zV os (oM (oe os ci)) 2).take (i + 1)).foldl (fun (W : zW) (p : Int32 × List Int32) => vao (zV os) W (vtg 2 p.2)) (vrf1 (zV os) top (zscu se) (zWt t1 t2 t3) (oM (oe os ci)))) - zPc (zWt t1 t2 t3)) (slots2 := zPh os k (((zV os (oM (oe os ci)) 2).take (i + 1)).foldl (fun (W : zW) (p : Int32 × List Int32) => vao (zV os) W (vtg 2 p.2)) (vrf1 (zV os) top (zscu se) (zWt t1 t2 t3) (oM (oe os ci)))) - zPh os k (zWt t1 t2 t3)) (by rw [hWn]; dsimp only; omega) (by rw [hWn]; dsimp only; omega) ?_
          exact ih Gv (i + 1) ro8 d18 d28 d38 t18 t28 t38 _ _ (by omega) (by omega) (hC8) (hf8) (by rw [hWn, hv0]; exact hW8) hG hS ls (lv_sub hl [1, 2, 0] rfl)
  have how := hz3.2 _ (oe_mem hci)
  obtain ⟨bn, fn, hon1, hon2, hon3, hon4, hon5, -⟩ := id how.2.2.1
  refine lv_aload_n hx hb d_An_refer_0 rfl (lv_at hl 1 rfl) ?_
  refine lv_iconst (v := 2) hx hb d_An_refer_1 (by decide) ?_
  have hGo2 := hG
  refine zk_q (va_runV (As := [.int 2]) (rest := []) ⟨hx, hb, hml, hown, hts⟩ (t_Ow_find_t l how (hGZ.1.2 ci hci).2.1 2) (zcV 1 hts w_1032 w_654 w_655 w_12 w_656 (by decide +kernel) ⟨Nat.le_of_ble_eq_true rfl, Nat.le_of_ble_eq_true rfl⟩) (zc_preV hbase hK hN hQ hG hS how.1 rfl) rfl rfl hl.1 rfl (lv_room (Nat.le_of_ble_eq_true rfl)) d_An_refer_2 ⟨(by dsimp only; omega), (by dsimp only; omega)⟩) hS (fun r2 G2 H locs hp2 hG hS => ?_)
  rcases hp2 with ⟨⟨j9, hj1, hjt, hj3, er2⟩ | ⟨hjn, er2⟩, eg2⟩
  · have hG : zP E G H := eg2 ▸ hG
    have ej9 : j9 = j2 := zss_un (hGZ.1.2 ci hci).1 hj1 hj2 (by rw [hjt, ht2])
    refine zr_some (a := sA (oS (oe os ci) j2)) (er2.trans (by rw [ej9])) ?_
    refine lv_astore_n (lv' := [(2, .ref (sA (oS (oe os ci) j2))), (0, .ref (k 0)), (1, .ref (oA (oe os ci)))]) hx hb d_An_refer_5 rfl hl (by decide) rfl (fun ls hl => ?_)
    refine lv_aload_n hx hb d_An_refer_6 rfl (lv_at hl 0 rfl) ?_
    refine lv_ifnonnull (tgt := 11) hx hb d_An_refer_7 (by decide) ?_
    refine lv_aload_n hx hb d_An_refer_11 rfl (lv_at hl 1 rfl) ?_
    refine zg_get (ci := 1) (C := "ZoneAnswers$Answer") (T := T_An) (N := 6) hx hb hts zi_An hown hK hG ha1 rfl 2 (by decide) (hts _ w_686) (fun _ h9 => h9) rfl d_An_refer_12 ?_
    refine lv_aload_n hx hb d_An_refer_15 rfl (lv_at hl 2 rfl) ?_
    refine zg_get (ci := 4) (C := "ZoneAnswers$Owner") (T := T_Ow) (N := 3) hx hb hts zi_Ow hown hK hG how.1 rfl 0 (by decide) (hts _ w_205) (fun _ h9 => h9) rfl d_An_refer_16 ?_
    refine lv_aload_n hx hb d_An_refer_19 rfl (lv_at hl 0 rfl) ?_
    refine lv_aload_n hx hb d_An_refer_20 rfl (lv_at hl 0 rfl) ?_
    refine zg_get (ci := 5) (C := "ZoneAnswers$Rrset") (T := T_Rr) (N := 3) hx hb hts zi_Rr hown hK hG (how.2.2.2.2 _ (oS_mem hj2)).1 rfl 1 (by decide) (hts _ w_623) (fun _ h9 => h9) rfl d_An_refer_21 ?_
    have hiP := hci
    have hsP := hj2
    have hsrP := (hz3.2 _ (oe_mem hiP)).2.2.2.2 _ (oS_mem hsP)
    have hadP := t_Se_addSet l E G (k 3) (k 6) d2 2 (k 9) ro t2 hs2 (oN (oe os ci)) (oM (oe os ci)) how.2.2.1 (oA (oe os ci)) (oS (oe os ci) j2) hsrP (sU (oS (oe os ci) j2)) (by omega)
    have hGo24 := hG
    refine zk_v (va_runV (As := [.ref (oN (oe os ci)), .ref (sA (oS (oe os ci) j2)), .int (sU (oS (oe os ci) j2))]) (rest := []) ⟨hx, hb, hml, hown, hts⟩ (hadP) (zcV 3 hts w_1033 w_1034 w_1035 w_29 w_1036 (by decide +kernel) ⟨Nat.le_of_ble_eq_true rfl, Nat.le_of_ble_eq_true rfl⟩) (zc_preV hbase hK hN hQ hG hS hs2.1.1 rfl) rfl rfl hl.1 rfl (lv_room (Nat.le_of_ble_eq_true rfl)) d_An_refer_24 ⟨(by dsimp only; omega), (by dsimp only; omega)⟩) hS (fun G24 H locs hp24 hG hS => ?_)
    obtain ⟨ro_24, dd_24, ts_24, hES_24, hf0_24, hR0_24⟩ := hp24
    have hE_24q : G24 (E.2.2.2 0) = none := hQ.out hG
    have hC_24 := hCx.s2 (hQ.out hGo24) hE_24q hf0_24 hES_24
    have hf_24 : zfr ro zKa G ro_24 G24 := (zfr.rf (r := ro) (G := G)).tr (hf0_24.w zKs_a)
    have hR_24 := tV_of hR0_24
    have hW_24 : zWt t1 (t2 ++ ts_24) t3 = w2 (zWt t1 t2 t3) (vrw (zV os) (oM (oe os ci)) (oM (oe os ci)) 2) := by rw [zWt_2, hR_24]; rw [hvr, ht2]
    have hE_24 : G24 (E.2.2.2 0) = none := hQ.out hG
    obtain ⟨⟨hz1_24, hz2_24, hz3_24, hz4_24, hz5_24, soa_24, u9_24, hz6_24, hz7_24, hz8_24, hz9_24, hzA_24⟩, ⟨ha1_24, ha2_24, hs1_24, hs2_24, hs3_24⟩, hT1_24⟩ := id hC_24
    obtain ⟨bo_24, fo_24, hno1_24, hno2_24, hno3_24, hno4_24, hno5_24, -⟩ := id hz4_24
    have hl_24 := zWt_l t1 (t2 ++ ts_24) t3
    have how_24 := hz3_24.2 _ (oe_mem hci)
    obtain ⟨bn_24, fn_24, hon1_24, hon2_24, hon3_24, hon4_24, hon5_24, -⟩ := id how_24.2.2.1
    refine lv_aload_n hx hb d_An_refer_27 rfl (lv_at hl 2 rfl) ?_
    refine lv_bipush (v := 43) hx hb d_An_refer_28 (by decide) ?_
    have hGo30 := hG
    refine zk_q (va_runV (As := [.int 43]) (rest := []) ⟨hx, hb, hml, hown, hts⟩ (t_Ow_find_t l how_24 (hGZ.1.2 ci hci).2.1 43) (zcV 1 hts w_1032 w_654 w_655 w_12 w_656 (by decide +kernel) ⟨Nat.le_of_ble_eq_true rfl, Nat.le_of_ble_eq_true rfl⟩) (zc_preV hbase hK hN hQ hG hS how_24.1 rfl) rfl rfl hl.1 rfl (lv_room (Nat.le_of_ble_eq_true rfl)) d_An_refer_30 ⟨(by dsimp only; omega), (by dsimp only; omega)⟩) hS (fun r30 G30 H locs hp30 hG hS => ?_)
    rcases hp30 with ⟨⟨jd, hjd1, hjd2, hjd3, er30⟩ | ⟨hjdn, er30⟩, eg30⟩
    · have hG : zP E G24 H := eg30 ▸ hG
      refine zr_some (a := sA (oS (oe os ci) jd)) er30 ?_
      have hne43 : ¬ zV os (oM (oe os ci)) 43 = [] := (zV_ne hGZ.1 hci).mpr ⟨jd, hjd1, hjd2⟩
      have hvd := vrw_s (x := oM (oe os ci)) hGZ.1 hci hjd1
      rw [hjd2] at hvd
      refine lv_astore_n (lv' := [(3, .ref (sA (oS (oe os ci) jd))), (2, .ref (sA (oS (oe os ci) j2))), (0, .ref (k 0)), (1, .ref (oA (oe os ci)))]) hx hb d_An_refer_33 rfl hl (by decide) rfl (fun ls hl => ?_)
      refine lv_aload_n hx hb d_An_refer_34 rfl (lv_at hl 0 rfl) ?_
      refine lv_ifnonnull (tgt := 56) hx hb d_An_refer_35 (by decide) ?_
      refine lv_aload_n hx hb d_An_refer_56 rfl (lv_at hl 2 rfl) ?_
      refine zg_get (ci := 1) (C := "ZoneAnswers$Answer") (T := T_An) (N := 6) hx hb hts zi_An hown hK hG ha1_24 rfl 5 (by decide) (hts _ w_689) (fun _ h9 => h9) rfl d_An_refer_57 ?_
      refine lv_if_eq (tgt := 79) hx hb d_An_refer_60 (by decide) (fun c60 => ?_) (fun c60 => ?_)
      · have hn43 := vrf1_n (top := top) (W := zWt t1 t2 t3) hne43 (zscu_n c60)
        refine lv_iconst (v := 0) hx hb d_An_refer_79 (by decide) ?_
        refine zi_as (y := nI 0) (nI_0.symm) ?_
        refine lv_istore (lv' := [(4, .int (nI 0)), (3, .ref (sA (oS (oe os ci) jd))), (2, .ref (sA (oS (oe os ci) j2))), (0, .ref (k 0)), (1, .ref (oA (oe os ci)))]) hx hb d_An_refer_80 hl (by decide) rfl (fun ls hl => ?_)
        refine zW_more (cells2 := zPc (((zV os (oM (oe os ci)) 2).take 0).foldl (fun (W : zW) (p : Int32 × List Int32) => vao (zV os) W (vtg 2 p.2)) (vrf1 (zV os) top (zscu se) (zWt t1 t2 t3) (oM (oe os ci)))) - zPc (zWt t1 t2 t3)) (slots2 := zPh os k (((zV os (oM (oe os ci)) 2).take 0).foldl (fun (W : zW) (p : Int32 × List Int32) => vao (zV os) W (vtg 2 p.2)) (vrf1 (zV os) top (zscu se) (zWt t1 t2 t3) (oM (oe os ci)))) - zPh os k (zWt t1 t2 t3)) (by show _ ≤ zPc (vrf1 (zV os) top (zscu se) (zWt t1 t2 t3) (oM (oe os ci))) - _; dsimp only; omega) (by show _ ≤ zPh os k (vrf1 (zV os) top (zscu se) (zWt t1 t2 t3) (oM (oe os ci))) - _; dsimp only; omega) ?_
        exact loop82 _ G24 0 ro_24 d1 dd_24 d3 t1 (t2 ++ ts_24) t3 _ _ (Nat.lt_succ_self _) (Nat.zero_le _) (hC_24) (hf_24) (hW_24.trans hn43.symm) hG hS ls (lv_sub hl [3, 2, 0] rfl)
      · refine lv_aload_n hx hb d_An_refer_63 rfl (lv_at hl 2 rfl) ?_
        refine zg_get (ci := 1) (C := "ZoneAnswers$Answer") (T := T_An) (N := 6) hx hb hts zi_An hown hK hG ha1_24 rfl 2 (by decide) (hts _ w_686) (fun _ h9 => h9) rfl d_An_refer_64 ?_
        refine lv_aload_n hx hb d_An_refer_67 rfl (lv_at hl 3 rfl) ?_
        refine zg_get (ci := 4) (C := "ZoneAnswers$Owner") (T := T_Ow) (N := 3) hx hb hts zi_Ow hown hK hG how_24.1 rfl 0 (by decide) (hts _ w_205) (fun _ h9 => h9) rfl d_An_refer_68 ?_
        refine lv_aload_n hx hb d_An_refer_71 rfl (lv_at hl 0 rfl) ?_
        refine lv_aload_n hx hb d_An_refer_72 rfl (lv_at hl 0 rfl) ?_
        refine zg_get (ci := 5) (C := "ZoneAnswers$Rrset") (T := T_Rr) (N := 3) hx hb hts zi_Rr hown hK hG (how_24.2.2.2.2 _ (oS_mem hjd1)).1 rfl 1 (by decide) (hts _ w_623) (fun _ h9 => h9) rfl d_An_refer_73 ?_
        have hiD := hci
        have hsD := hjd1
        have hvdl : (vrw (zV os) (oM (oe os ci)) (oM (oe os ci)) 43).length = (sX (oS (oe os ci) jd)).length := by rw [hvd, List.length_map]
        have hphD := zPh_2 (os := os) (k := k) (W := w2 (zWt t1 t2 t3) (vrw (zV os) (oM (oe os ci)) (oM (oe os ci)) 2)) hvdl
        have hpcD := zPc_2 (W := w2 (zWt t1 t2 t3) (vrw (zV os) (oM (oe os ci)) (oM (oe os ci)) 2)) hvdl
        rw [← vrf1_s (top := top) hne43 (zscu_y c60)] at hphD hpcD
        have hlbD : (w2 (zWt t1 t2 t3) (vrw (zV os) (oM (oe os ci)) (oM (oe os ci)) 2)).2.1.length = ((t2 ++ ts_24)).length := by rw [← hW_24]; exact hl_24.2.1
        rw [hlbD] at hphD
        have hlBD : ((t2 ++ ts_24)).length + (sX (oS (oe os ci) jd)).length < 2000 := by have q := (hB9.le hleF).2.1; rw [vrf1_s hne43 (zscu_y c60)] at q; unfold w2 at q; dsimp only at q; rw [List.length_append, hvdl] at q; have q2 := hlbD; unfold w2 at q2; dsimp only at q2; rw [q2] at q; exact q
        have hsrD := (hz3_24.2 _ (oe_mem hiD)).2.2.2.2 _ (oS_mem hsD)
        have hadD := t_Se_addSet l E G24 (k 3) (k 6) dd_24 2 (k 9) ro_24 (t2 ++ ts_24) hs2_24 (oN (oe os ci)) (oM (oe os ci)) how_24.2.2.1 (oA (oe os ci)) (oS (oe os ci) jd) hsrD (sU (oS (oe os ci) jd)) hlBD
        have hGo76 := hG
        refine zk_v (va_runV (As := [.ref (oN (oe os ci)), .ref (sA (oS (oe os ci) jd)), .int (sU (oS (oe os ci) jd))]) (rest := []) ⟨hx, hb, hml, hown, hts⟩ (hadD) (zcV 3 hts w_1033 w_1034 w_1035 w_29 w_1036 (by decide +kernel) ⟨Nat.le_of_ble_eq_true rfl, Nat.le_of_ble_eq_true rfl⟩) (zc_preV hbase hK hN hQ hG hS hs2_24.1.1 rfl) rfl rfl hl.1 rfl (lv_room (Nat.le_of_ble_eq_true rfl)) d_An_refer_76 ⟨(by dsimp only; omega), (by dsimp only; omega)⟩) hS (fun G76 H locs hp76 hG hS => ?_)
        obtain ⟨ro_76, dd_76, ts_76, hES_76, hf0_76, hR0_76⟩ := hp76
        have hE_76q : G76 (E.2.2.2 0) = none := hQ.out hG
        have hC_76 := hC_24.s2 (hQ.out hGo76) hE_76q hf0_76 hES_76
        have hf_76 : zfr ro zKa G ro_76 G76 := hf_24.tr (hf0_76.w zKs_a)
        have hR_76 := tV_of hR0_76
        have hW_76 : zWt t1 ((t2 ++ ts_24) ++ ts_76) t3 = vrf1 (zV os) top (zscu se) (zWt t1 t2 t3) (oM (oe os ci)) := by rw [zWt_2, hR_76, hW_24]; rw [vrf1_s hne43 (zscu_y c60), hvd, hjd2]
        have hE_76 : G76 (E.2.2.2 0) = none := hQ.out hG
        obtain ⟨⟨hz1_76, hz2_76, hz3_76, hz4_76, hz5_76, soa_76, u9_76, hz6_76, hz7_76, hz8_76, hz9_76, hzA_76⟩, ⟨ha1_76, ha2_76, hs1_76, hs2_76, hs3_76⟩, hT1_76⟩ := id hC_76
        obtain ⟨bo_76, fo_76, hno1_76, hno2_76, hno3_76, hno4_76, hno5_76, -⟩ := id hz4_76
        have hl_76 := zWt_l t1 ((t2 ++ ts_24) ++ ts_76) t3
        refine lv_iconst (v := 0) hx hb d_An_refer_79 (by decide) ?_
        refine zi_as (y := nI 0) (nI_0.symm) ?_
        refine lv_istore (lv' := [(4, .int (nI 0)), (3, .ref (sA (oS (oe os ci) jd))), (2, .ref (sA (oS (oe os ci) j2))), (0, .ref (k 0)), (1, .ref (oA (oe os ci)))]) hx hb d_An_refer_80 hl (by decide) rfl (fun ls hl => ?_)
        refine zW_more (cells2 := zPc (((zV os (oM (oe os ci)) 2).take 0).foldl (fun (W : zW) (p : Int32 × List Int32) => vao (zV os) W (vtg 2 p.2)) (vrf1 (zV os) top (zscu se) (zWt t1 t2 t3) (oM (oe os ci)))) - zPc (zWt t1 t2 t3)) (slots2 := zPh os k (((zV os (oM (oe os ci)) 2).take 0).foldl (fun (W : zW) (p : Int32 × List Int32) => vao (zV os) W (vtg 2 p.2)) (vrf1 (zV os) top (zscu se) (zWt t1 t2 t3) (oM (oe os ci)))) - zPh os k (zWt t1 t2 t3)) (by show _ ≤ zPc (vrf1 (zV os) top (zscu se) (zWt t1 t2 t3) (oM (oe os ci))) - _; dsimp only; omega) (by show _ ≤ zPh os k (vrf1 (zV os) top (zscu se) (zWt t1 t2 t3) (oM (oe os ci))) - _; dsimp only; omega) ?_
        exact loop82 _ G76 0 ro_76 d1 dd_76 d3 t1 ((t2 ++ ts_24) ++ ts_76) t3 _ _ (Nat.lt_succ_self _) (Nat.zero_le _) (hC_76) (hf_76) (hW_76) hG hS ls (lv_sub hl [3, 2, 0] rfl)
    · have hG : zP E G24 H := eg30 ▸ hG
      refine zr_none er30 ?_
      have he43 : zV os (oM (oe os ci)) 43 = [] := zV_fd hGZ.1 hci hjdn
      refine lv_astore_nN (lv' := [(3, .null), (2, .ref (sA (oS (oe os ci) j2))), (0, .ref (k 0)), (1, .ref (oA (oe os ci)))]) hx hb d_An_refer_33 rfl hl (by decide) rfl (fun ls hl => ?_)
      refine lv_aload_nN hx hb d_An_refer_34 rfl (lv_at hl 0 rfl) ?_
      refine lv_ifnonnullN hx hb d_An_refer_35 ?_
      refine lv_aload_n hx hb d_An_refer_38 rfl (lv_at hl 2 rfl) ?_
      refine lv_aload_n hx hb d_An_refer_39 rfl (lv_at hl 2 rfl) ?_
      refine zg_get (ci := 1) (C := "ZoneAnswers$Answer") (T := T_An) (N := 6) hx hb hts zi_An hown hK hG ha1_24 rfl 0 (by decide) (hts _ w_684) (fun _ h9 => h9) rfl d_An_refer_40 ?_
      refine lv_aload_n hx hb d_An_refer_43 rfl (lv_at hl 3 rfl) ?_
      refine zg_get (ci := 4) (C := "ZoneAnswers$Owner") (T := T_Ow) (N := 3) hx hb hts zi_Ow hown hK hG how_24.1 rfl 0 (by decide) (hts _ w_205) (fun _ h9 => h9) rfl d_An_refer_44 ?_
      have hGo47 := hG
      refine zk_i (va_runV (As := [.ref (oN (oe os ci))]) (rest := [.ref (k 0)]) ⟨hx, hb, hml, hown, hts⟩ (t_Zo_linkAt l E G24 (k 1) (k 11) (k 12) (k 13) (k 14) rc hz1_24 ro_24 (k 15) os hz3_24 hne hol hso (oN (oe os ci)) bn_24 (oM (oe os ci)) fn_24 hon1_24 hon2_24 hon3_24 hon4_24 hon5_24 (zGZ.fi hGZ hci)) (zcV 1 hts w_1068 w_1069 w_1070 w_3 w_1071 (by decide +kernel) ⟨Nat.le_of_ble_eq_true rfl, Nat.le_of_ble_eq_true rfl⟩) (zc_preV hbase hK hN hQ hG hS hz1_24 rfl) rfl rfl hl.1 rfl (lv_room (Nat.le_of_ble_eq_true rfl)) d_An_refer_47 ⟨(by dsimp only; omega), (by dsimp only; omega)⟩) hS (fun r47 G47 H locs hp47 hG hS => ?_)
      obtain ⟨⟨kp47, kp147, kp247, kp347, hkc47⟩, eg47⟩ := hp47
      have hG : zP E G24 H := eg47 ▸ hG
      obtain ⟨j47, hjl47, hva47, ej47⟩ : ∃ j, j < os.length ∧ vat (zV os) top (oM (oe os ci)) = oM (oe os j) ∧ r47 = nI j := by
        rcases hkc47 with ⟨q1, q2, j, q3, q4, q5, q6⟩ | ⟨q1, q2, j, q3, q4, q5, q6⟩
        · exact ⟨j, by omega, hGZ.at q1 q2 q3 q4 q5, q6⟩
        · refine ⟨j, by omega, ?_, q6⟩
          have hnd : ¬ vD (zV os) (oM (oe os ci)) := fun z => by
            obtain ⟨i, hi, e⟩ := vD_ix z
            rcases Nat.lt_trichotomy i kp47 with w | w | w
            · have := kp247 i w; rw [e, nk_d_self] at this; omega
            · exact q2 ⟨by omega, by rw [← w]; exact e⟩
            · have h9 := kp347 kp47 (Nat.le_refl _) (by omega); have h8 := hGZ.1.1 kp47 i w hi; rw [e] at h8; exact h9 h8
          unfold vat; rw [zif_n (fun z => hnd z.1)]
          exact hGZ.ov ⟨kp147, kp247, kp347⟩ (by omega) q4 (fun i h1 h2 => q5 i h1 (by omega))
      refine zi_as (y := nI j47) ej47 ?_
      have hq50 := t_An_prove l E G24 k ro_24 rc ty se os top d1 dd_24 d3 t1 (t2 ++ ts_24) t3 hC_24 hGZ hdw hzn j47 hjl47 (by rw [hW_24]; exact by rw [← hva47, vat_c hch, ← vrf1_0 he43]; exact hB9.le hleF)
      rw [hW_24] at hq50
      rw [← hva47, vat_c hch, ← vrf1_0 he43] at hq50
      have hGo50 := hG
      refine zk_v (va_runV (As := [.int (nI j47)]) (rest := []) ⟨hx, hb, hml, hown, hts⟩ (hq50) (zcV 1 hts w_1077 w_1079 wp_17 w_28 w_1080 (by decide +kernel) ⟨Nat.le_of_ble_eq_true rfl, Nat.le_of_ble_eq_true rfl⟩) (zc_preV hbase hK hN hQ hG hS ha1_24 rfl) rfl rfl hl.1 rfl (lv_room (Nat.le_of_ble_eq_true rfl)) d_An_refer_50 ⟨(by dsimp only; omega), (by dsimp only; omega)⟩) hS (fun G50 H locs hp50 hG hS => ?_)
      obtain ⟨ro_50, d1_50, d2_50, d3_50, t1_50, t2_50, t3_50, hC_50, hf0_50, hW0_50⟩ := hp50
      have hf_50 : zfr ro zKa G ro_50 G50 := hf_24.tr hf0_50
      have hW_50 : zWt t1_50 t2_50 t3_50 = vrf1 (zV os) top (zscu se) (zWt t1 t2 t3) (oM (oe os ci)) := hW0_50
      have hE_50 : G50 (E.2.2.2 0) = none := hQ.out hG
      obtain ⟨⟨hz1_50, hz2_50, hz3_50, hz4_50, hz5_50, soa_50, u9_50, hz6_50, hz7_50, hz8_50, hz9_50, hzA_50⟩, ⟨ha1_50, ha2_50, hs1_50, hs2_50, hs3_50⟩, hT1_50⟩ := id hC_50
      obtain ⟨bo_50, fo_50, hno1_50, hno2_50, hno3_50, hno4_50, hno5_50, -⟩ := id hz4_50
      have hl_50 := zWt_l t1_50 t2_50 t3_50
      refine lv_goto (tgt := 79) hx hb d_An_refer_53 (by decide) ?_
      refine lv_iconst (v := 0) hx hb d_An_refer_79 (by decide) ?_
      refine zi_as (y := nI 0) (nI_0.symm) ?_
      refine lv_istore (lv' := [(4, .int (nI 0)), (3, .null), (2, .ref (sA (oS (oe os ci) j2))), (0, .ref (k 0)), (1, .ref (oA (oe os ci)))]) hx hb d_An_refer_80 hl (by decide) rfl (fun ls hl => ?_)
      refine zW_more (cells2 := zPc (((zV os (oM (oe os ci)) 2).take 0).foldl (fun (W : zW) (p : Int32 × List Int32) => vao (zV os) W (vtg 2 p.2)) (vrf1 (zV os) top (zscu se) (zWt t1 t2 t3) (oM (oe os ci)))) - zPc (zWt t1 t2 t3)) (slots2 := zPh os k (((zV os (oM (oe os ci)) 2).take 0).foldl (fun (W : zW) (p : Int32 × List Int32) => vao (zV os) W (vtg 2 p.2)) (vrf1 (zV os) top (zscu se) (zWt t1 t2 t3) (oM (oe os ci)))) - zPh os k (zWt t1 t2 t3)) (by show _ ≤ zPc (vrf1 (zV os) top (zscu se) (zWt t1 t2 t3) (oM (oe os ci))) - _; dsimp only; omega) (by show _ ≤ zPh os k (vrf1 (zV os) top (zscu se) (zWt t1 t2 t3) (oM (oe os ci))) - _; dsimp only; omega) ?_
      exact loop82 _ G50 0 ro_50 d1_50 d2_50 d3_50 t1_50 t2_50 t3_50 _ _ (Nat.lt_succ_self _) (Nat.zero_le _) (hC_50) (hf_50) (hW_50) hG hS ls (lv_sub hl [3, 2, 0] rfl)
  · exact absurd ht2 (hjn j2 hj2)
