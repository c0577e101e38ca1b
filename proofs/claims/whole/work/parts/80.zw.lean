theorem w_212 : (.fieldLink "ZoneAnswers$Zone" 146 "ZoneAnswers$Owner" "cut" "LZoneAnswers$Owner;" : Cond) ∈ zw := zw_at 212 (by decide +kernel) (by decide +kernel)
theorem w_649 : (.methodLink "ZoneAnswers$Zone" 140 ⟨"ZoneAnswers$Name", "isAtOrBelow", "(LZoneAnswers$Name;)Z"⟩ : Cond) ∈ zw := zw_at 649 (by decide +kernel) (by decide +kernel)
theorem w_1072 : (.methodLink "ZoneAnswers$Zone" 159 ⟨"ZoneAnswers$Zone", "chained", "(I)I"⟩ : Cond) ∈ zw := zw_at 1072 (by decide +kernel) (by decide +kernel)
theorem w_1074 : (.instanceMethod ⟨"ZoneAnswers$Zone", "chained", "(I)I"⟩ : Cond) ∈ zw := zw_at 1074 (by decide +kernel) (by decide +kernel)
theorem w_1075 : (.code ⟨"ZoneAnswers$Zone", "chained", "(I)I"⟩ prog_10_method_20_code 3 (some .int) : Cond) ∈ zw := zw_at 1075 (by decide +kernel) (by decide +kernel)
theorem w_1076 : (.methodLink "ZoneAnswers$Zone" 153 ⟨"java/lang/Math", "max", "(II)I"⟩ : Cond) ∈ zw := zw_at 1076 (by decide +kernel) (by decide +kernel)
theorem wp_16 : (.selects "ZoneAnswers$Zone" ⟨"ZoneAnswers$Zone", "chained", "(I)I"⟩ ⟨"ZoneAnswers$Zone", "chained", "(I)I"⟩ : Cond) ∈ zw := zw_pv 16 (y := ⟨"ZoneAnswers$Zone", "chained", "(I)I"⟩) rfl (by decide +kernel)
abbrev c_Zo_depth : ByteArray := prog_10_method_17_code
abbrev y_Zo_depth : MethodName := ⟨"ZoneAnswers$Zone", "depth", "(LZoneAnswers$Name;)I"⟩
theorem d_Zo_depth_0 : decode c_Zo_depth 0 = .ok (.aload_n 0, 1) := by decide +kernel
theorem d_Zo_depth_1 : decode c_Zo_depth 1 = .ok (.aload_n 1, 1) := by decide +kernel
theorem d_Zo_depth_2 : decode c_Zo_depth 2 = .ok (.invokevirtual 98, 3) := by decide +kernel
theorem d_Zo_depth_5 : decode c_Zo_depth 5 = .ok (.istore_n 2, 1) := by decide +kernel
theorem d_Zo_depth_6 : decode c_Zo_depth 6 = .ok (.iload_n 2, 1) := by decide +kernel
theorem d_Zo_depth_7 : decode c_Zo_depth 7 = .ok (.ifCond .le 26, 3) := by decide +kernel
theorem d_Zo_depth_10 : decode c_Zo_depth 10 = .ok (.aload_n 0, 1) := by decide +kernel
theorem d_Zo_depth_11 : decode c_Zo_depth 11 = .ok (.getfield 12, 3) := by decide +kernel
theorem d_Zo_depth_14 : decode c_Zo_depth 14 = .ok (.iload_n 2, 1) := by decide +kernel
theorem d_Zo_depth_15 : decode c_Zo_depth 15 = .ok (.iconst 1, 1) := by decide +kernel
theorem d_Zo_depth_16 : decode c_Zo_depth 16 = .ok (.isub, 1) := by decide +kernel
theorem d_Zo_depth_17 : decode c_Zo_depth 17 = .ok (.invokevirtual 79, 3) := by decide +kernel
theorem d_Zo_depth_20 : decode c_Zo_depth 20 = .ok (.checkcast 83, 3) := by decide +kernel
theorem d_Zo_depth_23 : decode c_Zo_depth 23 = .ok (.getfield 85, 3) := by decide +kernel
theorem d_Zo_depth_26 : decode c_Zo_depth 26 = .ok (.aload_n 1, 1) := by decide +kernel
theorem d_Zo_depth_27 : decode c_Zo_depth 27 = .ok (.invokevirtual 150, 3) := by decide +kernel
theorem d_Zo_depth_30 : decode c_Zo_depth 30 = .ok (.goto 4, 3) := by decide +kernel
theorem d_Zo_depth_33 : decode c_Zo_depth 33 = .ok (.iconst 0, 1) := by decide +kernel
theorem d_Zo_depth_34 : decode c_Zo_depth 34 = .ok (.istore_n 3, 1) := by decide +kernel
theorem d_Zo_depth_35 : decode c_Zo_depth 35 = .ok (.iload_n 2, 1) := by decide +kernel
theorem d_Zo_depth_36 : decode c_Zo_depth 36 = .ok (.aload_n 0, 1) := by decide +kernel
theorem d_Zo_depth_37 : decode c_Zo_depth 37 = .ok (.getfield 12, 3) := by decide +kernel
theorem d_Zo_depth_40 : decode c_Zo_depth 40 = .ok (.invokevirtual 75, 3) := by decide +kernel
theorem d_Zo_depth_43 : decode c_Zo_depth 43 = .ok (.if_icmp .ge 24, 3) := by decide +kernel
theorem d_Zo_depth_46 : decode c_Zo_depth 46 = .ok (.aload_n 0, 1) := by decide +kernel
theorem d_Zo_depth_47 : decode c_Zo_depth 47 = .ok (.getfield 12, 3) := by decide +kernel
theorem d_Zo_depth_50 : decode c_Zo_depth 50 = .ok (.iload_n 2, 1) := by decide +kernel
theorem d_Zo_depth_51 : decode c_Zo_depth 51 = .ok (.invokevirtual 79, 3) := by decide +kernel
theorem d_Zo_depth_54 : decode c_Zo_depth 54 = .ok (.checkcast 83, 3) := by decide +kernel
theorem d_Zo_depth_57 : decode c_Zo_depth 57 = .ok (.getfield 85, 3) := by decide +kernel
theorem d_Zo_depth_60 : decode c_Zo_depth 60 = .ok (.aload_n 1, 1) := by decide +kernel
theorem d_Zo_depth_61 : decode c_Zo_depth 61 = .ok (.invokevirtual 150, 3) := by decide +kernel
theorem d_Zo_depth_64 : decode c_Zo_depth 64 = .ok (.goto 4, 3) := by decide +kernel
theorem d_Zo_depth_67 : decode c_Zo_depth 67 = .ok (.iconst 0, 1) := by decide +kernel
theorem d_Zo_depth_68 : decode c_Zo_depth 68 = .ok (.istore 4, 2) := by decide +kernel
theorem d_Zo_depth_70 : decode c_Zo_depth 70 = .ok (.iload_n 3, 1) := by decide +kernel
theorem d_Zo_depth_71 : decode c_Zo_depth 71 = .ok (.iload 4, 2) := by decide +kernel
theorem d_Zo_depth_73 : decode c_Zo_depth 73 = .ok (.invokestatic 153, 3) := by decide +kernel
theorem d_Zo_depth_76 : decode c_Zo_depth 76 = .ok (.ireturn, 1) := by decide +kernel
abbrev c_Zo_chained : ByteArray := prog_10_method_20_code
abbrev y_Zo_chained : MethodName := ⟨"ZoneAnswers$Zone", "chained", "(I)I"⟩
theorem d_Zo_chained_0 : decode c_Zo_chained 0 = .ok (.iload_n 1, 1) := by decide +kernel
theorem d_Zo_chained_1 : decode c_Zo_chained 1 = .ok (.istore_n 2, 1) := by decide +kernel
theorem d_Zo_chained_2 : decode c_Zo_chained 2 = .ok (.iload_n 2, 1) := by decide +kernel
theorem d_Zo_chained_3 : decode c_Zo_chained 3 = .ok (.ifCond .le 26, 3) := by decide +kernel
theorem d_Zo_chained_6 : decode c_Zo_chained 6 = .ok (.aload_n 0, 1) := by decide +kernel
theorem d_Zo_chained_7 : decode c_Zo_chained 7 = .ok (.getfield 12, 3) := by decide +kernel
theorem d_Zo_chained_10 : decode c_Zo_chained 10 = .ok (.iload_n 2, 1) := by decide +kernel
theorem d_Zo_chained_11 : decode c_Zo_chained 11 = .ok (.invokevirtual 79, 3) := by decide +kernel
theorem d_Zo_chained_14 : decode c_Zo_chained 14 = .ok (.checkcast 83, 3) := by decide +kernel
theorem d_Zo_chained_17 : decode c_Zo_chained 17 = .ok (.invokevirtual 163, 3) := by decide +kernel
theorem d_Zo_chained_20 : decode c_Zo_chained 20 = .ok (.ifCond .eq 9, 3) := by decide +kernel
theorem d_Zo_chained_23 : decode c_Zo_chained 23 = .ok (.iinc 2 (-1), 3) := by decide +kernel
theorem d_Zo_chained_26 : decode c_Zo_chained 26 = .ok (.goto (-24), 3) := by decide +kernel
theorem d_Zo_chained_29 : decode c_Zo_chained 29 = .ok (.iload_n 2, 1) := by decide +kernel
theorem d_Zo_chained_30 : decode c_Zo_chained 30 = .ok (.iconst 0, 1) := by decide +kernel
theorem d_Zo_chained_31 : decode c_Zo_chained 31 = .ok (.invokestatic 153, 3) := by decide +kernel
theorem d_Zo_chained_34 : decode c_Zo_chained 34 = .ok (.ireturn, 1) := by decide +kernel
abbrev c_Zo_linkOver : ByteArray := prog_10_method_18_code
abbrev y_Zo_linkOver : MethodName := ⟨"ZoneAnswers$Zone", "linkOver", "(LZoneAnswers$Name;)I"⟩
theorem d_Zo_linkOver_0 : decode c_Zo_linkOver 0 = .ok (.aload_n 0, 1) := by decide +kernel
theorem d_Zo_linkOver_1 : decode c_Zo_linkOver 1 = .ok (.aload_n 0, 1) := by decide +kernel
theorem d_Zo_linkOver_2 : decode c_Zo_linkOver 2 = .ok (.aload_n 1, 1) := by decide +kernel
theorem d_Zo_linkOver_3 : decode c_Zo_linkOver 3 = .ok (.invokevirtual 98, 3) := by decide +kernel
theorem d_Zo_linkOver_6 : decode c_Zo_linkOver 6 = .ok (.iconst 1, 1) := by decide +kernel
theorem d_Zo_linkOver_7 : decode c_Zo_linkOver 7 = .ok (.isub, 1) := by decide +kernel
theorem d_Zo_linkOver_8 : decode c_Zo_linkOver 8 = .ok (.invokevirtual 159, 3) := by decide +kernel
theorem d_Zo_linkOver_11 : decode c_Zo_linkOver 11 = .ok (.ireturn, 1) := by decide +kernel
abbrev c_Zo_linkAt : ByteArray := prog_10_method_19_code
abbrev y_Zo_linkAt : MethodName := ⟨"ZoneAnswers$Zone", "linkAt", "(LZoneAnswers$Name;)I"⟩
theorem d_Zo_linkAt_0 : decode c_Zo_linkAt 0 = .ok (.aload_n 0, 1) := by decide +kernel
theorem d_Zo_linkAt_1 : decode c_Zo_linkAt 1 = .ok (.aload_n 1, 1) := by decide +kernel
theorem d_Zo_linkAt_2 : decode c_Zo_linkAt 2 = .ok (.invokevirtual 98, 3) := by decide +kernel
theorem d_Zo_linkAt_5 : decode c_Zo_linkAt 5 = .ok (.istore_n 2, 1) := by decide +kernel
theorem d_Zo_linkAt_6 : decode c_Zo_linkAt 6 = .ok (.aload_n 0, 1) := by decide +kernel
theorem d_Zo_linkAt_7 : decode c_Zo_linkAt 7 = .ok (.aload_n 0, 1) := by decide +kernel
theorem d_Zo_linkAt_8 : decode c_Zo_linkAt 8 = .ok (.iload_n 2, 1) := by decide +kernel
theorem d_Zo_linkAt_9 : decode c_Zo_linkAt 9 = .ok (.aload_n 1, 1) := by decide +kernel
theorem d_Zo_linkAt_10 : decode c_Zo_linkAt 10 = .ok (.invokevirtual 101, 3) := by decide +kernel
theorem d_Zo_linkAt_13 : decode c_Zo_linkAt 13 = .ok (.ifCond .eq 7, 3) := by decide +kernel
theorem d_Zo_linkAt_16 : decode c_Zo_linkAt 16 = .ok (.iload_n 2, 1) := by decide +kernel
theorem d_Zo_linkAt_17 : decode c_Zo_linkAt 17 = .ok (.goto 6, 3) := by decide +kernel
theorem d_Zo_linkAt_20 : decode c_Zo_linkAt 20 = .ok (.iload_n 2, 1) := by decide +kernel
theorem d_Zo_linkAt_21 : decode c_Zo_linkAt 21 = .ok (.iconst 1, 1) := by decide +kernel
theorem d_Zo_linkAt_22 : decode c_Zo_linkAt 22 = .ok (.isub, 1) := by decide +kernel
theorem d_Zo_linkAt_23 : decode c_Zo_linkAt 23 = .ok (.invokevirtual 159, 3) := by decide +kernel
theorem d_Zo_linkAt_26 : decode c_Zo_linkAt 26 = .ok (.ireturn, 1) := by decide +kernel
abbrev c_Zo_cutOver : ByteArray := prog_10_method_16_code
abbrev y_Zo_cutOver : MethodName := ⟨"ZoneAnswers$Zone", "cutOver", "(LZoneAnswers$Name;)LZoneAnswers$Owner;"⟩
theorem d_Zo_cutOver_0 : decode c_Zo_cutOver 0 = .ok (.aload_n 0, 1) := by decide +kernel
theorem d_Zo_cutOver_1 : decode c_Zo_cutOver 1 = .ok (.aload_n 1, 1) := by decide +kernel
theorem d_Zo_cutOver_2 : decode c_Zo_cutOver 2 = .ok (.invokevirtual 98, 3) := by decide +kernel
theorem d_Zo_cutOver_5 : decode c_Zo_cutOver 5 = .ok (.istore_n 2, 1) := by decide +kernel
theorem d_Zo_cutOver_6 : decode c_Zo_cutOver 6 = .ok (.aload_n 0, 1) := by decide +kernel
theorem d_Zo_cutOver_7 : decode c_Zo_cutOver 7 = .ok (.iload_n 2, 1) := by decide +kernel
theorem d_Zo_cutOver_8 : decode c_Zo_cutOver 8 = .ok (.aload_n 1, 1) := by decide +kernel
theorem d_Zo_cutOver_9 : decode c_Zo_cutOver 9 = .ok (.invokevirtual 101, 3) := by decide +kernel
theorem d_Zo_cutOver_12 : decode c_Zo_cutOver 12 = .ok (.ifCond .eq 7, 3) := by decide +kernel
theorem d_Zo_cutOver_15 : decode c_Zo_cutOver 15 = .ok (.iload_n 2, 1) := by decide +kernel
theorem d_Zo_cutOver_16 : decode c_Zo_cutOver 16 = .ok (.goto 6, 3) := by decide +kernel
theorem d_Zo_cutOver_19 : decode c_Zo_cutOver 19 = .ok (.iload_n 2, 1) := by decide +kernel
theorem d_Zo_cutOver_20 : decode c_Zo_cutOver 20 = .ok (.iconst 1, 1) := by decide +kernel
theorem d_Zo_cutOver_21 : decode c_Zo_cutOver 21 = .ok (.isub, 1) := by decide +kernel
theorem d_Zo_cutOver_22 : decode c_Zo_cutOver 22 = .ok (.istore_n 3, 1) := by decide +kernel
theorem d_Zo_cutOver_23 : decode c_Zo_cutOver 23 = .ok (.iload_n 3, 1) := by decide +kernel
theorem d_Zo_cutOver_24 : decode c_Zo_cutOver 24 = .ok (.ifCond .ge 7, 3) := by decide +kernel
theorem d_Zo_cutOver_27 : decode c_Zo_cutOver 27 = .ok (.aconst_null, 1) := by decide +kernel
theorem d_Zo_cutOver_28 : decode c_Zo_cutOver 28 = .ok (.goto 17, 3) := by decide +kernel
theorem d_Zo_cutOver_31 : decode c_Zo_cutOver 31 = .ok (.aload_n 0, 1) := by decide +kernel
theorem d_Zo_cutOver_32 : decode c_Zo_cutOver 32 = .ok (.getfield 12, 3) := by decide +kernel
theorem d_Zo_cutOver_35 : decode c_Zo_cutOver 35 = .ok (.iload_n 3, 1) := by decide +kernel
theorem d_Zo_cutOver_36 : decode c_Zo_cutOver 36 = .ok (.invokevirtual 79, 3) := by decide +kernel
theorem d_Zo_cutOver_39 : decode c_Zo_cutOver 39 = .ok (.checkcast 83, 3) := by decide +kernel
theorem d_Zo_cutOver_42 : decode c_Zo_cutOver 42 = .ok (.getfield 146, 3) := by decide +kernel
theorem d_Zo_cutOver_45 : decode c_Zo_cutOver 45 = .ok (.astore 4, 2) := by decide +kernel
theorem d_Zo_cutOver_47 : decode c_Zo_cutOver 47 = .ok (.aload 4, 2) := by decide +kernel
theorem d_Zo_cutOver_49 : decode c_Zo_cutOver 49 = .ok (.ifnull 20, 3) := by decide +kernel
theorem d_Zo_cutOver_52 : decode c_Zo_cutOver 52 = .ok (.aload_n 1, 1) := by decide +kernel
theorem d_Zo_cutOver_53 : decode c_Zo_cutOver 53 = .ok (.aload 4, 2) := by decide +kernel
theorem d_Zo_cutOver_55 : decode c_Zo_cutOver 55 = .ok (.getfield 85, 3) := by decide +kernel
theorem d_Zo_cutOver_58 : decode c_Zo_cutOver 58 = .ok (.invokevirtual 140, 3) := by decide +kernel
theorem d_Zo_cutOver_61 : decode c_Zo_cutOver 61 = .ok (.ifCond .eq 8, 3) := by decide +kernel
theorem d_Zo_cutOver_64 : decode c_Zo_cutOver 64 = .ok (.aload 4, 2) := by decide +kernel
theorem d_Zo_cutOver_66 : decode c_Zo_cutOver 66 = .ok (.goto 4, 3) := by decide +kernel
theorem d_Zo_cutOver_69 : decode c_Zo_cutOver 69 = .ok (.aconst_null, 1) := by decide +kernel
theorem d_Zo_cutOver_70 : decode c_Zo_cutOver 70 = .ok (.areturn, 1) := by decide +kernel
abbrev rm_Zo_depth : Room := { frames := 5, cells := 0, slots := 0, locals := 140 }
set_option maxHeartbeats 4000000 in
set_option maxRecDepth 100000 in
/-- Zone.depth(name) -/
theorem t_Zo_depth (l : Launch) (E : zc_E) (G : zg_G) (a la tn st sd : Nat) (rc : Int32) (ha : G a = some (.inr (9, [.ref la, .ref tn, .ref st, .ref sd, .int rc]))) (ro : zRo) (dd : Nat) (os : List zOt) (hZR : zZR E G ro la dd os) (hne : 0 < os.length) (hol : os.length ≤ 2000) (hso : zso os) (a1 b1 : Nat) (ls1 : np_N) (f1 : Nat → Int32) (ha1 : G a1 = some (.inr (3, [.ref b1, .int (nI ls1.length)]))) (hb1 : G b1 = some (.inl (E.2.1 0, np_len ls1, .inl f1))) (hf1 : np_f ls1 f1) (hg1 : np_g ls1) (hft1 : sb_Fit f1) : zMi l E y_Zo_depth c_Zo_depth 5 (some .int) rm_Zo_depth [.ref a, .ref a1] G (fun (r : Int32) (G2 : zg_G) => (∃ k, k ≤ os.length ∧ (∀ i, i < k → nk_d (zky (oM (oe os i))) (zky ls1) < 0) ∧ (∀ i, k ≤ i → i < os.length → ¬ nk_d (zky (oM (oe os i))) (zky ls1) < 0) ∧ r = nI (max (if 0 < k then zshr (oM (oe os (k - 1))) ls1 else 0) (if k < os.length then zshr (oM (oe os k)) ls1 else 0))) ∧ G2 = G) := by
  refine zMi.of (by decide) (Nat.le_of_ble_eq_true rfl) ?_
  intro p e s m args below meth c Q hZ hG hret ls hl
  obtain ⟨hx, hb, hr, hts, hown, hlocks, hml, hnm, hbase, hK, hN, hQ⟩ := hZ
  have hl : lv_has ls 5 [(0, .ref a), (1, .ref a1)] := hl
  have hS : zg_S (zc_b E) s.heap s.heap [] := va_S.rf
  obtain ⟨k9, cap9, f9, hla, hd9, h09, hc9, hz9, hf9⟩ := hZR.1.1.un2 (by rw [List.length_map]; exact hne)
  rw [List.length_map] at hla hc9
  have hcn1 := hg1.count
  refine lv_aload_n hx hb d_Zo_depth_0 rfl (lv_at hl 0 rfl) ?_
  refine lv_aload_n hx hb d_Zo_depth_1 rfl (lv_at hl 1 rfl) ?_
  have hGo2 := hG
  refine zk_i (va_runV (As := [.ref a1]) (rest := []) ⟨hx, hb, hml, hown, hts⟩ (t_Zo_place_t l ha hZR hne hso ha1 hb1 hf1 hg1 hft1) (zcV 1 hts w_155 w_157 wp_0 w_3 w_158 (by decide +kernel) ⟨Nat.le_of_ble_eq_true rfl, Nat.le_of_ble_eq_true rfl⟩) (zc_preV hbase hK hN hQ hG hS ha rfl) rfl rfl hl.1 rfl (lv_room (Nat.le_of_ble_eq_true rfl)) d_Zo_depth_2 ⟨(by decide), (by decide)⟩) hS (fun r2 G2 H locs hp2 hG hS => ?_)
  obtain ⟨⟨k8, e8, hk1, hk2, hk3⟩, e9⟩ := hp2
  have hG : zP E G H := e9 ▸ hG
  refine zi_as (y := nI k8) e8 ?_
  refine lv_istore_n (lv' := [(2, .int (nI k8)), (0, .ref a), (1, .ref a1)]) hx hb d_Zo_depth_5 rfl hl (by decide) rfl (fun ls hl => ?_)
  refine lv_iload_n hx hb d_Zo_depth_6 rfl (lv_at hl 0 rfl) ?_
  refine lv_if_le (tgt := 33) hx hb d_Zo_depth_7 (by decide) (fun c7 => ?_) (fun c7 => ?_)
  · have b7 : k8 ≤ 0 := (nI_leI (a := k8) (b := 0) (by omega) (by omega)).mp c7
    refine lv_iconst (v := 0) hx hb d_Zo_depth_33 (by decide) ?_
    refine zi_as (y := nI 0) (nI_0.symm) ?_
    refine lv_istore_n (lv' := [(3, .int (nI 0)), (2, .int (nI k8)), (0, .ref a), (1, .ref a1)]) hx hb d_Zo_depth_34 rfl hl (by decide) rfl (fun ls hl => ?_)
    refine lv_iload_n hx hb d_Zo_depth_35 rfl (lv_at hl 1 rfl) ?_
    refine lv_aload_n hx hb d_Zo_depth_36 rfl (lv_at hl 2 rfl) ?_
    refine zg_get (ci := 9) (C := "ZoneAnswers$Zone") (T := T_Zo) (N := 5) hx hb hts zi_Zo hown hK hG ha rfl 0 (by decide) (hts _ w_91) (fun _ h9 => h9) rfl d_Zo_depth_37 ?_
    refine zk_i (va_runV (As := []) (rest := [.int (nI k8)]) ⟨hx, hb, hml, hown, hts⟩ (t_AL_size l E G la (.ref dd) (nI os.length) k9 hla) (zcV 0 hts w_159 w_160 w_161 w_6 w_162 (by decide +kernel) ⟨Nat.le_of_ble_eq_true rfl, Nat.le_of_ble_eq_true rfl⟩) (zc_preV hbase hK hN hQ hG hS hla rfl) rfl rfl hl.1 rfl (lv_room (Nat.le_of_ble_eq_true rfl)) d_Zo_depth_40 ⟨(by decide), (by decide)⟩) hS (fun r40 G40 H locs hp40 hG hS => ?_)
    have hG : zP E G H := hp40.2 ▸ hG
    refine zi_as (y := nI os.length) hp40.1 ?_
    refine lv_icmp_ge (tgt := 67) hx hb d_Zo_depth_43 (by decide) (fun c43 => ?_) (fun c43 => ?_)
    · have b43 : os.length ≤ k8 := (nI_leI (a := os.length) (b := k8) (by omega) (by omega)).mp c43
      refine lv_iconst (v := 0) hx hb d_Zo_depth_67 (by decide) ?_
      refine zi_as (y := nI 0) (nI_0.symm) ?_
      refine lv_istore (lv' := [(4, .int (nI 0)), (3, .int (nI 0)), (2, .int (nI k8)), (0, .ref a), (1, .ref a1)]) hx hb d_Zo_depth_68 hl (by decide) rfl (fun ls hl => ?_)
      refine lv_iload_n hx hb d_Zo_depth_70 rfl (lv_at hl 1 rfl) ?_
      refine lv_iload hx hb d_Zo_depth_71 (lv_at hl 0 rfl) ?_
      refine va_mmax hx hb (hml.trans hl.1.symm) hown (hts _ w_1076) (hts _ w_330) (hts _ w_11) (hts _ w_331) (Nat.le_of_ble_eq_true rfl) (Nat.le_of_ble_eq_true rfl) (by decide) (by decide) d_Zo_depth_73 ?_
      refine zi_as (y := nI (max 0 0)) (zi_max (by omega) (by omega)) ?_
      exact hret _ _ _ _ _ _ _ _ _ hr (rfl) (⟨⟨k8, hk1, hk2, hk3, by first | (exfalso; omega) | rw [if_pos (by omega), if_pos (by omega)] | rw [if_pos (by omega), if_neg (by omega)] | rw [if_neg (by omega), if_pos (by omega)] | rw [if_neg (by omega), if_neg (by omega)]⟩, rfl⟩) hG hS (Nat.le_refl _) (Nat.le_refl _) d_Zo_depth_76
    · have b43 : ¬ os.length ≤ k8 := fun q => c43 ((nI_leI (a := os.length) (b := k8) (by omega) (by omega)).mpr q)
      have hink : k8 < os.length := by omega
      obtain ⟨ho1k, ho2k, ⟨btk, ftk, ho3k, ho4k, ho5k, ho6k, ho7k, ho8k, ho9k⟩, ⟨⟨⟨kl9k, ho10k⟩, -⟩, -⟩, -⟩ := hZR.2 _ (oe_mem hink)
      rw [List.length_map] at ho10k
      have hcnk := ho6k.count
      have hz2 := zshr_le (oM (oe os k8)) ls1
      refine lv_aload_n hx hb d_Zo_depth_46 rfl (lv_at hl 2 rfl) ?_
      refine zg_get (ci := 9) (C := "ZoneAnswers$Zone") (T := T_Zo) (N := 5) hx hb hts zi_Zo hown hK hG ha rfl 0 (by decide) (hts _ w_91) (fun _ h9 => h9) rfl d_Zo_depth_47 ?_
      refine lv_iload_n hx hb d_Zo_depth_50 rfl (lv_at hl 1 rfl) ?_
      have hGo51 := hG
      refine zk_q (va_runV (As := [.int (nI k8)]) (rest := []) ⟨hx, hb, hml, hown, hts⟩ (t_AL_get l E G la dd os.length cap9 k9 f9 hla hd9 hc9 (by omega) k8 hink) (zcV 1 hts w_163 w_164 w_165 w_6 w_166 (by decide +kernel) ⟨Nat.le_of_ble_eq_true rfl, Nat.le_of_ble_eq_true rfl⟩) (zc_preV hbase hK hN hQ hG hS hla rfl) rfl rfl hl.1 rfl (lv_room (Nat.le_of_ble_eq_true rfl)) d_Zo_depth_51 ⟨(by decide), (by decide)⟩) hS (fun r51 G51 H locs hp51 hG hS => ?_)
      have hG : zP E G H := hp51.2 ▸ hG
      refine zr_some (a := oA (oe os k8)) (hp51.1.trans ((hf9 k8).trans (oe_m hink))) ?_
      refine zg_castY hx hb hown (hts _ w_177) hK hG ho1k rfl (zN.at hN (w := .castable "ZoneAnswers$Owner" "ZoneAnswers$Owner") (by decide +kernel)) d_Zo_depth_54 ?_
      refine zg_get (ci := 4) (C := "ZoneAnswers$Owner") (T := T_Ow) (N := 3) hx hb hts zi_Ow hown hK hG ho1k rfl 0 (by decide) (hts _ w_206) (fun _ h9 => h9) rfl d_Zo_depth_57 ?_
      refine lv_aload_n hx hb d_Zo_depth_60 rfl (lv_at hl 3 rfl) ?_
      refine zk_i (va_runV (As := [.ref a1]) (rest := []) ⟨hx, hb, hml, hown, hts⟩ (t_Na_shared l E G (oN (oe os k8)) btk (oM (oe os k8)) ftk ho3k ho4k ho5k ho6k a1 b1 ls1 f1 ha1 hb1 hf1 hg1) (zcV 1 hts w_749 w_750 w_751 w_7 w_752 (by decide +kernel) ⟨Nat.le_of_ble_eq_true rfl, Nat.le_of_ble_eq_true rfl⟩) (zc_preV hbase hK hN hQ hG hS ho3k rfl) rfl rfl hl.1 rfl (lv_room (Nat.le_of_ble_eq_true rfl)) d_Zo_depth_61 ⟨(by decide), (by decide)⟩) hS (fun r61 G61 H locs hp61 hG hS => ?_)
      have hG : zP E G H := hp61.2 ▸ hG
      refine zi_as (y := nI (zshr (oM (oe os k8)) ls1)) hp61.1 ?_
      refine lv_goto (tgt := 68) hx hb d_Zo_depth_64 (by decide) ?_
      refine lv_istore (lv' := [(4, .int (nI (zshr (oM (oe os k8)) ls1))), (3, .int (nI 0)), (2, .int (nI k8)), (0, .ref a), (1, .ref a1)]) hx hb d_Zo_depth_68 hl (by decide) rfl (fun ls hl => ?_)
      refine lv_iload_n hx hb d_Zo_depth_70 rfl (lv_at hl 1 rfl) ?_
      refine lv_iload hx hb d_Zo_depth_71 (lv_at hl 0 rfl) ?_
      refine va_mmax hx hb (hml.trans hl.1.symm) hown (hts _ w_1076) (hts _ w_330) (hts _ w_11) (hts _ w_331) (Nat.le_of_ble_eq_true rfl) (Nat.le_of_ble_eq_true rfl) (by decide) (by decide) d_Zo_depth_73 ?_
      refine zi_as (y := nI (max 0 (zshr (oM (oe os k8)) ls1))) (zi_max (by omega) (by omega)) ?_
      exact hret _ _ _ _ _ _ _ _ _ hr (rfl) (⟨⟨k8, hk1, hk2, hk3, by first | (exfalso; omega) | rw [if_pos (by omega), if_pos (by omega)] | rw [if_pos (by omega), if_neg (by omega)] | rw [if_neg (by omega), if_pos (by omega)] | rw [if_neg (by omega), if_neg (by omega)]⟩, rfl⟩) hG hS (Nat.le_refl _) (Nat.le_refl _) d_Zo_depth_76
  · have b7 : ¬ k8 ≤ 0 := fun q => c7 ((nI_leI (a := k8) (b := 0) (by omega) (by omega)).mpr q)
    have hinj : k8 - 1 < os.length := by omega
    obtain ⟨ho1j, ho2j, ⟨btj, ftj, ho3j, ho4j, ho5j, ho6j, ho7j, ho8j, ho9j⟩, ⟨⟨⟨kl9j, ho10j⟩, -⟩, -⟩, -⟩ := hZR.2 _ (oe_mem hinj)
    rw [List.length_map] at ho10j
    have hcnj := ho6j.count
    have hz1 := zshr_le (oM (oe os (k8 - 1))) ls1
    refine lv_aload_n hx hb d_Zo_depth_10 rfl (lv_at hl 1 rfl) ?_
    refine zg_get (ci := 9) (C := "ZoneAnswers$Zone") (T := T_Zo) (N := 5) hx hb hts zi_Zo hown hK hG ha rfl 0 (by decide) (hts _ w_91) (fun _ h9 => h9) rfl d_Zo_depth_11 ?_
    refine lv_iload_n hx hb d_Zo_depth_14 rfl (lv_at hl 0 rfl) ?_
    refine lv_iconst (v := 1) hx hb d_Zo_depth_15 (by decide) ?_
    refine lv_isub hx hb d_Zo_depth_16 ?_
    refine zi_as (y := nI (k8 - 1)) (zi_sub (a := k8) (b := 1) (by omega)) ?_
    have hGo17 := hG
    refine zk_q (va_runV (As := [.int (nI (k8 - 1))]) (rest := []) ⟨hx, hb, hml, hown, hts⟩ (t_AL_get l E G la dd os.length cap9 k9 f9 hla hd9 hc9 (by omega) (k8 - 1) hinj) (zcV 1 hts w_163 w_164 w_165 w_6 w_166 (by decide +kernel) ⟨Nat.le_of_ble_eq_true rfl, Nat.le_of_ble_eq_true rfl⟩) (zc_preV hbase hK hN hQ hG hS hla rfl) rfl rfl hl.1 rfl (lv_room (Nat.le_of_ble_eq_true rfl)) d_Zo_depth_17 ⟨(by decide), (by decide)⟩) hS (fun r17 G17 H locs hp17 hG hS => ?_)
    have hG : zP E G H := hp17.2 ▸ hG
    refine zr_some (a := oA (oe os (k8 - 1))) (hp17.1.trans ((hf9 (k8 - 1)).trans (oe_m hinj))) ?_
    refine zg_castY hx hb hown (hts _ w_177) hK hG ho1j rfl (zN.at hN (w := .castable "ZoneAnswers$Owner" "ZoneAnswers$Owner") (by decide +kernel)) d_Zo_depth_20 ?_
    refine zg_get (ci := 4) (C := "ZoneAnswers$Owner") (T := T_Ow) (N := 3) hx hb hts zi_Ow hown hK hG ho1j rfl 0 (by decide) (hts _ w_206) (fun _ h9 => h9) rfl d_Zo_depth_23 ?_
    refine lv_aload_n hx hb d_Zo_depth_26 rfl (lv_at hl 2 rfl) ?_
    refine zk_i (va_runV (As := [.ref a1]) (rest := []) ⟨hx, hb, hml, hown, hts⟩ (t_Na_shared l E G (oN (oe os (k8 - 1))) btj (oM (oe os (k8 - 1))) ftj ho3j ho4j ho5j ho6j a1 b1 ls1 f1 ha1 hb1 hf1 hg1) (zcV 1 hts w_749 w_750 w_751 w_7 w_752 (by decide +kernel) ⟨Nat.le_of_ble_eq_true rfl, Nat.le_of_ble_eq_true rfl⟩) (zc_preV hbase hK hN hQ hG hS ho3j rfl) rfl rfl hl.1 rfl (lv_room (Nat.le_of_ble_eq_true rfl)) d_Zo_depth_27 ⟨(by decide), (by decide)⟩) hS (fun r27 G27 H locs hp27 hG hS => ?_)
    have hG : zP E G H := hp27.2 ▸ hG
    refine zi_as (y := nI (zshr (oM (oe os (k8 - 1))) ls1)) hp27.1 ?_
    refine lv_goto (tgt := 34) hx hb d_Zo_depth_30 (by decide) ?_
    refine lv_istore_n (lv' := [(3, .int (nI (zshr (oM (oe os (k8 - 1))) ls1))), (2, .int (nI k8)), (0, .ref a), (1, .ref a1)]) hx hb d_Zo_depth_34 rfl hl (by decide) rfl (fun ls hl => ?_)
    refine lv_iload_n hx hb d_Zo_depth_35 rfl (lv_at hl 1 rfl) ?_
    refine lv_aload_n hx hb d_Zo_depth_36 rfl (lv_at hl 2 rfl) ?_
    refine zg_get (ci := 9) (C := "ZoneAnswers$Zone") (T := T_Zo) (N := 5) hx hb hts zi_Zo hown hK hG ha rfl 0 (by decide) (hts _ w_91) (fun _ h9 => h9) rfl d_Zo_depth_37 ?_
    refine zk_i (va_runV (As := []) (rest := [.int (nI k8)]) ⟨hx, hb, hml, hown, hts⟩ (t_AL_size l E G la (.ref dd) (nI os.length) k9 hla) (zcV 0 hts w_159 w_160 w_161 w_6 w_162 (by decide +kernel) ⟨Nat.le_of_ble_eq_true rfl, Nat.le_of_ble_eq_true rfl⟩) (zc_preV hbase hK hN hQ hG hS hla rfl) rfl rfl hl.1 rfl (lv_room (Nat.le_of_ble_eq_true rfl)) d_Zo_depth_40 ⟨(by decide), (by decide)⟩) hS (fun r40 G40 H locs hp40 hG hS => ?_)
    have hG : zP E G H := hp40.2 ▸ hG
    refine zi_as (y := nI os.length) hp40.1 ?_
    refine lv_icmp_ge (tgt := 67) hx hb d_Zo_depth_43 (by decide) (fun c43 => ?_) (fun c43 => ?_)
    · have b43 : os.length ≤ k8 := (nI_leI (a := os.length) (b := k8) (by omega) (by omega)).mp c43
      refine lv_iconst (v := 0) hx hb d_Zo_depth_67 (by decide) ?_
      refine zi_as (y := nI 0) (nI_0.symm) ?_
      refine lv_istore (lv' := [(4, .int (nI 0)), (3, .int (nI (zshr (oM (oe os (k8 - 1))) ls1))), (2, .int (nI k8)), (0, .ref a), (1, .ref a1)]) hx hb d_Zo_depth_68 hl (by decide) rfl (fun ls hl => ?_)
      refine lv_iload_n hx hb d_Zo_depth_70 rfl (lv_at hl 1 rfl) ?_
      refine lv_iload hx hb d_Zo_depth_71 (lv_at hl 0 rfl) ?_
      refine va_mmax hx hb (hml.trans hl.1.symm) hown (hts _ w_1076) (hts _ w_330) (hts _ w_11) (hts _ w_331) (Nat.le_of_ble_eq_true rfl) (Nat.le_of_ble_eq_true rfl) (by decide) (by decide) d_Zo_depth_73 ?_
      refine zi_as (y := nI (max (zshr (oM (oe os (k8 - 1))) ls1) 0)) (zi_max (by omega) (by omega)) ?_
      exact hret _ _ _ _ _ _ _ _ _ hr (rfl) (⟨⟨k8, hk1, hk2, hk3, by first | (exfalso; omega) | rw [if_pos (by omega), if_pos (by omega)] | rw [if_pos (by omega), if_neg (by omega)] | rw [if_neg (by omega), if_pos (by omega)] | rw [if_neg (by omega), if_neg (by omega)]⟩, rfl⟩) hG hS (Nat.le_refl _) (Nat.le_refl _) d_Zo_depth_76
    · have b43 : ¬ os.length ≤ k8 := fun q => c43 ((nI_leI (a := os.length) (b := k8) (by omega) (by omega)).mpr q)
      have hink : k8 < os.length := by omega
      obtain ⟨ho1k, ho2k, ⟨btk, ftk, ho3k, ho4k, ho5k, ho6k, ho7k, ho8k, ho9k⟩, ⟨⟨⟨kl9k, ho10k⟩, -⟩, -⟩, -⟩ := hZR.2 _ (oe_mem hink)
      rw [List.length_map] at ho10k
      have hcnk := ho6k.count
      have hz2 := zshr_le (oM (oe os k8)) ls1
      refine lv_aload_n hx hb d_Zo_depth_46 rfl (lv_at hl 2 rfl) ?_
      refine zg_get (ci := 9) (C := "ZoneAnswers$Zone") (T := T_Zo) (N := 5) hx hb hts zi_Zo hown hK hG ha rfl 0 (by decide) (hts _ w_91) (fun _ h9 => h9) rfl d_Zo_depth_47 ?_
      refine lv_iload_n hx hb d_Zo_depth_50 rfl (lv_at hl 1 rfl) ?_
      have hGo51 := hG
      refine zk_q (va_runV (As := [.int (nI k8)]) (rest := []) ⟨hx, hb, hml, hown, hts⟩ (t_AL_get l E G la dd os.length cap9 k9 f9 hla hd9 hc9 (by omega) k8 hink) (zcV 1 hts w_163 w_164 w_165 w_6 w_166 (by decide +kernel) ⟨Nat.le_of_ble_eq_true rfl, Nat.le_of_ble_eq_true rfl⟩) (zc_preV hbase hK hN hQ hG hS hla rfl) rfl rfl hl.1 rfl (lv_room (Nat.le_of_ble_eq_true rfl)) d_Zo_depth_51 ⟨(by decide), (by decide)⟩) hS (fun r51 G51 H locs hp51 hG hS => ?_)
      have hG : zP E G H := hp51.2 ▸ hG
      refine zr_some (a := oA (oe os k8)) (hp51.1.trans ((hf9 k8).trans (oe_m hink))) ?_
      refine zg_castY hx hb hown (hts _ w_177) hK hG ho1k rfl (zN.at hN (w := .castable "ZoneAnswers$Owner" "ZoneAnswers$Owner") (by decide +kernel)) d_Zo_depth_54 ?_
      refine zg_get (ci := 4) (C := "ZoneAnswers$Owner") (T := T_Ow) (N := 3) hx hb hts zi_Ow hown hK hG ho1k rfl 0 (by decide) (hts _ w_206) (fun _ h9 => h9) rfl d_Zo_depth_57 ?_
      refine lv_aload_n hx hb d_Zo_depth_60 rfl (lv_at hl 3 rfl) ?_
      refine zk_i (va_runV (As := [.ref a1]) (rest := []) ⟨hx, hb, hml, hown, hts⟩ (t_Na_shared l E G (oN (oe os k8)) btk (oM (oe os k8)) ftk ho3k ho4k ho5k ho6k a1 b1 ls1 f1 ha1 hb1 hf1 hg1) (zcV 1 hts w_749 w_750 w_751 w_7 w_752 (by decide +kernel) ⟨Nat.le_of_ble_eq_true rfl, Nat.le_of_ble_eq_true rfl⟩) (zc_preV hbase hK hN hQ hG hS ho3k rfl) rfl rfl hl.1 rfl (lv_room (Nat.le_of_ble_eq_true rfl)) d_Zo_depth_61 ⟨(by decide), (by decide)⟩) hS (fun r61 G61 H locs hp61 hG hS => ?_)
      have hG : zP E G H := hp61.2 ▸ hG
      refine zi_as (y := nI (zshr (oM (oe os k8)) ls1)) hp61.1 ?_
      refine lv_goto (tgt := 68) hx hb d_Zo_depth_64 (by decide) ?_
      refine lv_istore (lv' := [(4, .int (nI (zshr (oM (oe os k8)) ls1))), (3, .int (nI (zshr (oM (oe os (k8 - 1))) ls1))), (2, .int (nI k8)), (0, .ref a), (1, .ref a1)]) hx hb d_Zo_depth_68 hl (by decide) rfl (fun ls hl => ?_)
      refine lv_iload_n hx hb d_Zo_depth_70 rfl (lv_at hl 1 rfl) ?_
      refine lv_iload hx hb d_Zo_depth_71 (lv_at hl 0 rfl) ?_
      refine va_mmax hx hb (hml.trans hl.1.symm) hown (hts _ w_1076) (hts _ w_330) (hts _ w_11) (hts _ w_331) (Nat.le_of_ble_eq_true rfl) (Nat.le_of_ble_eq_true rfl) (by decide) (by decide) d_Zo_depth_73 ?_
      refine zi_as (y := nI (max (zshr (oM (oe os (k8 - 1))) ls1) (zshr (oM (oe os k8)) ls1))) (zi_max (by omega) (by omega)) ?_
      exact hret _ _ _ _ _ _ _ _ _ hr (rfl) (⟨⟨k8, hk1, hk2, hk3, by first | (exfalso; omega) | rw [if_pos (by omega), if_pos (by omega)] | rw [if_pos (by omega), if_neg (by omega)] | rw [if_neg (by omega), if_pos (by omega)] | rw [if_neg (by omega), if_neg (by omega)]⟩, rfl⟩) hG hS (Nat.le_refl _) (Nat.le_refl _) d_Zo_depth_76
abbrev rm_Zo_chained : Room := { frames := 3, cells := 0, slots := 0, locals := 80 }
set_option maxHeartbeats 4000000 in
set_option maxRecDepth 100000 in
/-- Zone.chained(place) -/
theorem t_Zo_chained (l : Launch) (E : zc_E) (G : zg_G) (a la tn st sd : Nat) (rc : Int32) (ha : G a = some (.inr (9, [.ref la, .ref tn, .ref st, .ref sd, .int rc]))) (ro : zRo) (dd : Nat) (os : List zOt) (hZR : zZR E G ro la dd os) (hne : 0 < os.length) (hol : os.length ≤ 2000) (k0 : Nat) (hk0 : k0 < os.length) : zMi l E y_Zo_chained c_Zo_chained 3 (some .int) rm_Zo_chained [.ref a, .int (nI k0)] G (fun (r : Int32) (G2 : zg_G) => (∃ j, j ≤ k0 ∧ (j = 0 ∨ ¬ zgb (oe os j) = true) ∧ (∀ i, j < i → i ≤ k0 → zgb (oe os i) = true) ∧ r = nI j) ∧ G2 = G) := by
  refine zMi.of (by decide) (Nat.le_of_ble_eq_true rfl) ?_
  intro p e s m args below meth c Q hZ hG hret ls hl
  obtain ⟨hx, hb, hr, hts, hown, hlocks, hml, hnm, hbase, hK, hN, hQ⟩ := hZ
  have hl : lv_has ls 3 [(0, .ref a), (1, .int (nI k0))] := hl
  have hS : zg_S (zc_b E) s.heap s.heap [] := va_S.rf
  obtain ⟨k9, cap9, f9, hla, hd9, h09, hc9, hz9, hf9⟩ := hZR.1.1.un2 (by rw [List.length_map]; exact hne)
  rw [List.length_map] at hla hc9
  refine lv_iload_n hx hb d_Zo_chained_0 rfl (lv_at hl 1 rfl) ?_
  refine lv_istore_n (lv' := [(2, .int (nI k0)), (0, .ref a), (1, .int (nI k0))]) hx hb d_Zo_chained_1 rfl hl (by decide) rfl (fun ls hl => ?_)
  have loop2 : ∀ (N : Nat) (j : Nat) (H : Heap) (locs : List Loc), j < N → (j ≤ k0) → (∀ i, j < i → i ≤ k0 → zgb (oe os i) = true) → zP E G H → zg_S (zc_b E) s.heap H locs → ∀ (ls : Array Slot), lv_has ls 3 [(0, .ref a), (1, .int (nI k0)), (2, .int (nI j))] → W p l e rm_Zo_chained s m args below meth c H locs 0 0 Q (F0 m 2 ls []) := by
    intro N
    induction N with
    | zero =>
      intro j H locs hlt
      exact absurd hlt (Nat.not_lt_zero _)
    | succ N ih =>
      intro j H locs hlt hj hq hG hS ls hl
      refine lv_iload_n hx hb d_Zo_chained_2 rfl (lv_at hl 2 rfl) ?_
      refine lv_if_le (tgt := 29) hx hb d_Zo_chained_3 (by decide) (fun c3 => ?_) (fun c3 => ?_)
      · have b3 : j ≤ 0 := (nI_leI (a := j) (b := 0) (by omega) (by omega)).mp c3
        refine lv_iload_n hx hb d_Zo_chained_29 rfl (lv_at hl 2 rfl) ?_
        refine lv_iconst (v := 0) hx hb d_Zo_chained_30 (by decide) ?_
        refine zi_as (y := nI 0) (nI_0.symm) ?_
        refine va_mmax hx hb (hml.trans hl.1.symm) hown (hts _ w_1076) (hts _ w_330) (hts _ w_11) (hts _ w_331) (Nat.le_of_ble_eq_true rfl) (Nat.le_of_ble_eq_true rfl) (by decide) (by decide) d_Zo_chained_31 ?_
        refine zi_as (y := nI j) (by rw [zi_max (by omega) (by omega), Nat.max_eq_left (by omega)]) ?_
        exact hret _ _ _ _ _ _ _ _ _ hr (rfl) (⟨⟨j, hj, by first | exact Or.inl (by omega) | exact Or.inr (hp17.1.z c20), hq, rfl⟩, rfl⟩) hG hS (Nat.le_refl _) (Nat.le_refl _) d_Zo_chained_34
      · have b3 : ¬ j ≤ 0 := fun q => c3 ((nI_leI (a := j) (b := 0) (by omega) (by omega)).mpr q)
        have hinj : j < os.length := by omega
        obtain ⟨ho1j, ho2j, ⟨btj, ftj, ho3j, ho4j, ho5j, ho6j, ho7j, ho8j, ho9j⟩, ⟨⟨⟨kl9j, ho10j⟩, -⟩, -⟩, -⟩ := hZR.2 _ (oe_mem hinj)
        rw [List.length_map] at ho10j
        have hcnj := ho6j.count
        refine lv_aload_n hx hb d_Zo_chained_6 rfl (lv_at hl 0 rfl) ?_
        refine zg_get (ci := 9) (C := "ZoneAnswers$Zone") (T := T_Zo) (N := 5) hx hb hts zi_Zo hown hK hG ha rfl 0 (by decide) (hts _ w_91) (fun _ h9 => h9) rfl d_Zo_chained_7 ?_
        refine lv_iload_n hx hb d_Zo_chained_10 rfl (lv_at hl 2 rfl) ?_
        have hGo11 := hG
        refine zk_q (va_runV (As := [.int (nI j)]) (rest := []) ⟨hx, hb, hml, hown, hts⟩ (t_AL_get l E G la dd os.length cap9 k9 f9 hla hd9 hc9 (by omega) j hinj) (zcV 1 hts w_163 w_164 w_165 w_6 w_166 (by decide +kernel) ⟨Nat.le_of_ble_eq_true rfl, Nat.le_of_ble_eq_true rfl⟩) (zc_preV hbase hK hN hQ hG hS hla rfl) rfl rfl hl.1 rfl (lv_room (Nat.le_of_ble_eq_true rfl)) d_Zo_chained_11 ⟨(by decide), (by decide)⟩) hS (fun r11 G11 H locs hp11 hG hS => ?_)
        have hG : zP E G H := hp11.2 ▸ hG
        refine zr_some (a := oA (oe os j)) (hp11.1.trans ((hf9 j).trans (oe_m hinj))) ?_
        refine zg_castY hx hb hown (hts _ w_177) hK hG ho1j rfl (zN.at hN (w := .castable "ZoneAnswers$Owner" "ZoneAnswers$Owner") (by decide +kernel)) d_Zo_chained_14 ?_
        refine zk_i (va_runV (As := []) (rest := []) ⟨hx, hb, hml, hown, hts⟩ (t_Ow_isGivenAway_t l (hZR.2 _ (oe_mem hinj))) (zcV 0 hts w_757 w_758 w_759 w_12 w_760 (by decide +kernel) ⟨Nat.le_of_ble_eq_true rfl, Nat.le_of_ble_eq_true rfl⟩) (zc_preV hbase hK hN hQ hG hS ho1j rfl) rfl rfl hl.1 rfl (lv_room (Nat.le_of_ble_eq_true rfl)) d_Zo_chained_17 ⟨(by decide), (by decide)⟩) hS (fun r17 G17 H locs hp17 hG hS => ?_)
        have hG : zP E G H := hp17.2 ▸ hG
        refine lv_if_eq (tgt := 29) hx hb d_Zo_chained_20 (by decide) (fun c20 => ?_) (fun c20 => ?_)
        · refine lv_iload_n hx hb d_Zo_chained_29 rfl (lv_at hl 2 rfl) ?_
          refine lv_iconst (v := 0) hx hb d_Zo_chained_30 (by decide) ?_
          refine zi_as (y := nI 0) (nI_0.symm) ?_
          refine va_mmax hx hb (hml.trans hl.1.symm) hown (hts _ w_1076) (hts _ w_330) (hts _ w_11) (hts _ w_331) (Nat.le_of_ble_eq_true rfl) (Nat.le_of_ble_eq_true rfl) (by decide) (by decide) d_Zo_chained_31 ?_
          refine zi_as (y := nI j) (by rw [zi_max (by omega) (by omega), Nat.max_eq_left (by omega)]) ?_
          exact hret _ _ _ _ _ _ _ _ _ hr (rfl) (⟨⟨j, hj, by first | exact Or.inl (by omega) | exact Or.inr (hp17.1.z c20), hq, rfl⟩, rfl⟩) hG hS (Nat.le_refl _) (Nat.le_refl _) d_Zo_chained_34
        · refine lv_iinc (v := nI (j - 1)) (lv' := [(2, .int (nI (j - 1))), (0, .ref a), (1, .int (nI k0))]) hx hb d_Zo_chained_23 hl (k := 2) rfl (zi_dec (by omega)) (by decide) rfl (fun ls hl => ?_)
          refine lv_goto (tgt := 2) hx hb d_Zo_chained_26 (by decide) ?_
          exact ih (j - 1) _ _ (by omega) (by omega) (fun i h1 h2 => by rcases Nat.lt_or_ge j i with q | q; exact hq i q h2; rw [show i = j by omega]; exact hp17.1.nz c20) hG hS ls (lv_sub hl [1, 2, 0] rfl)
  exact loop2 _ k0 _ _ (Nat.lt_succ_self _) (Nat.le_refl _) (fun i h1 h2 => absurd h1 (by omega)) hG hS ls (lv_sub hl [1, 2, 0] rfl)
abbrev rm_Zo_linkOver : Room := { frames := 5, cells := 0, slots := 0, locals := 140 }
set_option maxHeartbeats 4000000 in
set_option maxRecDepth 100000 in
/-- Zone.linkOver(name) -/
theorem t_Zo_linkOver (l : Launch) (E : zc_E) (G : zg_G) (a la tn st sd : Nat) (rc : Int32) (ha : G a = some (.inr (9, [.ref la, .ref tn, .ref st, .ref sd, .int rc]))) (ro : zRo) (dd : Nat) (os : List zOt) (hZR : zZR E G ro la dd os) (hne : 0 < os.length) (hol : os.length ≤ 2000) (hso : zso os) (a1 b1 : Nat) (ls1 : np_N) (f1 : Nat → Int32) (ha1 : G a1 = some (.inr (3, [.ref b1, .int (nI ls1.length)]))) (hb1 : G b1 = some (.inl (E.2.1 0, np_len ls1, .inl f1))) (hf1 : np_f ls1 f1) (hg1 : np_g ls1) (hft1 : sb_Fit f1) (hfi : nk_d (zky (oM (oe os 0))) (zky ls1) < 0) : zMi l E y_Zo_linkOver c_Zo_linkOver 2 (some .int) rm_Zo_linkOver [.ref a, .ref a1] G (fun (r : Int32) (G2 : zg_G) => (∃ k, 0 < k ∧ k ≤ os.length ∧ (∀ i, i < k → nk_d (zky (oM (oe os i))) (zky ls1) < 0) ∧ (∀ i, k ≤ i → i < os.length → ¬ nk_d (zky (oM (oe os i))) (zky ls1) < 0) ∧ (∃ j, j ≤ (k - 1) ∧ (j = 0 ∨ ¬ zgb (oe os j) = true) ∧ (∀ i, j < i → i ≤ (k - 1) → zgb (oe os i) = true) ∧ r = nI j)) ∧ G2 = G) := by
  refine zMi.of (by decide) (Nat.le_of_ble_eq_true rfl) ?_
  intro p e s m args below meth c Q hZ hG hret ls hl
  obtain ⟨hx, hb, hr, hts, hown, hlocks, hml, hnm, hbase, hK, hN, hQ⟩ := hZ
  have hl : lv_has ls 2 [(0, .ref a), (1, .ref a1)] := hl
  have hS : zg_S (zc_b E) s.heap s.heap [] := va_S.rf
  obtain ⟨k9, cap9, f9, hla, hd9, h09, hc9, hz9, hf9⟩ := hZR.1.1.un2 (by rw [List.length_map]; exact hne)
  rw [List.length_map] at hla hc9
  refine lv_aload_n hx hb d_Zo_linkOver_0 rfl (lv_at hl 0 rfl) ?_
  refine lv_aload_n hx hb d_Zo_linkOver_1 rfl (lv_at hl 0 rfl) ?_
  refine lv_aload_n hx hb d_Zo_linkOver_2 rfl (lv_at hl 1 rfl) ?_
  have hGo3 := hG
  refine zk_i (va_runV (As := [.ref a1]) (rest := [.ref a]) ⟨hx, hb, hml, hown, hts⟩ (t_Zo_place_t l ha hZR hne hso ha1 hb1 hf1 hg1 hft1) (zcV 1 hts w_155 w_157 wp_0 w_3 w_158 (by decide +kernel) ⟨Nat.le_of_ble_eq_true rfl, Nat.le_of_ble_eq_true rfl⟩) (zc_preV hbase hK hN hQ hG hS ha rfl) rfl rfl hl.1 rfl (lv_room (Nat.le_of_ble_eq_true rfl)) d_Zo_linkOver_3 ⟨(by decide), (by decide)⟩) hS (fun r3 G3 H locs hp3 hG hS => ?_)
  obtain ⟨⟨k8, e8, hk1, hk2, hk3⟩, e9⟩ := hp3
  have hG : zP E G H := e9 ▸ hG
  refine zi_as (y := nI k8) e8 ?_
  refine lv_iconst (v := 1) hx hb d_Zo_linkOver_6 (by decide) ?_
  have hk0 : 0 < k8 := by
    rcases Nat.eq_zero_or_pos k8 with z | z
    · exact absurd hfi (hk3 0 (by omega) hne)
    · exact z
  refine lv_isub hx hb d_Zo_linkOver_7 ?_
  refine zi_as (y := nI (k8 - 1)) (zi_sub (a := k8) (b := 1) (by omega)) ?_
  have hGo8 := hG
  refine zk_i (va_runV (As := [.int (nI (k8 - 1))]) (rest := []) ⟨hx, hb, hml, hown, hts⟩ (t_Zo_chained l E G a la tn st sd rc ha ro dd os hZR hne hol (k8 - 1) (by omega)) (zcV 1 hts w_1072 w_1074 wp_16 w_3 w_1075 (by decide +kernel) ⟨Nat.le_of_ble_eq_true rfl, Nat.le_of_ble_eq_true rfl⟩) (zc_preV hbase hK hN hQ hG hS ha rfl) rfl rfl hl.1 rfl (lv_room (Nat.le_of_ble_eq_true rfl)) d_Zo_linkOver_8 ⟨(by decide), (by decide)⟩) hS (fun r8 G8 H locs hp8 hG hS => ?_)
  have hG : zP E G H := hp8.2 ▸ hG
  obtain ⟨j9, hj1, hj2, hj3, ej9⟩ := hp8.1
  refine zi_as (y := nI j9) ej9 ?_
  exact hret _ _ _ _ _ _ _ _ _ hr (rfl) (⟨⟨k8, hk0, hk1, hk2, hk3, j9, hj1, hj2, hj3, rfl⟩, rfl⟩) hG hS (Nat.le_refl _) (Nat.le_refl _) d_Zo_linkOver_11
abbrev rm_Zo_linkAt : Room := { frames := 5, cells := 0, slots := 0, locals := 140 }
set_option maxHeartbeats 4000000 in
set_option maxRecDepth 100000 in
/-- Zone.linkAt(name) -/
theorem t_Zo_linkAt (l : Launch) (E : zc_E) (G : zg_G) (a la tn st sd : Nat) (rc : Int32) (ha : G a = some (.inr (9, [.ref la, .ref tn, .ref st, .ref sd, .int rc]))) (ro : zRo) (dd : Nat) (os : List zOt) (hZR : zZR E G ro la dd os) (hne : 0 < os.length) (hol : os.length ≤ 2000) (hso : zso os) (a1 b1 : Nat) (ls1 : np_N) (f1 : Nat → Int32) (ha1 : G a1 = some (.inr (3, [.ref b1, .int (nI ls1.length)]))) (hb1 : G b1 = some (.inl (E.2.1 0, np_len ls1, .inl f1))) (hf1 : np_f ls1 f1) (hg1 : np_g ls1) (hft1 : sb_Fit f1) (hfi : oM (oe os 0) = ls1 ∨ nk_d (zky (oM (oe os 0))) (zky ls1) < 0) : zMi l E y_Zo_linkAt c_Zo_linkAt 3 (some .int) rm_Zo_linkAt [.ref a, .ref a1] G (fun (r : Int32) (G2 : zg_G) => (∃ k, k ≤ os.length ∧ (∀ i, i < k → nk_d (zky (oM (oe os i))) (zky ls1) < 0) ∧ (∀ i, k ≤ i → i < os.length → ¬ nk_d (zky (oM (oe os i))) (zky ls1) < 0) ∧ ((k < os.length ∧ oM (oe os k) = ls1 ∧ (∃ j, j ≤ k ∧ (j = 0 ∨ ¬ zgb (oe os j) = true) ∧ (∀ i, j < i → i ≤ k → zgb (oe os i) = true) ∧ r = nI j)) ∨ (0 < k ∧ ¬ (k < os.length ∧ oM (oe os k) = ls1) ∧ (∃ j, j ≤ (k - 1) ∧ (j = 0 ∨ ¬ zgb (oe os j) = true) ∧ (∀ i, j < i → i ≤ (k - 1) → zgb (oe os i) = true) ∧ r = nI j)))) ∧ G2 = G) := by
  refine zMi.of (by decide) (Nat.le_of_ble_eq_true rfl) ?_
  intro p e s m args below meth c Q hZ hG hret ls hl
  obtain ⟨hx, hb, hr, hts, hown, hlocks, hml, hnm, hbase, hK, hN, hQ⟩ := hZ
  have hl : lv_has ls 3 [(0, .ref a), (1, .ref a1)] := hl
  have hS : zg_S (zc_b E) s.heap s.heap [] := va_S.rf
  obtain ⟨k9, cap9, f9, hla, hd9, h09, hc9, hz9, hf9⟩ := hZR.1.1.un2 (by rw [List.length_map]; exact hne)
  rw [List.length_map] at hla hc9
  refine lv_aload_n hx hb d_Zo_linkAt_0 rfl (lv_at hl 0 rfl) ?_
  refine lv_aload_n hx hb d_Zo_linkAt_1 rfl (lv_at hl 1 rfl) ?_
  have hGo2 := hG
  refine zk_i (va_runV (As := [.ref a1]) (rest := []) ⟨hx, hb, hml, hown, hts⟩ (t_Zo_place_t l ha hZR hne hso ha1 hb1 hf1 hg1 hft1) (zcV 1 hts w_155 w_157 wp_0 w_3 w_158 (by decide +kernel) ⟨Nat.le_of_ble_eq_true rfl, Nat.le_of_ble_eq_true rfl⟩) (zc_preV hbase hK hN hQ hG hS ha rfl) rfl rfl hl.1 rfl (lv_room (Nat.le_of_ble_eq_true rfl)) d_Zo_linkAt_2 ⟨(by decide), (by decide)⟩) hS (fun r2 G2 H locs hp2 hG hS => ?_)
  obtain ⟨⟨k8, e8, hk1, hk2, hk3⟩, e9⟩ := hp2
  have hG : zP E G H := e9 ▸ hG
  refine zi_as (y := nI k8) e8 ?_
  refine lv_istore_n (lv' := [(2, .int (nI k8)), (0, .ref a), (1, .ref a1)]) hx hb d_Zo_linkAt_5 rfl hl (by decide) rfl (fun ls hl => ?_)
  refine lv_aload_n hx hb d_Zo_linkAt_6 rfl (lv_at hl 1 rfl) ?_
  refine lv_aload_n hx hb d_Zo_linkAt_7 rfl (lv_at hl 1 rfl) ?_
  refine lv_iload_n hx hb d_Zo_linkAt_8 rfl (lv_at hl 0 rfl) ?_
  refine lv_aload_n hx hb d_Zo_linkAt_9 rfl (lv_at hl 2 rfl) ?_
  refine zk_i (va_runV (As := [.int (nI k8), .ref a1]) (rest := [.ref a]) ⟨hx, hb, hml, hown, hts⟩ (t_Zo_isAt_t l ha hZR hne hso ha1 hb1 hf1 hg1 k8 hk1) (zcV 2 hts w_189 w_191 wp_2 w_3 w_192 (by decide +kernel) ⟨Nat.le_of_ble_eq_true rfl, Nat.le_of_ble_eq_true rfl⟩) (zc_preV hbase hK hN hQ hG hS ha rfl) rfl rfl hl.1 rfl (lv_room (Nat.le_of_ble_eq_true rfl)) d_Zo_linkAt_10 ⟨(by decide), (by decide)⟩) hS (fun r10 G10 H locs hp10 hG hS => ?_)
  have hG : zP E G H := hp10.2 ▸ hG
  refine lv_if_eq (tgt := 20) hx hb d_Zo_linkAt_13 (by decide) (fun c13 => ?_) (fun c13 => ?_)
  · have hna := hp10.1.z c13
    have hk0 : 0 < k8 := by
      rcases Nat.eq_zero_or_pos k8 with z | z
      · rcases hfi with q | q
        · exact absurd ⟨by rw [z]; exact hne, by rw [z]; exact q⟩ hna
        · exact absurd q (hk3 0 (by omega) hne)
      · exact z
    refine lv_iload_n hx hb d_Zo_linkAt_20 rfl (lv_at hl 0 rfl) ?_
    refine lv_iconst (v := 1) hx hb d_Zo_linkAt_21 (by decide) ?_
    refine lv_isub hx hb d_Zo_linkAt_22 ?_
    refine zi_as (y := nI (k8 - 1)) (zi_sub (a := k8) (b := 1) (by omega)) ?_
    have hGo23 := hG
    refine zk_i (va_runV (As := [.int (nI (k8 - 1))]) (rest := []) ⟨hx, hb, hml, hown, hts⟩ (t_Zo_chained l E G a la tn st sd rc ha ro dd os hZR hne hol (k8 - 1) (by omega)) (zcV 1 hts w_1072 w_1074 wp_16 w_3 w_1075 (by decide +kernel) ⟨Nat.le_of_ble_eq_true rfl, Nat.le_of_ble_eq_true rfl⟩) (zc_preV hbase hK hN hQ hG hS ha rfl) rfl rfl hl.1 rfl (lv_room (Nat.le_of_ble_eq_true rfl)) d_Zo_linkAt_23 ⟨(by decide), (by decide)⟩) hS (fun r23 G23 H locs hp23 hG hS => ?_)
    have hG : zP E G H := hp23.2 ▸ hG
    obtain ⟨j9, hj1, hj2, hj3, ej9⟩ := hp23.1
    refine zi_as (y := nI j9) ej9 ?_
    exact hret _ _ _ _ _ _ _ _ _ hr (rfl) (⟨⟨k8, hk1, hk2, hk3, by first | exact Or.inl ⟨hat.1, hat.2, j9, hj1, hj2, hj3, rfl⟩ | exact Or.inr ⟨hk0, hna, j9, hj1, hj2, hj3, rfl⟩⟩, rfl⟩) hG hS (Nat.le_refl _) (Nat.le_refl _) d_Zo_linkAt_26
  · have hat := hp10.1.nz c13
    have hat1 := hat.1
    refine lv_iload_n hx hb d_Zo_linkAt_16 rfl (lv_at hl 0 rfl) ?_
    refine lv_goto (tgt := 23) hx hb d_Zo_linkAt_17 (by decide) ?_
    have hGo23 := hG
    refine zk_i (va_runV (As := [.int (nI k8)]) (rest := []) ⟨hx, hb, hml, hown, hts⟩ (t_Zo_chained l E G a la tn st sd rc ha ro dd os hZR hne hol k8 (by omega)) (zcV 1 hts w_1072 w_1074 wp_16 w_3 w_1075 (by decide +kernel) ⟨Nat.le_of_ble_eq_true rfl, Nat.le_of_ble_eq_true rfl⟩) (zc_preV hbase hK hN hQ hG hS ha rfl) rfl rfl hl.1 rfl (lv_room (Nat.le_of_ble_eq_true rfl)) d_Zo_linkAt_23 ⟨(by decide), (by decide)⟩) hS (fun r23 G23 H locs hp23 hG hS => ?_)
    have hG : zP E G H := hp23.2 ▸ hG
    obtain ⟨j9, hj1, hj2, hj3, ej9⟩ := hp23.1
    refine zi_as (y := nI j9) ej9 ?_
    exact hret _ _ _ _ _ _ _ _ _ hr (rfl) (⟨⟨k8, hk1, hk2, hk3, by first | exact Or.inl ⟨hat.1, hat.2, j9, hj1, hj2, hj3, rfl⟩ | exact Or.inr ⟨hk0, hna, j9, hj1, hj2, hj3, rfl⟩⟩, rfl⟩) hG hS (Nat.le_refl _) (Nat.le_refl _) d_Zo_linkAt_26
abbrev rm_Zo_cutOver : Room := { frames := 5, cells := 0, slots := 0, locals := 140 }
set_option maxHeartbeats 4000000 in
set_option maxRecDepth 100000 in
/-- Zone.cutOver(name) -/
theorem t_Zo_cutOver (l : Launch) (E : zc_E) (G : zg_G) (a la tn st sd : Nat) (rc : Int32) (ha : G a = some (.inr (9, [.ref la, .ref tn, .ref st, .ref sd, .int rc]))) (ro : zRo) (dd : Nat) (os : List zOt) (hZR : zZR E G ro la dd os) (hne : 0 < os.length) (hol : os.length ≤ 2000) (hso : zso os) (a1 b1 : Nat) (ls1 : np_N) (f1 : Nat → Int32) (ha1 : G a1 = some (.inr (3, [.ref b1, .int (nI ls1.length)]))) (hb1 : G b1 = some (.inl (E.2.1 0, np_len ls1, .inl f1))) (hf1 : np_f ls1 f1) (hg1 : np_g ls1) (hft1 : sb_Fit f1) (hfi : oM (oe os 0) = ls1 ∨ nk_d (zky (oM (oe os 0))) (zky ls1) < 0) (hcu : ∀ o ∈ os, ∀ c, oC o = some c → ∃ i, i < os.length ∧ c = oA (oe os i)) : zMq l E y_Zo_cutOver c_Zo_cutOver 5 (some (.object "ZoneAnswers$Owner")) rm_Zo_cutOver [.ref a, .ref a1] G (fun (r : Option Nat) (G2 : zg_G) => (∃ k, k ≤ os.length ∧ (∀ i, i < k → nk_d (zky (oM (oe os i))) (zky ls1) < 0) ∧ (∀ i, k ≤ i → i < os.length → ¬ nk_d (zky (oM (oe os i))) (zky ls1) < 0) ∧ ((k < os.length ∧ oM (oe os k) = ls1 ∧ ((∃ ci, ci < os.length ∧ oC (oe os k) = some (oA (oe os ci)) ∧ oM (oe os ci) <:+ ls1 ∧ r = some (oA (oe os ci))) ∨ ((oC (oe os k) = none ∨ ∃ ci, ci < os.length ∧ oC (oe os k) = some (oA (oe os ci)) ∧ ¬ oM (oe os ci) <:+ ls1) ∧ r = none))) ∨ (0 < k ∧ ¬ (k < os.length ∧ oM (oe os k) = ls1) ∧ ((∃ ci, ci < os.length ∧ oC (oe os (k - 1)) = some (oA (oe os ci)) ∧ oM (oe os ci) <:+ ls1 ∧ r = some (oA (oe os ci))) ∨ ((oC (oe os (k - 1)) = none ∨ ∃ ci, ci < os.length ∧ oC (oe os (k - 1)) = some (oA (oe os ci)) ∧ ¬ oM (oe os ci) <:+ ls1) ∧ r = none))))) ∧ G2 = G) := by
  refine zMq.of (by decide) (Nat.le_of_ble_eq_true rfl) ?_
  intro p e s m args below meth c Q hZ hG hret ls hl
  obtain ⟨hx, hb, hr, hts, hown, hlocks, hml, hnm, hbase, hK, hN, hQ⟩ := hZ
  have hl : lv_has ls 5 [(0, .ref a), (1, .ref a1)] := hl
  have hS : zg_S (zc_b E) s.heap s.heap [] := va_S.rf
  obtain ⟨k9, cap9, f9, hla, hd9, h09, hc9, hz9, hf9⟩ := hZR.1.1.un2 (by rw [List.length_map]; exact hne)
  rw [List.length_map] at hla hc9
  refine lv_aload_n hx hb d_Zo_cutOver_0 rfl (lv_at hl 0 rfl) ?_
  refine lv_aload_n hx hb d_Zo_cutOver_1 rfl (lv_at hl 1 rfl) ?_
  have hGo2 := hG
  refine zk_i (va_runV (As := [.ref a1]) (rest := []) ⟨hx, hb, hml, hown, hts⟩ (t_Zo_place_t l ha hZR hne hso ha1 hb1 hf1 hg1 hft1) (zcV 1 hts w_155 w_157 wp_0 w_3 w_158 (by decide +kernel) ⟨Nat.le_of_ble_eq_true rfl, Nat.le_of_ble_eq_true rfl⟩) (zc_preV hbase hK hN hQ hG hS ha rfl) rfl rfl hl.1 rfl (lv_room (Nat.le_of_ble_eq_true rfl)) d_Zo_cutOver_2 ⟨(by decide), (by decide)⟩) hS (fun r2 G2 H locs hp2 hG hS => ?_)
  obtain ⟨⟨k8, e8, hk1, hk2, hk3⟩, e9⟩ := hp2
  have hG : zP E G H := e9 ▸ hG
  refine zi_as (y := nI k8) e8 ?_
  refine lv_istore_n (lv' := [(2, .int (nI k8)), (0, .ref a), (1, .ref a1)]) hx hb d_Zo_cutOver_5 rfl hl (by decide) rfl (fun ls hl => ?_)
  refine lv_aload_n hx hb d_Zo_cutOver_6 rfl (lv_at hl 1 rfl) ?_
  refine lv_iload_n hx hb d_Zo_cutOver_7 rfl (lv_at hl 0 rfl) ?_
  refine lv_aload_n hx hb d_Zo_cutOver_8 rfl (lv_at hl 2 rfl) ?_
  refine zk_i (va_runV (As := [.int (nI k8), .ref a1]) (rest := []) ⟨hx, hb, hml, hown, hts⟩ (t_Zo_isAt_t l ha hZR hne hso ha1 hb1 hf1 hg1 k8 hk1) (zcV 2 hts w_189 w_191 wp_2 w_3 w_192 (by decide +kernel) ⟨Nat.le_of_ble_eq_true rfl, Nat.le_of_ble_eq_true rfl⟩) (zc_preV hbase hK hN hQ hG hS ha rfl) rfl rfl hl.1 rfl (lv_room (Nat.le_of_ble_eq_true rfl)) d_Zo_cutOver_9 ⟨(by decide), (by decide)⟩) hS (fun r9 G9 H locs hp9 hG hS => ?_)
  have hG : zP E G H := hp9.2 ▸ hG
  refine lv_if_eq (tgt := 19) hx hb d_Zo_cutOver_12 (by decide) (fun c12 => ?_) (fun c12 => ?_)
  · have hna := hp9.1.z c12
    have hk0 : 0 < k8 := by
      rcases Nat.eq_zero_or_pos k8 with z | z
      · rcases hfi with q | q
        · exact absurd ⟨by rw [z]; exact hne, by rw [z]; exact q⟩ hna
        · exact absurd q (hk3 0 (by omega) hne)
      · exact z
    have hinj : k8 - 1 < os.length := by omega
    obtain ⟨ho1j, ho2j, ⟨btj, ftj, ho3j, ho4j, ho5j, ho6j, ho7j, ho8j, ho9j⟩, ⟨⟨⟨kl9j, ho10j⟩, -⟩, -⟩, -⟩ := hZR.2 _ (oe_mem hinj)
    rw [List.length_map] at ho10j
    have hcnj := ho6j.count
    refine lv_iload_n hx hb d_Zo_cutOver_19 rfl (lv_at hl 0 rfl) ?_
    refine lv_iconst (v := 1) hx hb d_Zo_cutOver_20 (by decide) ?_
    refine lv_isub hx hb d_Zo_cutOver_21 ?_
    refine zi_as (y := nI (k8 - 1)) (zi_sub (a := k8) (b := 1) (by omega)) ?_
    refine lv_istore_n (lv' := [(3, .int (nI (k8 - 1))), (2, .int (nI k8)), (0, .ref a), (1, .ref a1)]) hx hb d_Zo_cutOver_22 rfl hl (by decide) rfl (fun ls hl => ?_)
    refine lv_iload_n hx hb d_Zo_cutOver_23 rfl (lv_at hl 0 rfl) ?_
    refine lv_if_ge (tgt := 31) hx hb d_Zo_cutOver_24 (by decide) (fun c24 => ?_) (fun c24 => ?_)
    · have b24 : 0 ≤ (k8 - 1) := (nI_leI (a := 0) (b := (k8 - 1)) (by omega) (by omega)).mp c24
      refine lv_aload_n hx hb d_Zo_cutOver_31 rfl (lv_at hl 2 rfl) ?_
      refine zg_get (ci := 9) (C := "ZoneAnswers$Zone") (T := T_Zo) (N := 5) hx hb hts zi_Zo hown hK hG ha rfl 0 (by decide) (hts _ w_91) (fun _ h9 => h9) rfl d_Zo_cutOver_32 ?_
      refine lv_iload_n hx hb d_Zo_cutOver_35 rfl (lv_at hl 0 rfl) ?_
      have hGo36 := hG
      refine zk_q (va_runV (As := [.int (nI (k8 - 1))]) (rest := []) ⟨hx, hb, hml, hown, hts⟩ (t_AL_get l E G la dd os.length cap9 k9 f9 hla hd9 hc9 (by omega) (k8 - 1) hinj) (zcV 1 hts w_163 w_164 w_165 w_6 w_166 (by decide +kernel) ⟨Nat.le_of_ble_eq_true rfl, Nat.le_of_ble_eq_true rfl⟩) (zc_preV hbase hK hN hQ hG hS hla rfl) rfl rfl hl.1 rfl (lv_room (Nat.le_of_ble_eq_true rfl)) d_Zo_cutOver_36 ⟨(by decide), (by decide)⟩) hS (fun r36 G36 H locs hp36 hG hS => ?_)
      have hG : zP E G H := hp36.2 ▸ hG
      refine zr_some (a := oA (oe os (k8 - 1))) (hp36.1.trans ((hf9 (k8 - 1)).trans (oe_m hinj))) ?_
      refine zg_castY hx hb hown (hts _ w_177) hK hG ho1j rfl (zN.at hN (w := .castable "ZoneAnswers$Owner" "ZoneAnswers$Owner") (by decide +kernel)) d_Zo_cutOver_39 ?_
      refine zg_get (ci := 4) (C := "ZoneAnswers$Owner") (T := T_Ow) (N := 3) hx hb hts zi_Ow hown hK hG ho1j rfl 2 (by decide) (hts _ w_212) (fun _ h9 => h9) rfl d_Zo_cutOver_42 ?_
      rcases hq45 : oC (oe os (k8 - 1)) with _ | x45
      · refine W.eq (g2 := F0 m 45 ls [.null]) (by first | rfl | (rw [hq45]; rfl)) ?_
        refine lv_astoreN (lv' := [(4, .null), (3, .int (nI (k8 - 1))), (2, .int (nI k8)), (0, .ref a), (1, .ref a1)]) hx hb d_Zo_cutOver_45 hl (by decide) rfl (fun ls hl => ?_)
        refine lv_aloadN hx hb d_Zo_cutOver_47 (lv_at hl 0 rfl) ?_
        refine lv_ifnullN (tgt := 69) hx hb d_Zo_cutOver_49 (by decide) ?_
        refine lv_null hx hb d_Zo_cutOver_69 ?_
        exact hret none _ _ _ _ _ _ _ _ hr (Or.inl ⟨_, rfl⟩) (⟨⟨k8, hk1, hk2, hk3, by first | exact Or.inl ⟨hat.1, hat.2, Or.inr ⟨Or.inl hq45, rfl⟩⟩ | exact Or.inl ⟨hat.1, hat.2, Or.inr ⟨Or.inr ⟨ci, hci, hq45, hp58.1.z c61⟩, rfl⟩⟩ | exact Or.inr ⟨hk0, hna, Or.inr ⟨Or.inl hq45, rfl⟩⟩ | exact Or.inr ⟨hk0, hna, Or.inr ⟨Or.inr ⟨ci, hci, hq45, hp58.1.z c61⟩, rfl⟩⟩⟩, rfl⟩) hG hS (Nat.le_refl _) (Nat.le_refl _) d_Zo_cutOver_70
      · refine W.eq (g2 := F0 m 45 ls [.ref x45]) (by first | rfl | (rw [hq45]; rfl)) ?_
        obtain ⟨ci, hci, eci⟩ := hcu _ (oe_mem (by assumption)) _ hq45
        subst eci
        have hinc : ci < os.length := by omega
        obtain ⟨ho1c, ho2c, ⟨btc, ftc, ho3c, ho4c, ho5c, ho6c, ho7c, ho8c, ho9c⟩, ⟨⟨⟨kl9c, ho10c⟩, -⟩, -⟩, -⟩ := hZR.2 _ (oe_mem hinc)
        rw [List.length_map] at ho10c
        have hcnc := ho6c.count
        refine lv_astore (lv' := [(4, .ref (oA (oe os ci))), (3, .int (nI (k8 - 1))), (2, .int (nI k8)), (0, .ref a), (1, .ref a1)]) hx hb d_Zo_cutOver_45 hl (by decide) rfl (fun ls hl => ?_)
        refine lv_aload hx hb d_Zo_cutOver_47 (lv_at hl 0 rfl) ?_
        refine lv_ifnull hx hb d_Zo_cutOver_49 ?_
        refine lv_aload_n hx hb d_Zo_cutOver_52 rfl (lv_at hl 4 rfl) ?_
        refine lv_aload hx hb d_Zo_cutOver_53 (lv_at hl 0 rfl) ?_
        refine zg_get (ci := 4) (C := "ZoneAnswers$Owner") (T := T_Ow) (N := 3) hx hb hts zi_Ow hown hK hG ho1c rfl 0 (by decide) (hts _ w_206) (fun _ h9 => h9) rfl d_Zo_cutOver_55 ?_
        refine zk_i (va_runV (As := [.ref (oN (oe os ci))]) (rest := []) ⟨hx, hb, hml, hown, hts⟩ (t_Na_isAtOrBelow l E G a1 b1 ls1 f1 ha1 hb1 hf1 hg1 (oN (oe os ci)) btc (oM (oe os ci)) ftc ho3c ho4c ho5c ho6c) (zcV 1 hts w_649 w_650 w_651 w_7 w_652 (by decide +kernel) ⟨Nat.le_of_ble_eq_true rfl, Nat.le_of_ble_eq_true rfl⟩) (zc_preV hbase hK hN hQ hG hS ha1 rfl) rfl rfl hl.1 rfl (lv_room (Nat.le_of_ble_eq_true rfl)) d_Zo_cutOver_58 ⟨(by decide), (by decide)⟩) hS (fun r58 G58 H locs hp58 hG hS => ?_)
        have hG : zP E G H := hp58.2 ▸ hG
        refine lv_if_eq (tgt := 69) hx hb d_Zo_cutOver_61 (by decide) (fun c61 => ?_) (fun c61 => ?_)
        · refine lv_null hx hb d_Zo_cutOver_69 ?_
          exact hret none _ _ _ _ _ _ _ _ hr (Or.inl ⟨_, rfl⟩) (⟨⟨k8, hk1, hk2, hk3, by first | exact Or.inl ⟨hat.1, hat.2, Or.inr ⟨Or.inl hq45, rfl⟩⟩ | exact Or.inl ⟨hat.1, hat.2, Or.inr ⟨Or.inr ⟨ci, hci, hq45, hp58.1.z c61⟩, rfl⟩⟩ | exact Or.inr ⟨hk0, hna, Or.inr ⟨Or.inl hq45, rfl⟩⟩ | exact Or.inr ⟨hk0, hna, Or.inr ⟨Or.inr ⟨ci, hci, hq45, hp58.1.z c61⟩, rfl⟩⟩⟩, rfl⟩) hG hS (Nat.le_refl _) (Nat.le_refl _) d_Zo_cutOver_70
        · refine lv_aload hx hb d_Zo_cutOver_64 (lv_at hl 0 rfl) ?_
          refine lv_goto (tgt := 70) hx hb d_Zo_cutOver_66 (by decide) ?_
          exact hret (some (oA (oe os ci))) _ _ _ _ _ _ _ _ hr (Or.inl ⟨_, rfl⟩) (⟨⟨k8, hk1, hk2, hk3, by first | exact Or.inl ⟨hat.1, hat.2, Or.inl ⟨ci, hci, hq45, hp58.1.nz c61, rfl⟩⟩ | exact Or.inr ⟨hk0, hna, Or.inl ⟨ci, hci, hq45, hp58.1.nz c61, rfl⟩⟩⟩, rfl⟩) hG hS (Nat.le_refl _) (Nat.le_refl _) d_Zo_cutOver_70
    · have b24 : ¬ 0 ≤ (k8 - 1) := fun q => c24 ((nI_leI (a := 0) (b := (k8 - 1)) (by omega) (by omega)).mpr q)
      exact absurd (Nat.zero_le _) b24
  · have hat := hp9.1.nz c12
    have hat1 := hat.1
    have hink : k8 < os.length := by omega
    obtain ⟨ho1k, ho2k, ⟨btk, ftk, ho3k, ho4k, ho5k, ho6k, ho7k, ho8k, ho9k⟩, ⟨⟨⟨kl9k, ho10k⟩, -⟩, -⟩, -⟩ := hZR.2 _ (oe_mem hink)
    rw [List.length_map] at ho10k
    have hcnk := ho6k.count
    refine lv_iload_n hx hb d_Zo_cutOver_15 rfl (lv_at hl 0 rfl) ?_
    refine lv_goto (tgt := 22) hx hb d_Zo_cutOver_16 (by decide) ?_
    refine lv_istore_n (lv' := [(3, .int (nI k8)), (2, .int (nI k8)), (0, .ref a), (1, .ref a1)]) hx hb d_Zo_cutOver_22 rfl hl (by decide) rfl (fun ls hl => ?_)
    refine lv_iload_n hx hb d_Zo_cutOver_23 rfl (lv_at hl 0 rfl) ?_
    refine lv_if_ge (tgt := 31) hx hb d_Zo_cutOver_24 (by decide) (fun c24 => ?_) (fun c24 => ?_)
    · have b24 : 0 ≤ k8 := (nI_leI (a := 0) (b := k8) (by omega) (by omega)).mp c24
      refine lv_aload_n hx hb d_Zo_cutOver_31 rfl (lv_at hl 2 rfl) ?_
      refine zg_get (ci := 9) (C := "ZoneAnswers$Zone") (T := T_Zo) (N := 5) hx hb hts zi_Zo hown hK hG ha rfl 0 (by decide) (hts _ w_91) (fun _ h9 => h9) rfl d_Zo_cutOver_32 ?_
      refine lv_iload_n hx hb d_Zo_cutOver_35 rfl (lv_at hl 0 rfl) ?_
      have hGo36 := hG
      refine zk_q (va_runV (As := [.int (nI k8)]) (rest := []) ⟨hx, hb, hml, hown, hts⟩ (t_AL_get l E G la dd os.length cap9 k9 f9 hla hd9 hc9 (by omega) k8 hink) (zcV 1 hts w_163 w_164 w_165 w_6 w_166 (by decide +kernel) ⟨Nat.le_of_ble_eq_true rfl, Nat.le_of_ble_eq_true rfl⟩) (zc_preV hbase hK hN hQ hG hS hla rfl) rfl rfl hl.1 rfl (lv_room (Nat.le_of_ble_eq_true rfl)) d_Zo_cutOver_36 ⟨(by decide), (by decide)⟩) hS (fun r36 G36 H locs hp36 hG hS => ?_)
      have hG : zP E G H := hp36.2 ▸ hG
      refine zr_some (a := oA (oe os k8)) (hp36.1.trans ((hf9 k8).trans (oe_m hink))) ?_
      refine zg_castY hx hb hown (hts _ w_177) hK hG ho1k rfl (zN.at hN (w := .castable "ZoneAnswers$Owner" "ZoneAnswers$Owner") (by decide +kernel)) d_Zo_cutOver_39 ?_
      refine zg_get (ci := 4) (C := "ZoneAnswers$Owner") (T := T_Ow) (N := 3) hx hb hts zi_Ow hown hK hG ho1k rfl 2 (by decide) (hts _ w_212) (fun _ h9 => h9) rfl d_Zo_cutOver_42 ?_
      rcases hq45 : oC (oe os k8) with _ | x45
      · refine W.eq (g2 := F0 m 45 ls [.null]) (by first | rfl | (rw [hq45]; rfl)) ?_
        refine lv_astoreN (lv' := [(4, .null), (3, .int (nI k8)), (2, .int (nI k8)), (0, .ref a), (1, .ref a1)]) hx hb d_Zo_cutOver_45 hl (by decide) rfl (fun ls hl => ?_)
        refine lv_aloadN hx hb d_Zo_cutOver_47 (lv_at hl 0 rfl) ?_
        refine lv_ifnullN (tgt := 69) hx hb d_Zo_cutOver_49 (by decide) ?_
        refine lv_null hx hb d_Zo_cutOver_69 ?_
        exact hret none _ _ _ _ _ _ _ _ hr (Or.inl ⟨_, rfl⟩) (⟨⟨k8, hk1, hk2, hk3, by first | exact Or.inl ⟨hat.1, hat.2, Or.inr ⟨Or.inl hq45, rfl⟩⟩ | exact Or.inl ⟨hat.1, hat.2, Or.inr ⟨Or.inr ⟨ci, hci, hq45, hp58.1.z c61⟩, rfl⟩⟩ | exact Or.inr ⟨hk0, hna, Or.inr ⟨Or.inl hq45, rfl⟩⟩ | exact Or.inr ⟨hk0, hna, Or.inr ⟨Or.inr ⟨ci, hci, hq45, hp58.1.z c61⟩, rfl⟩⟩⟩, rfl⟩) hG hS (Nat.le_refl _) (Nat.le_refl _) d_Zo_cutOver_70
      · refine W.eq (g2 := F0 m 45 ls [.ref x45]) (by first | rfl | (rw [hq45]; rfl)) ?_
        obtain ⟨ci, hci, eci⟩ := hcu _ (oe_mem (by assumption)) _ hq45
        subst eci
        have hinc : ci < os.length := by omega
        obtain ⟨ho1c, ho2c, ⟨btc, ftc, ho3c, ho4c, ho5c, ho6c, ho7c, ho8c, ho9c⟩, ⟨⟨⟨kl9c, ho10c⟩, -⟩, -⟩, -⟩ := hZR.2 _ (oe_mem hinc)
        rw [List.length_map] at ho10c
        have hcnc := ho6c.count
        refine lv_astore (lv' := [(4, .ref (oA (oe os ci))), (3, .int (nI k8)), (2, .int (nI k8)), (0, .ref a), (1, .ref a1)]) hx hb d_Zo_cutOver_45 hl (by decide) rfl (fun ls hl => ?_)
        refine lv_aload hx hb d_Zo_cutOver_47 (lv_at hl 0 rfl) ?_
        refine lv_ifnull hx hb d_Zo_cutOver_49 ?_
        refine lv_aload_n hx hb d_Zo_cutOver_52 rfl (lv_at hl 4 rfl) ?_
        refine lv_aload hx hb d_Zo_cutOver_53 (lv_at hl 0 rfl) ?_
        refine zg_get (ci := 4) (C := "ZoneAnswers$Owner") (T := T_Ow) (N := 3) hx hb hts zi_Ow hown hK hG ho1c rfl 0 (by decide) (hts _ w_206) (fun _ h9 => h9) rfl d_Zo_cutOver_55 ?_
        refine zk_i (va_runV (As := [.ref (oN (oe os ci))]) (rest := []) ⟨hx, hb, hml, hown, hts⟩ (t_Na_isAtOrBelow l E G a1 b1 ls1 f1 ha1 hb1 hf1 hg1 (oN (oe os ci)) btc (oM (oe os ci)) ftc ho3c ho4c ho5c ho6c) (zcV 1 hts w_649 w_650 w_651 w_7 w_652 (by decide +kernel) ⟨Nat.le_of_ble_eq_true rfl, Nat.le_of_ble_eq_true rfl⟩) (zc_preV hbase hK hN hQ hG hS ha1 rfl) rfl rfl hl.1 rfl (lv_room (Nat.le_of_ble_eq_true rfl)) d_Zo_cutOver_58 ⟨(by decide), (by decide)⟩) hS (fun r58 G58 H locs hp58 hG hS => ?_)
        have hG : zP E G H := hp58.2 ▸ hG
        refine lv_if_eq (tgt := 69) hx hb d_Zo_cutOver_61 (by decide) (fun c61 => ?_) (fun c61 => ?_)
        · refine lv_null hx hb d_Zo_cutOver_69 ?_
          exact hret none _ _ _ _ _ _ _ _ hr (Or.inl ⟨_, rfl⟩) (⟨⟨k8, hk1, hk2, hk3, by first | exact Or.inl ⟨hat.1, hat.2, Or.inr ⟨Or.inl hq45, rfl⟩⟩ | exact Or.inl ⟨hat.1, hat.2, Or.inr ⟨Or.inr ⟨ci, hci, hq45, hp58.1.z c61⟩, rfl⟩⟩ | exact Or.inr ⟨hk0, hna, Or.inr ⟨Or.inl hq45, rfl⟩⟩ | exact Or.inr ⟨hk0, hna, Or.inr ⟨Or.inr ⟨ci, hci, hq45, hp58.1.z c61⟩, rfl⟩⟩⟩, rfl⟩) hG hS (Nat.le_refl _) (Nat.le_refl _) d_Zo_cutOver_70
        · refine lv_aload hx hb d_Zo_cutOver_64 (lv_at hl 0 rfl) ?_
          refine lv_goto (tgt := 70) hx hb d_Zo_cutOver_66 (by decide) ?_
          exact hret (some (oA (oe os ci))) _ _ _ _ _ _ _ _ hr (Or.inl ⟨_, rfl⟩) (⟨⟨k8, hk1, hk2, hk3, by first | exact Or.inl ⟨hat.1, hat.2, Or.inl ⟨ci, hci, hq45, hp58.1.nz c61, rfl⟩⟩ | exact Or.inr ⟨hk0, hna, Or.inl ⟨ci, hci, hq45, hp58.1.nz c61, rfl⟩⟩⟩, rfl⟩) hG hS (Nat.le_refl _) (Nat.le_refl _) d_Zo_cutOver_70
    · have b24 : ¬ 0 ≤ k8 := fun q => c24 ((nI_leI (a := 0) (b := k8) (by omega) (by omega)).mpr q)
      exact absurd (Nat.zero_le _) b24
