theorem zsh0 (x : Int32) : x >>> (0 &&& 31) = x := by
  apply Int32.toBitVec_inj.mp
  rw [Int32.toBitVec_shiftRight]
  simp
theorem w_1282 : (.fieldLink "ZoneAnswersModel" 8 "ZoneAnswersModel" "tape" "[B" : Cond) ∈ zw := zw_at 1282 (by decide +kernel) (by decide +kernel)
theorem w_1353 : (.constant "ZoneAnswersModel" 234 (65516 : Int32) : Cond) ∈ zw := zw_at 1353 (by decide +kernel) (by decide +kernel)
abbrev c_Mo_feed : ByteArray := prog_12_method_34_code
abbrev y_Mo_feed : MethodName := ⟨"ZoneAnswersModel", "feed", "(IIIII)I"⟩
theorem d_Mo_feed_0 : decode c_Mo_feed 0 = .ok (.aload_n 0, 1) := by decide +kernel
theorem d_Mo_feed_1 : decode c_Mo_feed 1 = .ok (.iconst 0, 1) := by decide +kernel
theorem d_Mo_feed_2 : decode c_Mo_feed 2 = .ok (.putfield 57, 3) := by decide +kernel
theorem d_Mo_feed_5 : decode c_Mo_feed 5 = .ok (.aload_n 0, 1) := by decide +kernel
theorem d_Mo_feed_6 : decode c_Mo_feed 6 = .ok (.getfield 231, 3) := by decide +kernel
theorem d_Mo_feed_9 : decode c_Mo_feed 9 = .ok (.ldc 234, 2) := by decide +kernel
theorem d_Mo_feed_11 : decode c_Mo_feed 11 = .ok (.if_icmp .le 9, 3) := by decide +kernel
theorem d_Mo_feed_14 : decode c_Mo_feed 14 = .ok (.aload_n 0, 1) := by decide +kernel
theorem d_Mo_feed_15 : decode c_Mo_feed 15 = .ok (.iconst 1, 1) := by decide +kernel
theorem d_Mo_feed_16 : decode c_Mo_feed 16 = .ok (.invokevirtual 235, 3) := by decide +kernel
theorem d_Mo_feed_19 : decode c_Mo_feed 19 = .ok (.ireturn, 1) := by decide +kernel
theorem d_Mo_feed_20 : decode c_Mo_feed 20 = .ok (.iconst 0, 1) := by decide +kernel
theorem d_Mo_feed_21 : decode c_Mo_feed 21 = .ok (.istore 6, 2) := by decide +kernel
theorem d_Mo_feed_23 : decode c_Mo_feed 23 = .ok (.iload 6, 2) := by decide +kernel
theorem d_Mo_feed_25 : decode c_Mo_feed 25 = .ok (.bipush 20, 2) := by decide +kernel
theorem d_Mo_feed_27 : decode c_Mo_feed 27 = .ok (.if_icmp .ge 82, 3) := by decide +kernel
theorem d_Mo_feed_30 : decode c_Mo_feed 30 = .ok (.iload 6, 2) := by decide +kernel
theorem d_Mo_feed_32 : decode c_Mo_feed 32 = .ok (.iconst 4, 1) := by decide +kernel
theorem d_Mo_feed_33 : decode c_Mo_feed 33 = .ok (.if_icmp .ge 7, 3) := by decide +kernel
theorem d_Mo_feed_36 : decode c_Mo_feed 36 = .ok (.iload_n 1, 1) := by decide +kernel
theorem d_Mo_feed_37 : decode c_Mo_feed 37 = .ok (.goto 39, 3) := by decide +kernel
theorem d_Mo_feed_40 : decode c_Mo_feed 40 = .ok (.iload 6, 2) := by decide +kernel
theorem d_Mo_feed_42 : decode c_Mo_feed 42 = .ok (.bipush 8, 2) := by decide +kernel
theorem d_Mo_feed_44 : decode c_Mo_feed 44 = .ok (.if_icmp .ge 7, 3) := by decide +kernel
theorem d_Mo_feed_47 : decode c_Mo_feed 47 = .ok (.iload_n 2, 1) := by decide +kernel
theorem d_Mo_feed_48 : decode c_Mo_feed 48 = .ok (.goto 28, 3) := by decide +kernel
theorem d_Mo_feed_51 : decode c_Mo_feed 51 = .ok (.iload 6, 2) := by decide +kernel
theorem d_Mo_feed_53 : decode c_Mo_feed 53 = .ok (.bipush 12, 2) := by decide +kernel
theorem d_Mo_feed_55 : decode c_Mo_feed 55 = .ok (.if_icmp .ge 7, 3) := by decide +kernel
theorem d_Mo_feed_58 : decode c_Mo_feed 58 = .ok (.iload_n 3, 1) := by decide +kernel
theorem d_Mo_feed_59 : decode c_Mo_feed 59 = .ok (.goto 17, 3) := by decide +kernel
theorem d_Mo_feed_62 : decode c_Mo_feed 62 = .ok (.iload 6, 2) := by decide +kernel
theorem d_Mo_feed_64 : decode c_Mo_feed 64 = .ok (.bipush 16, 2) := by decide +kernel
theorem d_Mo_feed_66 : decode c_Mo_feed 66 = .ok (.if_icmp .ge 8, 3) := by decide +kernel
theorem d_Mo_feed_69 : decode c_Mo_feed 69 = .ok (.iload 4, 2) := by decide +kernel
theorem d_Mo_feed_71 : decode c_Mo_feed 71 = .ok (.goto 5, 3) := by decide +kernel
theorem d_Mo_feed_74 : decode c_Mo_feed 74 = .ok (.iload 5, 2) := by decide +kernel
theorem d_Mo_feed_76 : decode c_Mo_feed 76 = .ok (.istore 7, 2) := by decide +kernel
theorem d_Mo_feed_78 : decode c_Mo_feed 78 = .ok (.aload_n 0, 1) := by decide +kernel
theorem d_Mo_feed_79 : decode c_Mo_feed 79 = .ok (.getfield 8, 3) := by decide +kernel
theorem d_Mo_feed_82 : decode c_Mo_feed 82 = .ok (.aload_n 0, 1) := by decide +kernel
theorem d_Mo_feed_83 : decode c_Mo_feed 83 = .ok (.getfield 231, 3) := by decide +kernel
theorem d_Mo_feed_86 : decode c_Mo_feed 86 = .ok (.iload 6, 2) := by decide +kernel
theorem d_Mo_feed_88 : decode c_Mo_feed 88 = .ok (.iadd, 1) := by decide +kernel
theorem d_Mo_feed_89 : decode c_Mo_feed 89 = .ok (.iload 7, 2) := by decide +kernel
theorem d_Mo_feed_91 : decode c_Mo_feed 91 = .ok (.bipush 8, 2) := by decide +kernel
theorem d_Mo_feed_93 : decode c_Mo_feed 93 = .ok (.iconst 3, 1) := by decide +kernel
theorem d_Mo_feed_94 : decode c_Mo_feed 94 = .ok (.iload 6, 2) := by decide +kernel
theorem d_Mo_feed_96 : decode c_Mo_feed 96 = .ok (.iconst 4, 1) := by decide +kernel
theorem d_Mo_feed_97 : decode c_Mo_feed 97 = .ok (.irem, 1) := by decide +kernel
theorem d_Mo_feed_98 : decode c_Mo_feed 98 = .ok (.isub, 1) := by decide +kernel
theorem d_Mo_feed_99 : decode c_Mo_feed 99 = .ok (.imul, 1) := by decide +kernel
theorem d_Mo_feed_100 : decode c_Mo_feed 100 = .ok (.ishr, 1) := by decide +kernel
theorem d_Mo_feed_101 : decode c_Mo_feed 101 = .ok (.i2b, 1) := by decide +kernel
theorem d_Mo_feed_102 : decode c_Mo_feed 102 = .ok (.bastore, 1) := by decide +kernel
theorem d_Mo_feed_103 : decode c_Mo_feed 103 = .ok (.iinc 6 1, 3) := by decide +kernel
theorem d_Mo_feed_106 : decode c_Mo_feed 106 = .ok (.goto (-83), 3) := by decide +kernel
theorem d_Mo_feed_109 : decode c_Mo_feed 109 = .ok (.aload_n 0, 1) := by decide +kernel
theorem d_Mo_feed_110 : decode c_Mo_feed 110 = .ok (.dup, 1) := by decide +kernel
theorem d_Mo_feed_111 : decode c_Mo_feed 111 = .ok (.getfield 231, 3) := by decide +kernel
theorem d_Mo_feed_114 : decode c_Mo_feed 114 = .ok (.bipush 20, 2) := by decide +kernel
theorem d_Mo_feed_116 : decode c_Mo_feed 116 = .ok (.iadd, 1) := by decide +kernel
theorem d_Mo_feed_117 : decode c_Mo_feed 117 = .ok (.putfield 231, 3) := by decide +kernel
theorem d_Mo_feed_120 : decode c_Mo_feed 120 = .ok (.aload_n 0, 1) := by decide +kernel
theorem d_Mo_feed_121 : decode c_Mo_feed 121 = .ok (.getfield 231, 3) := by decide +kernel
theorem d_Mo_feed_124 : decode c_Mo_feed 124 = .ok (.ireturn, 1) := by decide +kernel
abbrev rm_Mo_feed : Room := { frames := 1, cells := 0, slots := 0, locals := 24 }
set_option maxHeartbeats 4000000 in
set_option maxRecDepth 100000 in
/-- feed(..), of the reference -/
theorem t_Mo_feed (l : Launch) (E : zc_E) (G : zg_G) (tl a m1 m3 m4 m6 m7 m8 m9 m10 m11 m12 m15 m18 : Nat) (th m5 m13 m14 m16 m17 : Int32) (m19 m20 : Value) (ha : G a = some (.inr (11, [.int th, .ref m1, .int (nI tl), .ref m3, .ref m4, .int m5, .ref m6, .ref m7, .ref m8, .ref m9, .ref m10, .ref m11, .ref m12, .int m13, .int m14, .ref m15, .int m16, .int m17, .ref m18, m19, m20]))) (fm : Nat → Int32) (hm1 : G m1 = some (.inl (E.2.1 0, 65536, .inl fm))) (hft : sb_Fit fm) (htl : tl ≤ 65536) (x1 x2 x3 x4 x5 : Int32) : zMi l E y_Mo_feed c_Mo_feed 8 (some .int) rm_Mo_feed [.ref a, .int x1, .int x2, .int x3, .int x4, .int x5] G (fun (r : Int32) (G2 : zg_G) => (65516 < tl ∧ r = 0 ∧ zx (fun q => q = a ∨ q = m1) G G2 ∧ G2 a = some (.inr (11, [.int 1, .ref m1, .int (nI tl), .ref m3, .ref m4, .int m5, .ref m6, .ref m7, .ref m8, .ref m9, .ref m10, .ref m11, .ref m12, .int m13, .int m14, .ref m15, .int m16, .int m17, .ref m18, m19, m20])) ∧ G2 m1 = some (.inl (E.2.1 0, 65536, .inl fm))) ∨ (tl ≤ 65516 ∧ r = nI (tl + 20) ∧ zx (fun q => q = a ∨ q = m1) G G2 ∧ G2 a = some (.inr (11, [.int 0, .ref m1, .int (nI (tl + 20)), .ref m3, .ref m4, .int m5, .ref m6, .ref m7, .ref m8, .ref m9, .ref m10, .ref m11, .ref m12, .int m13, .int m14, .ref m15, .int m16, .int m17, .ref m18, m19, m20])) ∧ G2 m1 = some (.inl (E.2.1 0, 65536, .inl (zw4 (zw4 (zw4 (zw4 (zw4 (fm) tl x1) (tl + 4) x2) (tl + 8) x3) (tl + 12) x4) (tl + 16) x5))))) := by
  refine zMi.of (by decide) (Nat.le_of_ble_eq_true rfl) ?_
  intro p e s m args below meth c Q hZ hG hret ls hl
  obtain ⟨hx, hb, hr, hts, hown, hlocks, hml, hnm, hbase, hK, hN, hQ⟩ := hZ
  have hl : lv_has ls 8 [(0, .ref a), (1, .int x1), (2, .int x2), (3, .int x3), (4, .int x4), (5, .int x5)] := hl
  have hS : zg_S (zc_b E) s.heap s.heap [] := va_S.rf
  have hx0 : zx (fun q => q = a ∨ q = m1) G G := zx.rf
  refine lv_aload_n hx hb d_Mo_feed_0 rfl (lv_at hl 0 rfl) ?_
  refine lv_iconst (v := 0) hx hb d_Mo_feed_1 (by decide) ?_
  refine zg_put (ci := 11) (v := .int 0) (ty := .int) (C := "ZoneAnswersModel") (T := T_Mo) (N := 21) hx hb hts zi_Mo t_Mo t_Mo_ok n_Mo hown hK hG hS ha rfl 0 (by decide) (hts _ w_1281) (fun _ h9 => h9) rfl (by decide +kernel) rfl rfl (Nat.le_of_ble_eq_true rfl) d_Mo_feed_2 (fun H locs hG hS => ?_)
  obtain ⟨G1, eG1⟩ : ∃ z : zg_G, z = zg_up G a (.inr (11, [.int 0, .ref m1, .int (nI tl), .ref m3, .ref m4, .int m5, .ref m6, .ref m7, .ref m8, .ref m9, .ref m10, .ref m11, .ref m12, .int m13, .int m14, .ref m15, .int m16, .int m17, .ref m18, m19, m20])) := ⟨_, rfl⟩
  have hG : zP E G1 H := by rw [eG1]; exact hG
  have hx2 : zx (fun q => q = a ∨ q = m1) G G1 := hx0.tr (by rw [eG1]; exact zx.up (Or.inl rfl))
  have k3 : G1 a = some (.inr (11, [.int 0, .ref m1, .int (nI tl), .ref m3, .ref m4, .int m5, .ref m6, .ref m7, .ref m8, .ref m9, .ref m10, .ref m11, .ref m12, .int m13, .int m14, .ref m15, .int m16, .int m17, .ref m18, m19, m20])) := by rw [eG1]; exact zg_up_self _ _ _
  have k4 : G1 m1 = some (.inl (E.2.1 0, 65536, .inl fm)) := by rw [eG1, zg_up_ne (zg_ne hm1 ha (by intro h; simp at h))]; exact hm1
  refine lv_aload_n hx hb d_Mo_feed_5 rfl (lv_at hl 0 rfl) ?_
  refine zg_get (ci := 11) (C := "ZoneAnswersModel") (T := T_Mo) (N := 21) hx hb hts zi_Mo hown hK hG k3 rfl 2 (by decide) (hts _ w_1283) (fun _ h9 => h9) rfl d_Mo_feed_6 ?_
  refine lv_ldc hx hb hown (hts _ w_1353) d_Mo_feed_9 ?_
  refine lv_icmp_le (tgt := 20) hx hb d_Mo_feed_11 (by decide) (fun c11 => ?_) (fun c11 => ?_)
  · have b11 : tl ≤ 65516 := (nI_leI (a := tl) (b := 65516) (by omega) (by omega)).mp c11
    refine lv_iconst (v := 0) hx hb d_Mo_feed_20 (by decide) ?_
    refine lv_istore (lv' := [(6, .int 0), (0, .ref a), (1, .int x1), (2, .int x2), (3, .int x3), (4, .int x4), (5, .int x5)]) hx hb d_Mo_feed_21 hl (by decide) rfl (fun ls hl => ?_)
    refine lv_iload hx hb d_Mo_feed_23 (lv_at hl 0 rfl) ?_
    refine lv_bipush (v := 20) hx hb d_Mo_feed_25 (by decide) ?_
    refine lv_icmp_ge (tgt := 109) hx hb d_Mo_feed_27 (by decide) (fun c27 => ?_) (fun c27 => ?_)
    · have b27 : 20 ≤ 0 := (nI_leI (a := 20) (b := 0) (by omega) (by omega)).mp c27
      exact absurd b27 (by decide)
    · have b27 : ¬ 20 ≤ 0 := fun q => c27 ((nI_leI (a := 20) (b := 0) (by omega) (by omega)).mpr q)
      refine lv_iload hx hb d_Mo_feed_30 (lv_at hl 0 rfl) ?_
      refine lv_iconst (v := 4) hx hb d_Mo_feed_32 (by decide) ?_
      refine lv_icmp_ge (tgt := 40) hx hb d_Mo_feed_33 (by decide) (fun c33 => ?_) (fun c33 => ?_)
      · have b33 : 4 ≤ 0 := (nI_leI (a := 4) (b := 0) (by omega) (by omega)).mp c33
        exact absurd b33 (by decide)
      · have b33 : ¬ 4 ≤ 0 := fun q => c33 ((nI_leI (a := 4) (b := 0) (by omega) (by omega)).mpr q)
        refine lv_iload_n hx hb d_Mo_feed_36 rfl (lv_at hl 2 rfl) ?_
        refine lv_goto (tgt := 76) hx hb d_Mo_feed_37 (by decide) ?_
        refine lv_istore (lv' := [(7, .int x1), (6, .int 0), (0, .ref a), (1, .int x1), (2, .int x2), (3, .int x3), (4, .int x4), (5, .int x5)]) hx hb d_Mo_feed_76 hl (by decide) rfl (fun ls hl => ?_)
        refine lv_aload_n hx hb d_Mo_feed_78 rfl (lv_at hl 2 rfl) ?_
        refine zg_get (ci := 11) (C := "ZoneAnswersModel") (T := T_Mo) (N := 21) hx hb hts zi_Mo hown hK hG k3 rfl 1 (by decide) (hts _ w_1282) (fun _ h9 => h9) rfl d_Mo_feed_79 ?_
        refine lv_aload_n hx hb d_Mo_feed_82 rfl (lv_at hl 2 rfl) ?_
        refine zg_get (ci := 11) (C := "ZoneAnswersModel") (T := T_Mo) (N := 21) hx hb hts zi_Mo hown hK hG k3 rfl 2 (by decide) (hts _ w_1283) (fun _ h9 => h9) rfl d_Mo_feed_83 ?_
        refine lv_iload hx hb d_Mo_feed_86 (lv_at hl 1 rfl) ?_
        refine lv_iadd hx hb d_Mo_feed_88 ?_
        refine zi_as (y := nI (tl + 0)) (nI_add tl 0) ?_
        refine lv_iload hx hb d_Mo_feed_89 (lv_at hl 0 rfl) ?_
        refine lv_bipush (v := 8) hx hb d_Mo_feed_91 (by decide) ?_
        refine lv_iconst (v := 3) hx hb d_Mo_feed_93 (by decide) ?_
        refine lv_iload hx hb d_Mo_feed_94 (lv_at hl 1 rfl) ?_
        refine lv_iconst (v := 4) hx hb d_Mo_feed_96 (by decide) ?_
        refine lv_irem hx hb d_Mo_feed_97 (by decide) ?_
        refine zi_as (y := 0) (by decide) ?_
        refine lv_isub hx hb d_Mo_feed_98 ?_
        refine zi_as (y := 3) (by decide) ?_
        refine lv_imul hx hb d_Mo_feed_99 ?_
        refine zi_as (y := 24) (by decide) ?_
        refine lv_ishr hx hb d_Mo_feed_100 ?_
        refine lv_i2b hx hb d_Mo_feed_101 rfl ?_
        refine zg_bast hx hb hK hG hS 0 k4 rfl (vp_in_nI (by omega) (by omega)) d_Mo_feed_102 (fun H locs hG hS => ?_)
        rw [zi_n (tl + 0) (by omega)] at hG
        obtain ⟨G5, eG5⟩ : ∃ z : zg_G, z = zg_up G1 m1 (.inl (E.2.1 0, 65536, .inl (upd fm (tl + 0) (vp_nar .byte ((x1 >>> (24 &&& 31)).toInt8.toInt32))))) := ⟨_, rfl⟩
        have hG : zP E G5 H := by rw [eG5]; exact hG
        have hx6 : zx (fun q => q = a ∨ q = m1) G G5 := hx2.tr (by rw [eG5]; exact zx.up (Or.inr rfl))
        have k7 : G5 a = some (.inr (11, [.int 0, .ref m1, .int (nI tl), .ref m3, .ref m4, .int m5, .ref m6, .ref m7, .ref m8, .ref m9, .ref m10, .ref m11, .ref m12, .int m13, .int m14, .ref m15, .int m16, .int m17, .ref m18, m19, m20])) := by rw [eG5, zg_up_ne (zg_ne k3 k4 (by intro h; simp at h))]; exact k3
        have k8 : G5 m1 = some (.inl (E.2.1 0, 65536, .inl (upd fm (tl + 0) (vp_nar .byte ((x1 >>> (24 &&& 31)).toInt8.toInt32))))) := by rw [eG5]; exact zg_up_self _ _ _
        refine lv_iinc (v := nI 1) (lv' := [(6, .int (nI 1)), (7, .int x1), (0, .ref a), (1, .int x1), (2, .int x2), (3, .int x3), (4, .int x4), (5, .int x5)]) hx hb d_Mo_feed_103 hl (k := 1) rfl (by decide) (by decide) rfl (fun ls hl => ?_)
        refine lv_goto (tgt := 23) hx hb d_Mo_feed_106 (by decide) ?_
        refine lv_iload hx hb d_Mo_feed_23 (lv_at hl 0 rfl) ?_
        refine lv_bipush (v := 20) hx hb d_Mo_feed_25 (by decide) ?_
        refine lv_icmp_ge (tgt := 109) hx hb d_Mo_feed_27 (by decide) (fun c27 => ?_) (fun c27 => ?_)
        · have b27 : 20 ≤ 1 := (nI_leI (a := 20) (b := 1) (by omega) (by omega)).mp c27
          exact absurd b27 (by decide)
        · have b27 : ¬ 20 ≤ 1 := fun q => c27 ((nI_leI (a := 20) (b := 1) (by omega) (by omega)).mpr q)
          refine lv_iload hx hb d_Mo_feed_30 (lv_at hl 0 rfl) ?_
          refine lv_iconst (v := 4) hx hb d_Mo_feed_32 (by decide) ?_
          refine lv_icmp_ge (tgt := 40) hx hb d_Mo_feed_33 (by decide) (fun c33 => ?_) (fun c33 => ?_)
          · have b33 : 4 ≤ 1 := (nI_leI (a := 4) (b := 1) (by omega) (by omega)).mp c33
            exact absurd b33 (by decide)
          · have b33 : ¬ 4 ≤ 1 := fun q => c33 ((nI_leI (a := 4) (b := 1) (by omega) (by omega)).mpr q)
            refine lv_iload_n hx hb d_Mo_feed_36 rfl (lv_at hl 3 rfl) ?_
            refine lv_goto (tgt := 76) hx hb d_Mo_feed_37 (by decide) ?_
            refine lv_istore (lv' := [(7, .int x1), (6, .int (nI 1)), (0, .ref a), (1, .int x1), (2, .int x2), (3, .int x3), (4, .int x4), (5, .int x5)]) hx hb d_Mo_feed_76 hl (by decide) rfl (fun ls hl => ?_)
            refine lv_aload_n hx hb d_Mo_feed_78 rfl (lv_at hl 2 rfl) ?_
            refine zg_get (ci := 11) (C := "ZoneAnswersModel") (T := T_Mo) (N := 21) hx hb hts zi_Mo hown hK hG k7 rfl 1 (by decide) (hts _ w_1282) (fun _ h9 => h9) rfl d_Mo_feed_79 ?_
            refine lv_aload_n hx hb d_Mo_feed_82 rfl (lv_at hl 2 rfl) ?_
            refine zg_get (ci := 11) (C := "ZoneAnswersModel") (T := T_Mo) (N := 21) hx hb hts zi_Mo hown hK hG k7 rfl 2 (by decide) (hts _ w_1283) (fun _ h9 => h9) rfl d_Mo_feed_83 ?_
            refine lv_iload hx hb d_Mo_feed_86 (lv_at hl 1 rfl) ?_
            refine lv_iadd hx hb d_Mo_feed_88 ?_
            refine zi_as (y := nI (tl + 1)) (nI_add tl 1) ?_
            refine lv_iload hx hb d_Mo_feed_89 (lv_at hl 0 rfl) ?_
            refine lv_bipush (v := 8) hx hb d_Mo_feed_91 (by decide) ?_
            refine lv_iconst (v := 3) hx hb d_Mo_feed_93 (by decide) ?_
            refine lv_iload hx hb d_Mo_feed_94 (lv_at hl 1 rfl) ?_
            refine lv_iconst (v := 4) hx hb d_Mo_feed_96 (by decide) ?_
            refine lv_irem hx hb d_Mo_feed_97 (by decide) ?_
            refine zi_as (y := 1) (by decide) ?_
            refine lv_isub hx hb d_Mo_feed_98 ?_
            refine zi_as (y := 2) (by decide) ?_
            refine lv_imul hx hb d_Mo_feed_99 ?_
            refine zi_as (y := 16) (by decide) ?_
            refine lv_ishr hx hb d_Mo_feed_100 ?_
            refine lv_i2b hx hb d_Mo_feed_101 rfl ?_
            refine zg_bast hx hb hK hG hS 0 k8 rfl (vp_in_nI (by omega) (by omega)) d_Mo_feed_102 (fun H locs hG hS => ?_)
            rw [zi_n (tl + 1) (by omega)] at hG
            obtain ⟨G9, eG9⟩ : ∃ z : zg_G, z = zg_up G5 m1 (.inl (E.2.1 0, 65536, .inl (upd (upd fm (tl + 0) (vp_nar .byte ((x1 >>> (24 &&& 31)).toInt8.toInt32))) (tl + 1) (vp_nar .byte ((x1 >>> (16 &&& 31)).toInt8.toInt32))))) := ⟨_, rfl⟩
            have hG : zP E G9 H := by rw [eG9]; exact hG
            have hx10 : zx (fun q => q = a ∨ q = m1) G G9 := hx6.tr (by rw [eG9]; exact zx.up (Or.inr rfl))
            have k11 : G9 a = some (.inr (11, [.int 0, .ref m1, .int (nI tl), .ref m3, .ref m4, .int m5, .ref m6, .ref m7, .ref m8, .ref m9, .ref m10, .ref m11, .ref m12, .int m13, .int m14, .ref m15, .int m16, .int m17, .ref m18, m19, m20])) := by rw [eG9, zg_up_ne (zg_ne k7 k8 (by intro h; simp at h))]; exact k7
            have k12 : G9 m1 = some (.inl (E.2.1 0, 65536, .inl (upd (upd fm (tl + 0) (vp_nar .byte ((x1 >>> (24 &&& 31)).toInt8.toInt32))) (tl + 1) (vp_nar .byte ((x1 >>> (16 &&& 31)).toInt8.toInt32))))) := by rw [eG9]; exact zg_up_self _ _ _
            refine lv_iinc (v := nI 2) (lv' := [(6, .int (nI 2)), (7, .int x1), (0, .ref a), (1, .int x1), (2, .int x2), (3, .int x3), (4, .int x4), (5, .int x5)]) hx hb d_Mo_feed_103 hl (k := 1) rfl (by decide) (by decide) rfl (fun ls hl => ?_)
            refine lv_goto (tgt := 23) hx hb d_Mo_feed_106 (by decide) ?_
            refine lv_iload hx hb d_Mo_feed_23 (lv_at hl 0 rfl) ?_
            refine lv_bipush (v := 20) hx hb d_Mo_feed_25 (by decide) ?_
            refine lv_icmp_ge (tgt := 109) hx hb d_Mo_feed_27 (by decide) (fun c27 => ?_) (fun c27 => ?_)
            · have b27 : 20 ≤ 2 := (nI_leI (a := 20) (b := 2) (by omega) (by omega)).mp c27
              exact absurd b27 (by decide)
            · have b27 : ¬ 20 ≤ 2 := fun q => c27 ((nI_leI (a := 20) (b := 2) (by omega) (by omega)).mpr q)
              refine lv_iload hx hb d_Mo_feed_30 (lv_at hl 0 rfl) ?_
              refine lv_iconst (v := 4) hx hb d_Mo_feed_32 (by decide) ?_
              refine lv_icmp_ge (tgt := 40) hx hb d_Mo_feed_33 (by decide) (fun c33 => ?_) (fun c33 => ?_)
              · have b33 : 4 ≤ 2 := (nI_leI (a := 4) (b := 2) (by omega) (by omega)).mp c33
                exact absurd b33 (by decide)
              · have b33 : ¬ 4 ≤ 2 := fun q => c33 ((nI_leI (a := 4) (b := 2) (by omega) (by omega)).mpr q)
                refine lv_iload_n hx hb d_Mo_feed_36 rfl (lv_at hl 3 rfl) ?_
                refine lv_goto (tgt := 76) hx hb d_Mo_feed_37 (by decide) ?_
                refine lv_istore (lv' := [(7, .int x1), (6, .int (nI 2)), (0, .ref a), (1, .int x1), (2, .int x2), (3, .int x3), (4, .int x4), (5, .int x5)]) hx hb d_Mo_feed_76 hl (by decide) rfl (fun ls hl => ?_)
                refine lv_aload_n hx hb d_Mo_feed_78 rfl (lv_at hl 2 rfl) ?_
                refine zg_get (ci := 11) (C := "ZoneAnswersModel") (T := T_Mo) (N := 21) hx hb hts zi_Mo hown hK hG k11 rfl 1 (by decide) (hts _ w_1282) (fun _ h9 => h9) rfl d_Mo_feed_79 ?_
                refine lv_aload_n hx hb d_Mo_feed_82 rfl (lv_at hl 2 rfl) ?_
                refine zg_get (ci := 11) (C := "ZoneAnswersModel") (T := T_Mo) (N := 21) hx hb hts zi_Mo hown hK hG k11 rfl 2 (by decide) (hts _ w_1283) (fun _ h9 => h9) rfl d_Mo_feed_83 ?_
                refine lv_iload hx hb d_Mo_feed_86 (lv_at hl 1 rfl) ?_
                refine lv_iadd hx hb d_Mo_feed_88 ?_
                refine zi_as (y := nI (tl + 2)) (nI_add tl 2) ?_
                refine lv_iload hx hb d_Mo_feed_89 (lv_at hl 0 rfl) ?_
                refine lv_bipush (v := 8) hx hb d_Mo_feed_91 (by decide) ?_
                refine lv_iconst (v := 3) hx hb d_Mo_feed_93 (by decide) ?_
                refine lv_iload hx hb d_Mo_feed_94 (lv_at hl 1 rfl) ?_
                refine lv_iconst (v := 4) hx hb d_Mo_feed_96 (by decide) ?_
                refine lv_irem hx hb d_Mo_feed_97 (by decide) ?_
                refine zi_as (y := 2) (by decide) ?_
                refine lv_isub hx hb d_Mo_feed_98 ?_
                refine zi_as (y := 1) (by decide) ?_
                refine lv_imul hx hb d_Mo_feed_99 ?_
                refine zi_as (y := 8) (by decide) ?_
                refine lv_ishr hx hb d_Mo_feed_100 ?_
                refine lv_i2b hx hb d_Mo_feed_101 rfl ?_
                refine zg_bast hx hb hK hG hS 0 k12 rfl (vp_in_nI (by omega) (by omega)) d_Mo_feed_102 (fun H locs hG hS => ?_)
                rw [zi_n (tl + 2) (by omega)] at hG
                obtain ⟨G13, eG13⟩ : ∃ z : zg_G, z = zg_up G9 m1 (.inl (E.2.1 0, 65536, .inl (upd (upd (upd fm (tl + 0) (vp_nar .byte ((x1 >>> (24 &&& 31)).toInt8.toInt32))) (tl + 1) (vp_nar .byte ((x1 >>> (16 &&& 31)).toInt8.toInt32))) (tl + 2) (vp_nar .byte ((x1 >>> (8 &&& 31)).toInt8.toInt32))))) := ⟨_, rfl⟩
                have hG : zP E G13 H := by rw [eG13]; exact hG
                have hx14 : zx (fun q => q = a ∨ q = m1) G G13 := hx10.tr (by rw [eG13]; exact zx.up (Or.inr rfl))
                have k15 : G13 a = some (.inr (11, [.int 0, .ref m1, .int (nI tl), .ref m3, .ref m4, .int m5, .ref m6, .ref m7, .ref m8, .ref m9, .ref m10, .ref m11, .ref m12, .int m13, .int m14, .ref m15, .int m16, .int m17, .ref m18, m19, m20])) := by rw [eG13, zg_up_ne (zg_ne k11 k12 (by intro h; simp at h))]; exact k11
                have k16 : G13 m1 = some (.inl (E.2.1 0, 65536, .inl (upd (upd (upd fm (tl + 0) (vp_nar .byte ((x1 >>> (24 &&& 31)).toInt8.toInt32))) (tl + 1) (vp_nar .byte ((x1 >>> (16 &&& 31)).toInt8.toInt32))) (tl + 2) (vp_nar .byte ((x1 >>> (8 &&& 31)).toInt8.toInt32))))) := by rw [eG13]; exact zg_up_self _ _ _
                refine lv_iinc (v := nI 3) (lv' := [(6, .int (nI 3)), (7, .int x1), (0, .ref a), (1, .int x1), (2, .int x2), (3, .int x3), (4, .int x4), (5, .int x5)]) hx hb d_Mo_feed_103 hl (k := 1) rfl (by decide) (by decide) rfl (fun ls hl => ?_)
                refine lv_goto (tgt := 23) hx hb d_Mo_feed_106 (by decide) ?_
                refine lv_iload hx hb d_Mo_feed_23 (lv_at hl 0 rfl) ?_
                refine lv_bipush (v := 20) hx hb d_Mo_feed_25 (by decide) ?_
                refine lv_icmp_ge (tgt := 109) hx hb d_Mo_feed_27 (by decide) (fun c27 => ?_) (fun c27 => ?_)
                · have b27 : 20 ≤ 3 := (nI_leI (a := 20) (b := 3) (by omega) (by omega)).mp c27
                  exact absurd b27 (by decide)
                · have b27 : ¬ 20 ≤ 3 := fun q => c27 ((nI_leI (a := 20) (b := 3) (by omega) (by omega)).mpr q)
                  refine lv_iload hx hb d_Mo_feed_30 (lv_at hl 0 rfl) ?_
                  refine lv_iconst (v := 4) hx hb d_Mo_feed_32 (by decide) ?_
                  refine lv_icmp_ge (tgt := 40) hx hb d_Mo_feed_33 (by decide) (fun c33 => ?_) (fun c33 => ?_)
                  · have b33 : 4 ≤ 3 := (nI_leI (a := 4) (b := 3) (by omega) (by omega)).mp c33
                    exact absurd b33 (by decide)
                  · have b33 : ¬ 4 ≤ 3 := fun q => c33 ((nI_leI (a := 4) (b := 3) (by omega) (by omega)).mpr q)
                    refine lv_iload_n hx hb d_Mo_feed_36 rfl (lv_at hl 3 rfl) ?_
                    refine lv_goto (tgt := 76) hx hb d_Mo_feed_37 (by decide) ?_
                    refine lv_istore (lv' := [(7, .int x1), (6, .int (nI 3)), (0, .ref a), (1, .int x1), (2, .int x2), (3, .int x3), (4, .int x4), (5, .int x5)]) hx hb d_Mo_feed_76 hl (by decide) rfl (fun ls hl => ?_)
                    refine lv_aload_n hx hb d_Mo_feed_78 rfl (lv_at hl 2 rfl) ?_
                    refine zg_get (ci := 11) (C := "ZoneAnswersModel") (T := T_Mo) (N := 21) hx hb hts zi_Mo hown hK hG k15 rfl 1 (by decide) (hts _ w_1282) (fun _ h9 => h9) rfl d_Mo_feed_79 ?_
                    refine lv_aload_n hx hb d_Mo_feed_82 rfl (lv_at hl 2 rfl) ?_
                    refine zg_get (ci := 11) (C := "ZoneAnswersModel") (T := T_Mo) (N := 21) hx hb hts zi_Mo hown hK hG k15 rfl 2 (by decide) (hts _ w_1283) (fun _ h9 => h9) rfl d_Mo_feed_83 ?_
                    refine lv_iload hx hb d_Mo_feed_86 (lv_at hl 1 rfl) ?_
                    refine lv_iadd hx hb d_Mo_feed_88 ?_
                    refine zi_as (y := nI (tl + 3)) (nI_add tl 3) ?_
                    refine lv_iload hx hb d_Mo_feed_89 (lv_at hl 0 rfl) ?_
                    refine lv_bipush (v := 8) hx hb d_Mo_feed_91 (by decide) ?_
                    refine lv_iconst (v := 3) hx hb d_Mo_feed_93 (by decide) ?_
                    refine lv_iload hx hb d_Mo_feed_94 (lv_at hl 1 rfl) ?_
                    refine lv_iconst (v := 4) hx hb d_Mo_feed_96 (by decide) ?_
                    refine lv_irem hx hb d_Mo_feed_97 (by decide) ?_
                    refine zi_as (y := 3) (by decide) ?_
                    refine lv_isub hx hb d_Mo_feed_98 ?_
                    refine zi_as (y := 0) (by decide) ?_
                    refine lv_imul hx hb d_Mo_feed_99 ?_
                    refine zi_as (y := 0) (by decide) ?_
                    refine lv_ishr hx hb d_Mo_feed_100 ?_
                    refine zi_as (y := x1) (zsh0 x1) ?_
                    refine lv_i2b hx hb d_Mo_feed_101 rfl ?_
                    refine zg_bast hx hb hK hG hS 0 k16 rfl (vp_in_nI (by omega) (by omega)) d_Mo_feed_102 (fun H locs hG hS => ?_)
                    rw [zi_n (tl + 3) (by omega)] at hG
                    obtain ⟨G17, eG17⟩ : ∃ z : zg_G, z = zg_up G13 m1 (.inl (E.2.1 0, 65536, .inl (upd (upd (upd (upd fm (tl + 0) (vp_nar .byte ((x1 >>> (24 &&& 31)).toInt8.toInt32))) (tl + 1) (vp_nar .byte ((x1 >>> (16 &&& 31)).toInt8.toInt32))) (tl + 2) (vp_nar .byte ((x1 >>> (8 &&& 31)).toInt8.toInt32))) (tl + 3) (vp_nar .byte x1.toInt8.toInt32)))) := ⟨_, rfl⟩
                    have hG : zP E G17 H := by rw [eG17]; exact hG
                    have hx18 : zx (fun q => q = a ∨ q = m1) G G17 := hx14.tr (by rw [eG17]; exact zx.up (Or.inr rfl))
                    have k19 : G17 a = some (.inr (11, [.int 0, .ref m1, .int (nI tl), .ref m3, .ref m4, .int m5, .ref m6, .ref m7, .ref m8, .ref m9, .ref m10, .ref m11, .ref m12, .int m13, .int m14, .ref m15, .int m16, .int m17, .ref m18, m19, m20])) := by rw [eG17, zg_up_ne (zg_ne k15 k16 (by intro h; simp at h))]; exact k15
                    have k20 : G17 m1 = some (.inl (E.2.1 0, 65536, .inl (upd (upd (upd (upd fm (tl + 0) (vp_nar .byte ((x1 >>> (24 &&& 31)).toInt8.toInt32))) (tl + 1) (vp_nar .byte ((x1 >>> (16 &&& 31)).toInt8.toInt32))) (tl + 2) (vp_nar .byte ((x1 >>> (8 &&& 31)).toInt8.toInt32))) (tl + 3) (vp_nar .byte x1.toInt8.toInt32)))) := by rw [eG17]; exact zg_up_self _ _ _
                    refine lv_iinc (v := nI 4) (lv' := [(6, .int (nI 4)), (7, .int x1), (0, .ref a), (1, .int x1), (2, .int x2), (3, .int x3), (4, .int x4), (5, .int x5)]) hx hb d_Mo_feed_103 hl (k := 1) rfl (by decide) (by decide) rfl (fun ls hl => ?_)
                    refine lv_goto (tgt := 23) hx hb d_Mo_feed_106 (by decide) ?_
                    refine lv_iload hx hb d_Mo_feed_23 (lv_at hl 0 rfl) ?_
                    refine lv_bipush (v := 20) hx hb d_Mo_feed_25 (by decide) ?_
                    refine lv_icmp_ge (tgt := 109) hx hb d_Mo_feed_27 (by decide) (fun c27 => ?_) (fun c27 => ?_)
                    · have b27 : 20 ≤ 4 := (nI_leI (a := 20) (b := 4) (by omega) (by omega)).mp c27
                      exact absurd b27 (by decide)
                    · have b27 : ¬ 20 ≤ 4 := fun q => c27 ((nI_leI (a := 20) (b := 4) (by omega) (by omega)).mpr q)
                      refine lv_iload hx hb d_Mo_feed_30 (lv_at hl 0 rfl) ?_
                      refine lv_iconst (v := 4) hx hb d_Mo_feed_32 (by decide) ?_
                      refine lv_icmp_ge (tgt := 40) hx hb d_Mo_feed_33 (by decide) (fun c33 => ?_) (fun c33 => ?_)
                      · have b33 : 4 ≤ 4 := (nI_leI (a := 4) (b := 4) (by omega) (by omega)).mp c33
                        refine lv_iload hx hb d_Mo_feed_40 (lv_at hl 0 rfl) ?_
                        refine lv_bipush (v := 8) hx hb d_Mo_feed_42 (by decide) ?_
                        refine lv_icmp_ge (tgt := 51) hx hb d_Mo_feed_44 (by decide) (fun c44 => ?_) (fun c44 => ?_)
                        · have b44 : 8 ≤ 4 := (nI_leI (a := 8) (b := 4) (by omega) (by omega)).mp c44
                          exact absurd b44 (by decide)
                        · have b44 : ¬ 8 ≤ 4 := fun q => c44 ((nI_leI (a := 8) (b := 4) (by omega) (by omega)).mpr q)
                          refine lv_iload_n hx hb d_Mo_feed_47 rfl (lv_at hl 4 rfl) ?_
                          refine lv_goto (tgt := 76) hx hb d_Mo_feed_48 (by decide) ?_
                          refine lv_istore (lv' := [(7, .int x2), (6, .int (nI 4)), (0, .ref a), (1, .int x1), (2, .int x2), (3, .int x3), (4, .int x4), (5, .int x5)]) hx hb d_Mo_feed_76 hl (by decide) rfl (fun ls hl => ?_)
                          refine lv_aload_n hx hb d_Mo_feed_78 rfl (lv_at hl 2 rfl) ?_
                          refine zg_get (ci := 11) (C := "ZoneAnswersModel") (T := T_Mo) (N := 21) hx hb hts zi_Mo hown hK hG k19 rfl 1 (by decide) (hts _ w_1282) (fun _ h9 => h9) rfl d_Mo_feed_79 ?_
                          refine lv_aload_n hx hb d_Mo_feed_82 rfl (lv_at hl 2 rfl) ?_
                          refine zg_get (ci := 11) (C := "ZoneAnswersModel") (T := T_Mo) (N := 21) hx hb hts zi_Mo hown hK hG k19 rfl 2 (by decide) (hts _ w_1283) (fun _ h9 => h9) rfl d_Mo_feed_83 ?_
                          refine lv_iload hx hb d_Mo_feed_86 (lv_at hl 1 rfl) ?_
                          refine lv_iadd hx hb d_Mo_feed_88 ?_
                          refine zi_as (y := nI (tl + 4)) (nI_add tl 4) ?_
                          refine lv_iload hx hb d_Mo_feed_89 (lv_at hl 0 rfl) ?_
                          refine lv_bipush (v := 8) hx hb d_Mo_feed_91 (by decide) ?_
                          refine lv_iconst (v := 3) hx hb d_Mo_feed_93 (by decide) ?_
                          refine lv_iload hx hb d_Mo_feed_94 (lv_at hl 1 rfl) ?_
                          refine lv_iconst (v := 4) hx hb d_Mo_feed_96 (by decide) ?_
                          refine lv_irem hx hb d_Mo_feed_97 (by decide) ?_
                          refine zi_as (y := 0) (by decide) ?_
                          refine lv_isub hx hb d_Mo_feed_98 ?_
                          refine zi_as (y := 3) (by decide) ?_
                          refine lv_imul hx hb d_Mo_feed_99 ?_
                          refine zi_as (y := 24) (by decide) ?_
                          refine lv_ishr hx hb d_Mo_feed_100 ?_
                          refine lv_i2b hx hb d_Mo_feed_101 rfl ?_
                          refine zg_bast hx hb hK hG hS 0 k20 rfl (vp_in_nI (by omega) (by omega)) d_Mo_feed_102 (fun H locs hG hS => ?_)
                          rw [zi_n (tl + 4) (by omega)] at hG
                          obtain ⟨G21, eG21⟩ : ∃ z : zg_G, z = zg_up G17 m1 (.inl (E.2.1 0, 65536, .inl (upd (upd (upd (upd (upd fm (tl + 0) (vp_nar .byte ((x1 >>> (24 &&& 31)).toInt8.toInt32))) (tl + 1) (vp_nar .byte ((x1 >>> (16 &&& 31)).toInt8.toInt32))) (tl + 2) (vp_nar .byte ((x1 >>> (8 &&& 31)).toInt8.toInt32))) (tl + 3) (vp_nar .byte x1.toInt8.toInt32)) (tl + 4) (vp_nar .byte ((x2 >>> (24 &&& 31)).toInt8.toInt32))))) := ⟨_, rfl⟩
                          have hG : zP E G21 H := by rw [eG21]; exact hG
                          have hx22 : zx (fun q => q = a ∨ q = m1) G G21 := hx18.tr (by rw [eG21]; exact zx.up (Or.inr rfl))
                          have k23 : G21 a = some (.inr (11, [.int 0, .ref m1, .int (nI tl), .ref m3, .ref m4, .int m5, .ref m6, .ref m7, .ref m8, .ref m9, .ref m10, .ref m11, .ref m12, .int m13, .int m14, .ref m15, .int m16, .int m17, .ref m18, m19, m20])) := by rw [eG21, zg_up_ne (zg_ne k19 k20 (by intro h; simp at h))]; exact k19
                          have k24 : G21 m1 = some (.inl (E.2.1 0, 65536, .inl (upd (upd (upd (upd (upd fm (tl + 0) (vp_nar .byte ((x1 >>> (24 &&& 31)).toInt8.toInt32))) (tl + 1) (vp_nar .byte ((x1 >>> (16 &&& 31)).toInt8.toInt32))) (tl + 2) (vp_nar .byte ((x1 >>> (8 &&& 31)).toInt8.toInt32))) (tl + 3) (vp_nar .byte x1.toInt8.toInt32)) (tl + 4) (vp_nar .byte ((x2 >>> (24 &&& 31)).toInt8.toInt32))))) := by rw [eG21]; exact zg_up_self _ _ _
                          refine lv_iinc (v := nI 5) (lv' := [(6, .int (nI 5)), (7, .int x2), (0, .ref a), (1, .int x1), (2, .int x2), (3, .int x3), (4, .int x4), (5, .int x5)]) hx hb d_Mo_feed_103 hl (k := 1) rfl (by decide) (by decide) rfl (fun ls hl => ?_)
                          refine lv_goto (tgt := 23) hx hb d_Mo_feed_106 (by decide) ?_
                          refine lv_iload hx hb d_Mo_feed_23 (lv_at hl 0 rfl) ?_
                          refine lv_bipush (v := 20) hx hb d_Mo_feed_25 (by decide) ?_
                          refine lv_icmp_ge (tgt := 109) hx hb d_Mo_feed_27 (by decide) (fun c27 => ?_) (fun c27 => ?_)
                          · have b27 : 20 ≤ 5 := (nI_leI (a := 20) (b := 5) (by omega) (by omega)).mp c27
                            exact absurd b27 (by decide)
                          · have b27 : ¬ 20 ≤ 5 := fun q => c27 ((nI_leI (a := 20) (b := 5) (by omega) (by omega)).mpr q)
                            refine lv_iload hx hb d_Mo_feed_30 (lv_at hl 0 rfl) ?_
                            refine lv_iconst (v := 4) hx hb d_Mo_feed_32 (by decide) ?_
                            refine lv_icmp_ge (tgt := 40) hx hb d_Mo_feed_33 (by decide) (fun c33 => ?_) (fun c33 => ?_)
                            · have b33 : 4 ≤ 5 := (nI_leI (a := 4) (b := 5) (by omega) (by omega)).mp c33
                              refine lv_iload hx hb d_Mo_feed_40 (lv_at hl 0 rfl) ?_
                              refine lv_bipush (v := 8) hx hb d_Mo_feed_42 (by decide) ?_
                              refine lv_icmp_ge (tgt := 51) hx hb d_Mo_feed_44 (by decide) (fun c44 => ?_) (fun c44 => ?_)
                              · have b44 : 8 ≤ 5 := (nI_leI (a := 8) (b := 5) (by omega) (by omega)).mp c44
                                exact absurd b44 (by decide)
                              · have b44 : ¬ 8 ≤ 5 := fun q => c44 ((nI_leI (a := 8) (b := 5) (by omega) (by omega)).mpr q)
                                refine lv_iload_n hx hb d_Mo_feed_47 rfl (lv_at hl 4 rfl) ?_
                                refine lv_goto (tgt := 76) hx hb d_Mo_feed_48 (by decide) ?_
                                refine lv_istore (lv' := [(7, .int x2), (6, .int (nI 5)), (0, .ref a), (1, .int x1), (2, .int x2), (3, .int x3), (4, .int x4), (5, .int x5)]) hx hb d_Mo_feed_76 hl (by decide) rfl (fun ls hl => ?_)
                                refine lv_aload_n hx hb d_Mo_feed_78 rfl (lv_at hl 2 rfl) ?_
                                refine zg_get (ci := 11) (C := "ZoneAnswersModel") (T := T_Mo) (N := 21) hx hb hts zi_Mo hown hK hG k23 rfl 1 (by decide) (hts _ w_1282) (fun _ h9 => h9) rfl d_Mo_feed_79 ?_
                                refine lv_aload_n hx hb d_Mo_feed_82 rfl (lv_at hl 2 rfl) ?_
                                refine zg_get (ci := 11) (C := "ZoneAnswersModel") (T := T_Mo) (N := 21) hx hb hts zi_Mo hown hK hG k23 rfl 2 (by decide) (hts _ w_1283) (fun _ h9 => h9) rfl d_Mo_feed_83 ?_
                                refine lv_iload hx hb d_Mo_feed_86 (lv_at hl 1 rfl) ?_
                                refine lv_iadd hx hb d_Mo_feed_88 ?_
                                refine zi_as (y := nI (tl + 5)) (nI_add tl 5) ?_
                                refine lv_iload hx hb d_Mo_feed_89 (lv_at hl 0 rfl) ?_
                                refine lv_bipush (v := 8) hx hb d_Mo_feed_91 (by decide) ?_
                                refine lv_iconst (v := 3) hx hb d_Mo_feed_93 (by decide) ?_
                                refine lv_iload hx hb d_Mo_feed_94 (lv_at hl 1 rfl) ?_
                                refine lv_iconst (v := 4) hx hb d_Mo_feed_96 (by decide) ?_
                                refine lv_irem hx hb d_Mo_feed_97 (by decide) ?_
                                refine zi_as (y := 1) (by decide) ?_
                                refine lv_isub hx hb d_Mo_feed_98 ?_
                                refine zi_as (y := 2) (by decide) ?_
                                refine lv_imul hx hb d_Mo_feed_99 ?_
                                refine zi_as (y := 16) (by decide) ?_
                                refine lv_ishr hx hb d_Mo_feed_100 ?_
                                refine lv_i2b hx hb d_Mo_feed_101 rfl ?_
                                refine zg_bast hx hb hK hG hS 0 k24 rfl (vp_in_nI (by omega) (by omega)) d_Mo_feed_102 (fun H locs hG hS => ?_)
                                rw [zi_n (tl + 5) (by omega)] at hG
                                obtain ⟨G25, eG25⟩ : ∃ z : zg_G, z = zg_up G21 m1 (.inl (E.2.1 0, 65536, .inl (upd (upd (upd (upd (upd (upd fm (tl + 0) (vp_nar .byte ((x1 >>> (24 &&& 31)).toInt8.toInt32))) (tl + 1) (vp_nar .byte ((x1 >>> (16 &&& 31)).toInt8.toInt32))) (tl + 2) (vp_nar .byte ((x1 >>> (8 &&& 31)).toInt8.toInt32))) (tl + 3) (vp_nar .byte x1.toInt8.toInt32)) (tl + 4) (vp_nar .byte ((x2 >>> (24 &&& 31)).toInt8.toInt32))) (tl + 5) (vp_nar .byte ((x2 >>> (16 &&& 31)).toInt8.toInt32))))) := ⟨_, rfl⟩
                                have hG : zP E G25 H := by rw [eG25]; exact hG
                                have hx26 : zx (fun q => q = a ∨ q = m1) G G25 := hx22.tr (by rw [eG25]; exact zx.up (Or.inr rfl))
                                have k27 : G25 a = some (.inr (11, [.int 0, .ref m1, .int (nI tl), .ref m3, .ref m4, .int m5, .ref m6, .ref m7, .ref m8, .ref m9, .ref m10, .ref m11, .ref m12, .int m13, .int m14, .ref m15, .int m16, .int m17, .ref m18, m19, m20])) := by rw [eG25, zg_up_ne (zg_ne k23 k24 (by intro h; simp at h))]; exact k23
                                have k28 : G25 m1 = some (.inl (E.2.1 0, 65536, .inl (upd (upd (upd (upd (upd (upd fm (tl + 0) (vp_nar .byte ((x1 >>> (24 &&& 31)).toInt8.toInt32))) (tl + 1) (vp_nar .byte ((x1 >>> (16 &&& 31)).toInt8.toInt32))) (tl + 2) (vp_nar .byte ((x1 >>> (8 &&& 31)).toInt8.toInt32))) (tl + 3) (vp_nar .byte x1.toInt8.toInt32)) (tl + 4) (vp_nar .byte ((x2 >>> (24 &&& 31)).toInt8.toInt32))) (tl + 5) (vp_nar .byte ((x2 >>> (16 &&& 31)).toInt8.toInt32))))) := by rw [eG25]; exact zg_up_self _ _ _
                                refine lv_iinc (v := nI 6) (lv' := [(6, .int (nI 6)), (7, .int x2), (0, .ref a), (1, .int x1), (2, .int x2), (3, .int x3), (4, .int x4), (5, .int x5)]) hx hb d_Mo_feed_103 hl (k := 1) rfl (by decide) (by decide) rfl (fun ls hl => ?_)
                                refine lv_goto (tgt := 23) hx hb d_Mo_feed_106 (by decide) ?_
                                refine lv_iload hx hb d_Mo_feed_23 (lv_at hl 0 rfl) ?_
                                refine lv_bipush (v := 20) hx hb d_Mo_feed_25 (by decide) ?_
                                refine lv_icmp_ge (tgt := 109) hx hb d_Mo_feed_27 (by decide) (fun c27 => ?_) (fun c27 => ?_)
                                · have b27 : 20 ≤ 6 := (nI_leI (a := 20) (b := 6) (by omega) (by omega)).mp c27
                                  exact absurd b27 (by decide)
                                · have b27 : ¬ 20 ≤ 6 := fun q => c27 ((nI_leI (a := 20) (b := 6) (by omega) (by omega)).mpr q)
                                  refine lv_iload hx hb d_Mo_feed_30 (lv_at hl 0 rfl) ?_
                                  refine lv_iconst (v := 4) hx hb d_Mo_feed_32 (by decide) ?_
                                  refine lv_icmp_ge (tgt := 40) hx hb d_Mo_feed_33 (by decide) (fun c33 => ?_) (fun c33 => ?_)
                                  · have b33 : 4 ≤ 6 := (nI_leI (a := 4) (b := 6) (by omega) (by omega)).mp c33
                                    refine lv_iload hx hb d_Mo_feed_40 (lv_at hl 0 rfl) ?_
                                    refine lv_bipush (v := 8) hx hb d_Mo_feed_42 (by decide) ?_
                                    refine lv_icmp_ge (tgt := 51) hx hb d_Mo_feed_44 (by decide) (fun c44 => ?_) (fun c44 => ?_)
                                    · have b44 : 8 ≤ 6 := (nI_leI (a := 8) (b := 6) (by omega) (by omega)).mp c44
                                      exact absurd b44 (by decide)
                                    · have b44 : ¬ 8 ≤ 6 := fun q => c44 ((nI_leI (a := 8) (b := 6) (by omega) (by omega)).mpr q)
                                      refine lv_iload_n hx hb d_Mo_feed_47 rfl (lv_at hl 4 rfl) ?_
                                      refine lv_goto (tgt := 76) hx hb d_Mo_feed_48 (by decide) ?_
                                      refine lv_istore (lv' := [(7, .int x2), (6, .int (nI 6)), (0, .ref a), (1, .int x1), (2, .int x2), (3, .int x3), (4, .int x4), (5, .int x5)]) hx hb d_Mo_feed_76 hl (by decide) rfl (fun ls hl => ?_)
                                      refine lv_aload_n hx hb d_Mo_feed_78 rfl (lv_at hl 2 rfl) ?_
                                      refine zg_get (ci := 11) (C := "ZoneAnswersModel") (T := T_Mo) (N := 21) hx hb hts zi_Mo hown hK hG k27 rfl 1 (by decide) (hts _ w_1282) (fun _ h9 => h9) rfl d_Mo_feed_79 ?_
                                      refine lv_aload_n hx hb d_Mo_feed_82 rfl (lv_at hl 2 rfl) ?_
                                      refine zg_get (ci := 11) (C := "ZoneAnswersModel") (T := T_Mo) (N := 21) hx hb hts zi_Mo hown hK hG k27 rfl 2 (by decide) (hts _ w_1283) (fun _ h9 => h9) rfl d_Mo_feed_83 ?_
                                      refine lv_iload hx hb d_Mo_feed_86 (lv_at hl 1 rfl) ?_
                                      refine lv_iadd hx hb d_Mo_feed_88 ?_
                                      refine zi_as (y := nI (tl + 6)) (nI_add tl 6) ?_
                                      refine lv_iload hx hb d_Mo_feed_89 (lv_at hl 0 rfl) ?_
                                      refine lv_bipush (v := 8) hx hb d_Mo_feed_91 (by decide) ?_
                                      refine lv_iconst (v := 3) hx hb d_Mo_feed_93 (by decide) ?_
                                      refine lv_iload hx hb d_Mo_feed_94 (lv_at hl 1 rfl) ?_
                                      refine lv_iconst (v := 4) hx hb d_Mo_feed_96 (by decide) ?_
                                      refine lv_irem hx hb d_Mo_feed_97 (by decide) ?_
                                      refine zi_as (y := 2) (by decide) ?_
                                      refine lv_isub hx hb d_Mo_feed_98 ?_
                                      refine zi_as (y := 1) (by decide) ?_
                                      refine lv_imul hx hb d_Mo_feed_99 ?_
                                      refine zi_as (y := 8) (by decide) ?_
                                      refine lv_ishr hx hb d_Mo_feed_100 ?_
                                      refine lv_i2b hx hb d_Mo_feed_101 rfl ?_
                                      refine zg_bast hx hb hK hG hS 0 k28 rfl (vp_in_nI (by omega) (by omega)) d_Mo_feed_102 (fun H locs hG hS => ?_)
                                      rw [zi_n (tl + 6) (by omega)] at hG
                                      obtain ⟨G29, eG29⟩ : ∃ z : zg_G, z = zg_up G25 m1 (.inl (E.2.1 0, 65536, .inl (upd (upd (upd (upd (upd (upd (upd fm (tl + 0) (vp_nar .byte ((x1 >>> (24 &&& 31)).toInt8.toInt32))) (tl + 1) (vp_nar .byte ((x1 >>> (16 &&& 31)).toInt8.toInt32))) (tl + 2) (vp_nar .byte ((x1 >>> (8 &&& 31)).toInt8.toInt32))) (tl + 3) (vp_nar .byte x1.toInt8.toInt32)) (tl + 4) (vp_nar .byte ((x2 >>> (24 &&& 31)).toInt8.toInt32))) (tl + 5) (vp_nar .byte ((x2 >>> (16 &&& 31)).toInt8.toInt32))) (tl + 6) (vp_nar .byte ((x2 >>> (8 &&& 31)).toInt8.toInt32))))) := ⟨_, rfl⟩
                                      have hG : zP E G29 H := by rw [eG29]; exact hG
                                      have hx30 : zx (fun q => q = a ∨ q = m1) G G29 := hx26.tr (by rw [eG29]; exact zx.up (Or.inr rfl))
                                      have k31 : G29 a = some (.inr (11, [.int 0, .ref m1, .int (nI tl), .ref m3, .ref m4, .int m5, .ref m6, .ref m7, .ref m8, .ref m9, .ref m10, .ref m11, .ref m12, .int m13, .int m14, .ref m15, .int m16, .int m17, .ref m18, m19, m20])) := by rw [eG29, zg_up_ne (zg_ne k27 k28 (by intro h; simp at h))]; exact k27
                                      have k32 : G29 m1 = some (.inl (E.2.1 0, 65536, .inl (upd (upd (upd (upd (upd (upd (upd fm (tl + 0) (vp_nar .byte ((x1 >>> (24 &&& 31)).toInt8.toInt32))) (tl + 1) (vp_nar .byte ((x1 >>> (16 &&& 31)).toInt8.toInt32))) (tl + 2) (vp_nar .byte ((x1 >>> (8 &&& 31)).toInt8.toInt32))) (tl + 3) (vp_nar .byte x1.toInt8.toInt32)) (tl + 4) (vp_nar .byte ((x2 >>> (24 &&& 31)).toInt8.toInt32))) (tl + 5) (vp_nar .byte ((x2 >>> (16 &&& 31)).toInt8.toInt32))) (tl + 6) (vp_nar .byte ((x2 >>> (8 &&& 31)).toInt8.toInt32))))) := by rw [eG29]; exact zg_up_self _ _ _
                                      refine lv_iinc (v := nI 7) (lv' := [(6, .int (nI 7)), (7, .int x2), (0, .ref a), (1, .int x1), (2, .int x2), (3, .int x3), (4, .int x4), (5, .int x5)]) hx hb d_Mo_feed_103 hl (k := 1) rfl (by decide) (by decide) rfl (fun ls hl => ?_)
                                      refine lv_goto (tgt := 23) hx hb d_Mo_feed_106 (by decide) ?_
                                      refine lv_iload hx hb d_Mo_feed_23 (lv_at hl 0 rfl) ?_
                                      refine lv_bipush (v := 20) hx hb d_Mo_feed_25 (by decide) ?_
                                      refine lv_icmp_ge (tgt := 109) hx hb d_Mo_feed_27 (by decide) (fun c27 => ?_) (fun c27 => ?_)
                                      · have b27 : 20 ≤ 7 := (nI_leI (a := 20) (b := 7) (by omega) (by omega)).mp c27
                                        exact absurd b27 (by decide)
                                      · have b27 : ¬ 20 ≤ 7 := fun q => c27 ((nI_leI (a := 20) (b := 7) (by omega) (by omega)).mpr q)
                                        refine lv_iload hx hb d_Mo_feed_30 (lv_at hl 0 rfl) ?_
                                        refine lv_iconst (v := 4) hx hb d_Mo_feed_32 (by decide) ?_
                                        refine lv_icmp_ge (tgt := 40) hx hb d_Mo_feed_33 (by decide) (fun c33 => ?_) (fun c33 => ?_)
                                        · have b33 : 4 ≤ 7 := (nI_leI (a := 4) (b := 7) (by omega) (by omega)).mp c33
                                          refine lv_iload hx hb d_Mo_feed_40 (lv_at hl 0 rfl) ?_
                                          refine lv_bipush (v := 8) hx hb d_Mo_feed_42 (by decide) ?_
                                          refine lv_icmp_ge (tgt := 51) hx hb d_Mo_feed_44 (by decide) (fun c44 => ?_) (fun c44 => ?_)
                                          · have b44 : 8 ≤ 7 := (nI_leI (a := 8) (b := 7) (by omega) (by omega)).mp c44
                                            exact absurd b44 (by decide)
                                          · have b44 : ¬ 8 ≤ 7 := fun q => c44 ((nI_leI (a := 8) (b := 7) (by omega) (by omega)).mpr q)
                                            refine lv_iload_n hx hb d_Mo_feed_47 rfl (lv_at hl 4 rfl) ?_
                                            refine lv_goto (tgt := 76) hx hb d_Mo_feed_48 (by decide) ?_
                                            refine lv_istore (lv' := [(7, .int x2), (6, .int (nI 7)), (0, .ref a), (1, .int x1), (2, .int x2), (3, .int x3), (4, .int x4), (5, .int x5)]) hx hb d_Mo_feed_76 hl (by decide) rfl (fun ls hl => ?_)
                                            refine lv_aload_n hx hb d_Mo_feed_78 rfl (lv_at hl 2 rfl) ?_
                                            refine zg_get (ci := 11) (C := "ZoneAnswersModel") (T := T_Mo) (N := 21) hx hb hts zi_Mo hown hK hG k31 rfl 1 (by decide) (hts _ w_1282) (fun _ h9 => h9) rfl d_Mo_feed_79 ?_
                                            refine lv_aload_n hx hb d_Mo_feed_82 rfl (lv_at hl 2 rfl) ?_
                                            refine zg_get (ci := 11) (C := "ZoneAnswersModel") (T := T_Mo) (N := 21) hx hb hts zi_Mo hown hK hG k31 rfl 2 (by decide) (hts _ w_1283) (fun _ h9 => h9) rfl d_Mo_feed_83 ?_
                                            refine lv_iload hx hb d_Mo_feed_86 (lv_at hl 1 rfl) ?_
                                            refine lv_iadd hx hb d_Mo_feed_88 ?_
                                            refine zi_as (y := nI (tl + 7)) (nI_add tl 7) ?_
                                            refine lv_iload hx hb d_Mo_feed_89 (lv_at hl 0 rfl) ?_
                                            refine lv_bipush (v := 8) hx hb d_Mo_feed_91 (by decide) ?_
                                            refine lv_iconst (v := 3) hx hb d_Mo_feed_93 (by decide) ?_
                                            refine lv_iload hx hb d_Mo_feed_94 (lv_at hl 1 rfl) ?_
                                            refine lv_iconst (v := 4) hx hb d_Mo_feed_96 (by decide) ?_
                                            refine lv_irem hx hb d_Mo_feed_97 (by decide) ?_
                                            refine zi_as (y := 3) (by decide) ?_
                                            refine lv_isub hx hb d_Mo_feed_98 ?_
                                            refine zi_as (y := 0) (by decide) ?_
                                            refine lv_imul hx hb d_Mo_feed_99 ?_
                                            refine zi_as (y := 0) (by decide) ?_
                                            refine lv_ishr hx hb d_Mo_feed_100 ?_
                                            refine zi_as (y := x2) (zsh0 x2) ?_
                                            refine lv_i2b hx hb d_Mo_feed_101 rfl ?_
                                            refine zg_bast hx hb hK hG hS 0 k32 rfl (vp_in_nI (by omega) (by omega)) d_Mo_feed_102 (fun H locs hG hS => ?_)
                                            rw [zi_n (tl + 7) (by omega)] at hG
                                            obtain ⟨G33, eG33⟩ : ∃ z : zg_G, z = zg_up G29 m1 (.inl (E.2.1 0, 65536, .inl (upd (upd (upd (upd (upd (upd (upd (upd fm (tl + 0) (vp_nar .byte ((x1 >>> (24 &&& 31)).toInt8.toInt32))) (tl + 1) (vp_nar .byte ((x1 >>> (16 &&& 31)).toInt8.toInt32))) (tl + 2) (vp_nar .byte ((x1 >>> (8 &&& 31)).toInt8.toInt32))) (tl + 3) (vp_nar .byte x1.toInt8.toInt32)) (tl + 4) (vp_nar .byte ((x2 >>> (24 &&& 31)).toInt8.toInt32))) (tl + 5) (vp_nar .byte ((x2 >>> (16 &&& 31)).toInt8.toInt32))) (tl + 6) (vp_nar .byte ((x2 >>> (8 &&& 31)).toInt8.toInt32))) (tl + 7) (vp_nar .byte x2.toInt8.toInt32)))) := ⟨_, rfl⟩
                                            have hG : zP E G33 H := by rw [eG33]; exact hG
                                            have hx34 : zx (fun q => q = a ∨ q = m1) G G33 := hx30.tr (by rw [eG33]; exact zx.up (Or.inr rfl))
                                            have k35 : G33 a = some (.inr (11, [.int 0, .ref m1, .int (nI tl), .ref m3, .ref m4, .int m5, .ref m6, .ref m7, .ref m8, .ref m9, .ref m10, .ref m11, .ref m12, .int m13, .int m14, .ref m15, .int m16, .int m17, .ref m18, m19, m20])) := by rw [eG33, zg_up_ne (zg_ne k31 k32 (by intro h; simp at h))]; exact k31
                                            have k36 : G33 m1 = some (.inl (E.2.1 0, 65536, .inl (upd (upd (upd (upd (upd (upd (upd (upd fm (tl + 0) (vp_nar .byte ((x1 >>> (24 &&& 31)).toInt8.toInt32))) (tl + 1) (vp_nar .byte ((x1 >>> (16 &&& 31)).toInt8.toInt32))) (tl + 2) (vp_nar .byte ((x1 >>> (8 &&& 31)).toInt8.toInt32))) (tl + 3) (vp_nar .byte x1.toInt8.toInt32)) (tl + 4) (vp_nar .byte ((x2 >>> (24 &&& 31)).toInt8.toInt32))) (tl + 5) (vp_nar .byte ((x2 >>> (16 &&& 31)).toInt8.toInt32))) (tl + 6) (vp_nar .byte ((x2 >>> (8 &&& 31)).toInt8.toInt32))) (tl + 7) (vp_nar .byte x2.toInt8.toInt32)))) := by rw [eG33]; exact zg_up_self _ _ _
                                            refine lv_iinc (v := nI 8) (lv' := [(6, .int (nI 8)), (7, .int x2), (0, .ref a), (1, .int x1), (2, .int x2), (3, .int x3), (4, .int x4), (5, .int x5)]) hx hb d_Mo_feed_103 hl (k := 1) rfl (by decide) (by decide) rfl (fun ls hl => ?_)
                                            refine lv_goto (tgt := 23) hx hb d_Mo_feed_106 (by decide) ?_
                                            refine lv_iload hx hb d_Mo_feed_23 (lv_at hl 0 rfl) ?_
                                            refine lv_bipush (v := 20) hx hb d_Mo_feed_25 (by decide) ?_
                                            refine lv_icmp_ge (tgt := 109) hx hb d_Mo_feed_27 (by decide) (fun c27 => ?_) (fun c27 => ?_)
                                            · have b27 : 20 ≤ 8 := (nI_leI (a := 20) (b := 8) (by omega) (by omega)).mp c27
                                              exact absurd b27 (by decide)
                                            · have b27 : ¬ 20 ≤ 8 := fun q => c27 ((nI_leI (a := 20) (b := 8) (by omega) (by omega)).mpr q)
                                              refine lv_iload hx hb d_Mo_feed_30 (lv_at hl 0 rfl) ?_
                                              refine lv_iconst (v := 4) hx hb d_Mo_feed_32 (by decide) ?_
                                              refine lv_icmp_ge (tgt := 40) hx hb d_Mo_feed_33 (by decide) (fun c33 => ?_) (fun c33 => ?_)
                                              · have b33 : 4 ≤ 8 := (nI_leI (a := 4) (b := 8) (by omega) (by omega)).mp c33
                                                refine lv_iload hx hb d_Mo_feed_40 (lv_at hl 0 rfl) ?_
                                                refine lv_bipush (v := 8) hx hb d_Mo_feed_42 (by decide) ?_
                                                refine lv_icmp_ge (tgt := 51) hx hb d_Mo_feed_44 (by decide) (fun c44 => ?_) (fun c44 => ?_)
                                                · have b44 : 8 ≤ 8 := (nI_leI (a := 8) (b := 8) (by omega) (by omega)).mp c44
                                                  refine lv_iload hx hb d_Mo_feed_51 (lv_at hl 0 rfl) ?_
                                                  refine lv_bipush (v := 12) hx hb d_Mo_feed_53 (by decide) ?_
                                                  refine lv_icmp_ge (tgt := 62) hx hb d_Mo_feed_55 (by decide) (fun c55 => ?_) (fun c55 => ?_)
                                                  · have b55 : 12 ≤ 8 := (nI_leI (a := 12) (b := 8) (by omega) (by omega)).mp c55
                                                    exact absurd b55 (by decide)
                                                  · have b55 : ¬ 12 ≤ 8 := fun q => c55 ((nI_leI (a := 12) (b := 8) (by omega) (by omega)).mpr q)
                                                    refine lv_iload_n hx hb d_Mo_feed_58 rfl (lv_at hl 5 rfl) ?_
                                                    refine lv_goto (tgt := 76) hx hb d_Mo_feed_59 (by decide) ?_
                                                    refine lv_istore (lv' := [(7, .int x3), (6, .int (nI 8)), (0, .ref a), (1, .int x1), (2, .int x2), (3, .int x3), (4, .int x4), (5, .int x5)]) hx hb d_Mo_feed_76 hl (by decide) rfl (fun ls hl => ?_)
                                                    refine lv_aload_n hx hb d_Mo_feed_78 rfl (lv_at hl 2 rfl) ?_
                                                    refine zg_get (ci := 11) (C := "ZoneAnswersModel") (T := T_Mo) (N := 21) hx hb hts zi_Mo hown hK hG k35 rfl 1 (by decide) (hts _ w_1282) (fun _ h9 => h9) rfl d_Mo_feed_79 ?_
                                                    refine lv_aload_n hx hb d_Mo_feed_82 rfl (lv_at hl 2 rfl) ?_
                                                    refine zg_get (ci := 11) (C := "ZoneAnswersModel") (T := T_Mo) (N := 21) hx hb hts zi_Mo hown hK hG k35 rfl 2 (by decide) (hts _ w_1283) (fun _ h9 => h9) rfl d_Mo_feed_83 ?_
                                                    refine lv_iload hx hb d_Mo_feed_86 (lv_at hl 1 rfl) ?_
                                                    refine lv_iadd hx hb d_Mo_feed_88 ?_
                                                    refine zi_as (y := nI (tl + 8)) (nI_add tl 8) ?_
                                                    refine lv_iload hx hb d_Mo_feed_89 (lv_at hl 0 rfl) ?_
                                                    refine lv_bipush (v := 8) hx hb d_Mo_feed_91 (by decide) ?_
                                                    refine lv_iconst (v := 3) hx hb d_Mo_feed_93 (by decide) ?_
                                                    refine lv_iload hx hb d_Mo_feed_94 (lv_at hl 1 rfl) ?_
                                                    refine lv_iconst (v := 4) hx hb d_Mo_feed_96 (by decide) ?_
                                                    refine lv_irem hx hb d_Mo_feed_97 (by decide) ?_
                                                    refine zi_as (y := 0) (by decide) ?_
                                                    refine lv_isub hx hb d_Mo_feed_98 ?_
                                                    refine zi_as (y := 3) (by decide) ?_
                                                    refine lv_imul hx hb d_Mo_feed_99 ?_
                                                    refine zi_as (y := 24) (by decide) ?_
                                                    refine lv_ishr hx hb d_Mo_feed_100 ?_
                                                    refine lv_i2b hx hb d_Mo_feed_101 rfl ?_
                                                    refine zg_bast hx hb hK hG hS 0 k36 rfl (vp_in_nI (by omega) (by omega)) d_Mo_feed_102 (fun H locs hG hS => ?_)
                                                    rw [zi_n (tl + 8) (by omega)] at hG
                                                    obtain ⟨G37, eG37⟩ : ∃ z : zg_G, z = zg_up G33 m1 (.inl (E.2.1 0, 65536, .inl (upd (upd (upd (upd (upd (upd (upd (upd (upd fm (tl + 0) (vp_nar .byte ((x1 >>> (24 &&& 31)).toInt8.toInt32))) (tl + 1) (vp_nar .byte ((x1 >>> (16 &&& 31)).toInt8.toInt32))) (tl + 2) (vp_nar .byte ((x1 >>> (8 &&& 31)).toInt8.toInt32))) (tl + 3) (vp_nar .byte x1.toInt8.toInt32)) (tl + 4) (vp_nar .byte ((x2 >>> (24 &&& 31)).toInt8.toInt32))) (tl + 5) (vp_nar .byte ((x2 >>> (16 &&& 31)).toInt8.toInt32))) (tl + 6) (vp_nar .byte ((x2 >>> (8 &&& 31)).toInt8.toInt32))) (tl + 7) (vp_nar .byte x2.toInt8.toInt32)) (tl + 8) (vp_nar .byte ((x3 >>> (24 &&& 31)).toInt8.toInt32))))) := ⟨_, rfl⟩
                                                    have hG : zP E G37 H := by rw [eG37]; exact hG
                                                    have hx38 : zx (fun q => q = a ∨ q = m1) G G37 := hx34.tr (by rw [eG37]; exact zx.up (Or.inr rfl))
                                                    have k39 : G37 a = some (.inr (11, [.int 0, .ref m1, .int (nI tl), .ref m3, .ref m4, .int m5, .ref m6, .ref m7, .ref m8, .ref m9, .ref m10, .ref m11, .ref m12, .int m13, .int m14, .ref m15, .int m16, .int m17, .ref m18, m19, m20])) := by rw [eG37, zg_up_ne (zg_ne k35 k36 (by intro h; simp at h))]; exact k35
                                                    have k40 : G37 m1 = some (.inl (E.2.1 0, 65536, .inl (upd (upd (upd (upd (upd (upd (upd (upd (upd fm (tl + 0) (vp_nar .byte ((x1 >>> (24 &&& 31)).toInt8.toInt32))) (tl + 1) (vp_nar .byte ((x1 >>> (16 &&& 31)).toInt8.toInt32))) (tl + 2) (vp_nar .byte ((x1 >>> (8 &&& 31)).toInt8.toInt32))) (tl + 3) (vp_nar .byte x1.toInt8.toInt32)) (tl + 4) (vp_nar .byte ((x2 >>> (24 &&& 31)).toInt8.toInt32))) (tl + 5) (vp_nar .byte ((x2 >>> (16 &&& 31)).toInt8.toInt32))) (tl + 6) (vp_nar .byte ((x2 >>> (8 &&& 31)).toInt8.toInt32))) (tl + 7) (vp_nar .byte x2.toInt8.toInt32)) (tl + 8) (vp_nar .byte ((x3 >>> (24 &&& 31)).toInt8.toInt32))))) := by rw [eG37]; exact zg_up_self _ _ _
                                                    refine lv_iinc (v := nI 9) (lv' := [(6, .int (nI 9)), (7, .int x3), (0, .ref a), (1, .int x1), (2, .int x2), (3, .int x3), (4, .int x4), (5, .int x5)]) hx hb d_Mo_feed_103 hl (k := 1) rfl (by decide) (by decide) rfl (fun ls hl => ?_)
                                                    refine lv_goto (tgt := 23) hx hb d_Mo_feed_106 (by decide) ?_
                                                    refine lv_iload hx hb d_Mo_feed_23 (lv_at hl 0 rfl) ?_
                                                    refine lv_bipush (v := 20) hx hb d_Mo_feed_25 (by decide) ?_
                                                    refine lv_icmp_ge (tgt := 109) hx hb d_Mo_feed_27 (by decide) (fun c27 => ?_) (fun c27 => ?_)
                                                    · have b27 : 20 ≤ 9 := (nI_leI (a := 20) (b := 9) (by omega) (by omega)).mp c27
                                                      exact absurd b27 (by decide)
                                                    · have b27 : ¬ 20 ≤ 9 := fun q => c27 ((nI_leI (a := 20) (b := 9) (by omega) (by omega)).mpr q)
                                                      refine lv_iload hx hb d_Mo_feed_30 (lv_at hl 0 rfl) ?_
                                                      refine lv_iconst (v := 4) hx hb d_Mo_feed_32 (by decide) ?_
                                                      refine lv_icmp_ge (tgt := 40) hx hb d_Mo_feed_33 (by decide) (fun c33 => ?_) (fun c33 => ?_)
                                                      · have b33 : 4 ≤ 9 := (nI_leI (a := 4) (b := 9) (by omega) (by omega)).mp c33
                                                        refine lv_iload hx hb d_Mo_feed_40 (lv_at hl 0 rfl) ?_
                                                        refine lv_bipush (v := 8) hx hb d_Mo_feed_42 (by decide) ?_
                                                        refine lv_icmp_ge (tgt := 51) hx hb d_Mo_feed_44 (by decide) (fun c44 => ?_) (fun c44 => ?_)
                                                        · have b44 : 8 ≤ 9 := (nI_leI (a := 8) (b := 9) (by omega) (by omega)).mp c44
                                                          refine lv_iload hx hb d_Mo_feed_51 (lv_at hl 0 rfl) ?_
                                                          refine lv_bipush (v := 12) hx hb d_Mo_feed_53 (by decide) ?_
                                                          refine lv_icmp_ge (tgt := 62) hx hb d_Mo_feed_55 (by decide) (fun c55 => ?_) (fun c55 => ?_)
                                                          · have b55 : 12 ≤ 9 := (nI_leI (a := 12) (b := 9) (by omega) (by omega)).mp c55
                                                            exact absurd b55 (by decide)
                                                          · have b55 : ¬ 12 ≤ 9 := fun q => c55 ((nI_leI (a := 12) (b := 9) (by omega) (by omega)).mpr q)
                                                            refine lv_iload_n hx hb d_Mo_feed_58 rfl (lv_at hl 5 rfl) ?_
                                                            refine lv_goto (tgt := 76) hx hb d_Mo_feed_59 (by decide) ?_
                                                            refine lv_istore (lv' := [(7, .int x3), (6, .int (nI 9)), (0, .ref a), (1, .int x1), (2, .int x2), (3, .int x3), (4, .int x4), (5, .int x5)]) hx hb d_Mo_feed_76 hl (by decide) rfl (fun ls hl => ?_)
                                                            refine lv_aload_n hx hb d_Mo_feed_78 rfl (lv_at hl 2 rfl) ?_
                                                            refine zg_get (ci := 11) (C := "ZoneAnswersModel") (T := T_Mo) (N := 21) hx hb hts zi_Mo hown hK hG k39 rfl 1 (by decide) (hts _ w_1282) (fun _ h9 => h9) rfl d_Mo_feed_79 ?_
                                                            refine lv_aload_n hx hb d_Mo_feed_82 rfl (lv_at hl 2 rfl) ?_
                                                            refine zg_get (ci := 11) (C := "ZoneAnswersModel") (T := T_Mo) (N := 21) hx hb hts zi_Mo hown hK hG k39 rfl 2 (by decide) (hts _ w_1283) (fun _ h9 => h9) rfl d_Mo_feed_83 ?_
                                                            refine lv_iload hx hb d_Mo_feed_86 (lv_at hl 1 rfl) ?_
                                                            refine lv_iadd hx hb d_Mo_feed_88 ?_
                                                            refine zi_as (y := nI (tl + 9)) (nI_add tl 9) ?_
                                                            refine lv_iload hx hb d_Mo_feed_89 (lv_at hl 0 rfl) ?_
                                                            refine lv_bipush (v := 8) hx hb d_Mo_feed_91 (by decide) ?_
                                                            refine lv_iconst (v := 3) hx hb d_Mo_feed_93 (by decide) ?_
                                                            refine lv_iload hx hb d_Mo_feed_94 (lv_at hl 1 rfl) ?_
                                                            refine lv_iconst (v := 4) hx hb d_Mo_feed_96 (by decide) ?_
                                                            refine lv_irem hx hb d_Mo_feed_97 (by decide) ?_
                                                            refine zi_as (y := 1) (by decide) ?_
                                                            refine lv_isub hx hb d_Mo_feed_98 ?_
                                                            refine zi_as (y := 2) (by decide) ?_
                                                            refine lv_imul hx hb d_Mo_feed_99 ?_
                                                            refine zi_as (y := 16) (by decide) ?_
                                                            refine lv_ishr hx hb d_Mo_feed_100 ?_
                                                            refine lv_i2b hx hb d_Mo_feed_101 rfl ?_
                                                            refine zg_bast hx hb hK hG hS 0 k40 rfl (vp_in_nI (by omega) (by omega)) d_Mo_feed_102 (fun H locs hG hS => ?_)
                                                            rw [zi_n (tl + 9) (by omega)] at hG
                                                            obtain ⟨G41, eG41⟩ : ∃ z : zg_G, z = zg_up G37 m1 (.inl (E.2.1 0, 65536, .inl (upd (upd (upd (upd (upd (upd (upd (upd (upd (upd fm (tl + 0) (vp_nar .byte ((x1 >>> (24 &&& 31)).toInt8.toInt32))) (tl + 1) (vp_nar .byte ((x1 >>> (16 &&& 31)).toInt8.toInt32))) (tl + 2) (vp_nar .byte ((x1 >>> (8 &&& 31)).toInt8.toInt32))) (tl + 3) (vp_nar .byte x1.toInt8.toInt32)) (tl + 4) (vp_nar .byte ((x2 >>> (24 &&& 31)).toInt8.toInt32))) (tl + 5) (vp_nar .byte ((x2 >>> (16 &&& 31)).toInt8.toInt32))) (tl + 6) (vp_nar .byte ((x2 >>> (8 &&& 31)).toInt8.toInt32))) (tl + 7) (vp_nar .byte x2.toInt8.toInt32)) (tl + 8) (vp_nar .byte ((x3 >>> (24 &&& 31)).toInt8.toInt32))) (tl + 9) (vp_nar .byte ((x3 >>> (16 &&& 31)).toInt8.toInt32))))) := ⟨_, rfl⟩
                                                            have hG : zP E G41 H := by rw [eG41]; exact hG
                                                            have hx42 : zx (fun q => q = a ∨ q = m1) G G41 := hx38.tr (by rw [eG41]; exact zx.up (Or.inr rfl))
                                                            have k43 : G41 a = some (.inr (11, [.int 0, .ref m1, .int (nI tl), .ref m3, .ref m4, .int m5, .ref m6, .ref m7, .ref m8, .ref m9, .ref m10, .ref m11, .ref m12, .int m13, .int m14, .ref m15, .int m16, .int m17, .ref m18, m19, m20])) := by rw [eG41, zg_up_ne (zg_ne k39 k40 (by intro h; simp at h))]; exact k39
                                                            have k44 : G41 m1 = some (.inl (E.2.1 0, 65536, .inl (upd (upd (upd (upd (upd (upd (upd (upd (upd (upd fm (tl + 0) (vp_nar .byte ((x1 >>> (24 &&& 31)).toInt8.toInt32))) (tl + 1) (vp_nar .byte ((x1 >>> (16 &&& 31)).toInt8.toInt32))) (tl + 2) (vp_nar .byte ((x1 >>> (8 &&& 31)).toInt8.toInt32))) (tl + 3) (vp_nar .byte x1.toInt8.toInt32)) (tl + 4) (vp_nar .byte ((x2 >>> (24 &&& 31)).toInt8.toInt32))) (tl + 5) (vp_nar .byte ((x2 >>> (16 &&& 31)).toInt8.toInt32))) (tl + 6) (vp_nar .byte ((x2 >>> (8 &&& 31)).toInt8.toInt32))) (tl + 7) (vp_nar .byte x2.toInt8.toInt32)) (tl + 8) (vp_nar .byte ((x3 >>> (24 &&& 31)).toInt8.toInt32))) (tl + 9) (vp_nar .byte ((x3 >>> (16 &&& 31)).toInt8.toInt32))))) := by rw [eG41]; exact zg_up_self _ _ _
                                                            refine lv_iinc (v := nI 10) (lv' := [(6, .int (nI 10)), (7, .int x3), (0, .ref a), (1, .int x1), (2, .int x2), (3, .int x3), (4, .int x4), (5, .int x5)]) hx hb d_Mo_feed_103 hl (k := 1) rfl (by decide) (by decide) rfl (fun ls hl => ?_)
                                                            refine lv_goto (tgt := 23) hx hb d_Mo_feed_106 (by decide) ?_
                                                            refine lv_iload hx hb d_Mo_feed_23 (lv_at hl 0 rfl) ?_
                                                            refine lv_bipush (v := 20) hx hb d_Mo_feed_25 (by decide) ?_
                                                            refine lv_icmp_ge (tgt := 109) hx hb d_Mo_feed_27 (by decide) (fun c27 => ?_) (fun c27 => ?_)
                                                            · have b27 : 20 ≤ 10 := (nI_leI (a := 20) (b := 10) (by omega) (by omega)).mp c27
                                                              exact absurd b27 (by decide)
                                                            · have b27 : ¬ 20 ≤ 10 := fun q => c27 ((nI_leI (a := 20) (b := 10) (by omega) (by omega)).mpr q)
                                                              refine lv_iload hx hb d_Mo_feed_30 (lv_at hl 0 rfl) ?_
                                                              refine lv_iconst (v := 4) hx hb d_Mo_feed_32 (by decide) ?_
                                                              refine lv_icmp_ge (tgt := 40) hx hb d_Mo_feed_33 (by decide) (fun c33 => ?_) (fun c33 => ?_)
                                                              · have b33 : 4 ≤ 10 := (nI_leI (a := 4) (b := 10) (by omega) (by omega)).mp c33
                                                                refine lv_iload hx hb d_Mo_feed_40 (lv_at hl 0 rfl) ?_
                                                                refine lv_bipush (v := 8) hx hb d_Mo_feed_42 (by decide) ?_
                                                                refine lv_icmp_ge (tgt := 51) hx hb d_Mo_feed_44 (by decide) (fun c44 => ?_) (fun c44 => ?_)
                                                                · have b44 : 8 ≤ 10 := (nI_leI (a := 8) (b := 10) (by omega) (by omega)).mp c44
                                                                  refine lv_iload hx hb d_Mo_feed_51 (lv_at hl 0 rfl) ?_
                                                                  refine lv_bipush (v := 12) hx hb d_Mo_feed_53 (by decide) ?_
                                                                  refine lv_icmp_ge (tgt := 62) hx hb d_Mo_feed_55 (by decide) (fun c55 => ?_) (fun c55 => ?_)
                                                                  · have b55 : 12 ≤ 10 := (nI_leI (a := 12) (b := 10) (by omega) (by omega)).mp c55
                                                                    exact absurd b55 (by decide)
                                                                  · have b55 : ¬ 12 ≤ 10 := fun q => c55 ((nI_leI (a := 12) (b := 10) (by omega) (by omega)).mpr q)
                                                                    refine lv_iload_n hx hb d_Mo_feed_58 rfl (lv_at hl 5 rfl) ?_
                                                                    refine lv_goto (tgt := 76) hx hb d_Mo_feed_59 (by decide) ?_
                                                                    refine lv_istore (lv' := [(7, .int x3), (6, .int (nI 10)), (0, .ref a), (1, .int x1), (2, .int x2), (3, .int x3), (4, .int x4), (5, .int x5)]) hx hb d_Mo_feed_76 hl (by decide) rfl (fun ls hl => ?_)
                                                                    refine lv_aload_n hx hb d_Mo_feed_78 rfl (lv_at hl 2 rfl) ?_
                                                                    refine zg_get (ci := 11) (C := "ZoneAnswersModel") (T := T_Mo) (N := 21) hx hb hts zi_Mo hown hK hG k43 rfl 1 (by decide) (hts _ w_1282) (fun _ h9 => h9) rfl d_Mo_feed_79 ?_
                                                                    refine lv_aload_n hx hb d_Mo_feed_82 rfl (lv_at hl 2 rfl) ?_
                                                                    refine zg_get (ci := 11) (C := "ZoneAnswersModel") (T := T_Mo) (N := 21) hx hb hts zi_Mo hown hK hG k43 rfl 2 (by decide) (hts _ w_1283) (fun _ h9 => h9) rfl d_Mo_feed_83 ?_
                                                                    refine lv_iload hx hb d_Mo_feed_86 (lv_at hl 1 rfl) ?_
                                                                    refine lv_iadd hx hb d_Mo_feed_88 ?_
                                                                    refine zi_as (y := nI (tl + 10)) (nI_add tl 10) ?_
                                                                    refine lv_iload hx hb d_Mo_feed_89 (lv_at hl 0 rfl) ?_
                                                                    refine lv_bipush (v := 8) hx hb d_Mo_feed_91 (by decide) ?_
                                                                    refine lv_iconst (v := 3) hx hb d_Mo_feed_93 (by decide) ?_
                                                                    refine lv_iload hx hb d_Mo_feed_94 (lv_at hl 1 rfl) ?_
                                                                    refine lv_iconst (v := 4) hx hb d_Mo_feed_96 (by decide) ?_
                                                                    refine lv_irem hx hb d_Mo_feed_97 (by decide) ?_
                                                                    refine zi_as (y := 2) (by decide) ?_
                                                                    refine lv_isub hx hb d_Mo_feed_98 ?_
                                                                    refine zi_as (y := 1) (by decide) ?_
                                                                    refine lv_imul hx hb d_Mo_feed_99 ?_
                                                                    refine zi_as (y := 8) (by decide) ?_
                                                                    refine lv_ishr hx hb d_Mo_feed_100 ?_
                                                                    refine lv_i2b hx hb d_Mo_feed_101 rfl ?_
                                                                    refine zg_bast hx hb hK hG hS 0 k44 rfl (vp_in_nI (by omega) (by omega)) d_Mo_feed_102 (fun H locs hG hS => ?_)
                                                                    rw [zi_n (tl + 10) (by omega)] at hG
                                                                    obtain ⟨G45, eG45⟩ : ∃ z : zg_G, z = zg_up G41 m1 (.inl (E.2.1 0, 65536, .inl (upd (upd (upd (upd (upd (upd (upd (upd (upd (upd (upd fm (tl + 0) (vp_nar .byte ((x1 >>> (24 &&& 31)).toInt8.toInt32))) (tl + 1) (vp_nar .byte ((x1 >>> (16 &&& 31)).toInt8.toInt32))) (tl + 2) (vp_nar .byte ((x1 >>> (8 &&& 31)).toInt8.toInt32))) (tl + 3) (vp_nar .byte x1.toInt8.toInt32)) (tl + 4) (vp_nar .byte ((x2 >>> (24 &&& 31)).toInt8.toInt32))) (tl + 5) (vp_nar .byte ((x2 >>> (16 &&& 31)).toInt8.toInt32))) (tl + 6) (vp_nar .byte ((x2 >>> (8 &&& 31)).toInt8.toInt32))) (tl + 7) (vp_nar .byte x2.toInt8.toInt32)) (tl + 8) (vp_nar .byte ((x3 >>> (24 &&& 31)).toInt8.toInt32))) (tl + 9) (vp_nar .byte ((x3 >>> (16 &&& 31)).toInt8.toInt32))) (tl + 10) (vp_nar .byte ((x3 >>> (8 &&& 31)).toInt8.toInt32))))) := ⟨_, rfl⟩
                                                                    have hG : zP E G45 H := by rw [eG45]; exact hG
                                                                    have hx46 : zx (fun q => q = a ∨ q = m1) G G45 := hx42.tr (by rw [eG45]; exact zx.up (Or.inr rfl))
                                                                    have k47 : G45 a = some (.inr (11, [.int 0, .ref m1, .int (nI tl), .ref m3, .ref m4, .int m5, .ref m6, .ref m7, .ref m8, .ref m9, .ref m10, .ref m11, .ref m12, .int m13, .int m14, .ref m15, .int m16, .int m17, .ref m18, m19, m20])) := by rw [eG45, zg_up_ne (zg_ne k43 k44 (by intro h; simp at h))]; exact k43
                                                                    have k48 : G45 m1 = some (.inl (E.2.1 0, 65536, .inl (upd (upd (upd (upd (upd (upd (upd (upd (upd (upd (upd fm (tl + 0) (vp_nar .byte ((x1 >>> (24 &&& 31)).toInt8.toInt32))) (tl + 1) (vp_nar .byte ((x1 >>> (16 &&& 31)).toInt8.toInt32))) (tl + 2) (vp_nar .byte ((x1 >>> (8 &&& 31)).toInt8.toInt32))) (tl + 3) (vp_nar .byte x1.toInt8.toInt32)) (tl + 4) (vp_nar .byte ((x2 >>> (24 &&& 31)).toInt8.toInt32))) (tl + 5) (vp_nar .byte ((x2 >>> (16 &&& 31)).toInt8.toInt32))) (tl + 6) (vp_nar .byte ((x2 >>> (8 &&& 31)).toInt8.toInt32))) (tl + 7) (vp_nar .byte x2.toInt8.toInt32)) (tl + 8) (vp_nar .byte ((x3 >>> (24 &&& 31)).toInt8.toInt32))) (tl + 9) (vp_nar .byte ((x3 >>> (16 &&& 31)).toInt8.toInt32))) (tl + 10) (vp_nar .byte ((x3 >>> (8 &&& 31)).toInt8.toInt32))))) := by rw [eG45]; exact zg_up_self _ _ _
                                                                    refine lv_iinc (v := nI 11) (lv' := [(6, .int (nI 11)), (7, .int x3), (0, .ref a), (1, .int x1), (2, .int x2), (3, .int x3), (4, .int x4), (5, .int x5)]) hx hb d_Mo_feed_103 hl (k := 1) rfl (by decide) (by decide) rfl (fun ls hl => ?_)
                                                                    refine lv_goto (tgt := 23) hx hb d_Mo_feed_106 (by decide) ?_
                                                                    refine lv_iload hx hb d_Mo_feed_23 (lv_at hl 0 rfl) ?_
                                                                    refine lv_bipush (v := 20) hx hb d_Mo_feed_25 (by decide) ?_
                                                                    refine lv_icmp_ge (tgt := 109) hx hb d_Mo_feed_27 (by decide) (fun c27 => ?_) (fun c27 => ?_)
                                                                    · have b27 : 20 ≤ 11 := (nI_leI (a := 20) (b := 11) (by omega) (by omega)).mp c27
                                                                      exact absurd b27 (by decide)
                                                                    · have b27 : ¬ 20 ≤ 11 := fun q => c27 ((nI_leI (a := 20) (b := 11) (by omega) (by omega)).mpr q)
                                                                      refine lv_iload hx hb d_Mo_feed_30 (lv_at hl 0 rfl) ?_
                                                                      refine lv_iconst (v := 4) hx hb d_Mo_feed_32 (by decide) ?_
                                                                      refine lv_icmp_ge (tgt := 40) hx hb d_Mo_feed_33 (by decide) (fun c33 => ?_) (fun c33 => ?_)
                                                                      · have b33 : 4 ≤ 11 := (nI_leI (a := 4) (b := 11) (by omega) (by omega)).mp c33
                                                                        refine lv_iload hx hb d_Mo_feed_40 (lv_at hl 0 rfl) ?_
                                                                        refine lv_bipush (v := 8) hx hb d_Mo_feed_42 (by decide) ?_
                                                                        refine lv_icmp_ge (tgt := 51) hx hb d_Mo_feed_44 (by decide) (fun c44 => ?_) (fun c44 => ?_)
                                                                        · have b44 : 8 ≤ 11 := (nI_leI (a := 8) (b := 11) (by omega) (by omega)).mp c44
                                                                          refine lv_iload hx hb d_Mo_feed_51 (lv_at hl 0 rfl) ?_
                                                                          refine lv_bipush (v := 12) hx hb d_Mo_feed_53 (by decide) ?_
                                                                          refine lv_icmp_ge (tgt := 62) hx hb d_Mo_feed_55 (by decide) (fun c55 => ?_) (fun c55 => ?_)
                                                                          · have b55 : 12 ≤ 11 := (nI_leI (a := 12) (b := 11) (by omega) (by omega)).mp c55
                                                                            exact absurd b55 (by decide)
                                                                          · have b55 : ¬ 12 ≤ 11 := fun q => c55 ((nI_leI (a := 12) (b := 11) (by omega) (by omega)).mpr q)
                                                                            refine lv_iload_n hx hb d_Mo_feed_58 rfl (lv_at hl 5 rfl) ?_
                                                                            refine lv_goto (tgt := 76) hx hb d_Mo_feed_59 (by decide) ?_
                                                                            refine lv_istore (lv' := [(7, .int x3), (6, .int (nI 11)), (0, .ref a), (1, .int x1), (2, .int x2), (3, .int x3), (4, .int x4), (5, .int x5)]) hx hb d_Mo_feed_76 hl (by decide) rfl (fun ls hl => ?_)
                                                                            refine lv_aload_n hx hb d_Mo_feed_78 rfl (lv_at hl 2 rfl) ?_
                                                                            refine zg_get (ci := 11) (C := "ZoneAnswersModel") (T := T_Mo) (N := 21) hx hb hts zi_Mo hown hK hG k47 rfl 1 (by decide) (hts _ w_1282) (fun _ h9 => h9) rfl d_Mo_feed_79 ?_
                                                                            refine lv_aload_n hx hb d_Mo_feed_82 rfl (lv_at hl 2 rfl) ?_
                                                                            refine zg_get (ci := 11) (C := "ZoneAnswersModel") (T := T_Mo) (N := 21) hx hb hts zi_Mo hown hK hG k47 rfl 2 (by decide) (hts _ w_1283) (fun _ h9 => h9) rfl d_Mo_feed_83 ?_
                                                                            refine lv_iload hx hb d_Mo_feed_86 (lv_at hl 1 rfl) ?_
                                                                            refine lv_iadd hx hb d_Mo_feed_88 ?_
                                                                            refine zi_as (y := nI (tl + 11)) (nI_add tl 11) ?_
                                                                            refine lv_iload hx hb d_Mo_feed_89 (lv_at hl 0 rfl) ?_
                                                                            refine lv_bipush (v := 8) hx hb d_Mo_feed_91 (by decide) ?_
                                                                            refine lv_iconst (v := 3) hx hb d_Mo_feed_93 (by decide) ?_
                                                                            refine lv_iload hx hb d_Mo_feed_94 (lv_at hl 1 rfl) ?_
                                                                            refine lv_iconst (v := 4) hx hb d_Mo_feed_96 (by decide) ?_
                                                                            refine lv_irem hx hb d_Mo_feed_97 (by decide) ?_
                                                                            refine zi_as (y := 3) (by decide) ?_
                                                                            refine lv_isub hx hb d_Mo_feed_98 ?_
                                                                            refine zi_as (y := 0) (by decide) ?_
                                                                            refine lv_imul hx hb d_Mo_feed_99 ?_
                                                                            refine zi_as (y := 0) (by decide) ?_
                                                                            refine lv_ishr hx hb d_Mo_feed_100 ?_
                                                                            refine zi_as (y := x3) (zsh0 x3) ?_
                                                                            refine lv_i2b hx hb d_Mo_feed_101 rfl ?_
                                                                            refine zg_bast hx hb hK hG hS 0 k48 rfl (vp_in_nI (by omega) (by omega)) d_Mo_feed_102 (fun H locs hG hS => ?_)
                                                                            rw [zi_n (tl + 11) (by omega)] at hG
                                                                            obtain ⟨G49, eG49⟩ : ∃ z : zg_G, z = zg_up G45 m1 (.inl (E.2.1 0, 65536, .inl (upd (upd (upd (upd (upd (upd (upd (upd (upd (upd (upd (upd fm (tl + 0) (vp_nar .byte ((x1 >>> (24 &&& 31)).toInt8.toInt32))) (tl + 1) (vp_nar .byte ((x1 >>> (16 &&& 31)).toInt8.toInt32))) (tl + 2) (vp_nar .byte ((x1 >>> (8 &&& 31)).toInt8.toInt32))) (tl + 3) (vp_nar .byte x1.toInt8.toInt32)) (tl + 4) (vp_nar .byte ((x2 >>> (24 &&& 31)).toInt8.toInt32))) (tl + 5) (vp_nar .byte ((x2 >>> (16 &&& 31)).toInt8.toInt32))) (tl + 6) (vp_nar .byte ((x2 >>> (8 &&& 31)).toInt8.toInt32))) (tl + 7) (vp_nar .byte x2.toInt8.toInt32)) (tl + 8) (vp_nar .byte ((x3 >>> (24 &&& 31)).toInt8.toInt32))) (tl + 9) (vp_nar .byte ((x3 >>> (16 &&& 31)).toInt8.toInt32))) (tl + 10) (vp_nar .byte ((x3 >>> (8 &&& 31)).toInt8.toInt32))) (tl + 11) (vp_nar .byte x3.toInt8.toInt32)))) := ⟨_, rfl⟩
                                                                            have hG : zP E G49 H := by rw [eG49]; exact hG
                                                                            have hx50 : zx (fun q => q = a ∨ q = m1) G G49 := hx46.tr (by rw [eG49]; exact zx.up (Or.inr rfl))
                                                                            have k51 : G49 a = some (.inr (11, [.int 0, .ref m1, .int (nI tl), .ref m3, .ref m4, .int m5, .ref m6, .ref m7, .ref m8, .ref m9, .ref m10, .ref m11, .ref m12, .int m13, .int m14, .ref m15, .int m16, .int m17, .ref m18, m19, m20])) := by rw [eG49, zg_up_ne (zg_ne k47 k48 (by intro h; simp at h))]; exact k47
                                                                            have k52 : G49 m1 = some (.inl (E.2.1 0, 65536, .inl (upd (upd (upd (upd (upd (upd (upd (upd (upd (upd (upd (upd fm (tl + 0) (vp_nar .byte ((x1 >>> (24 &&& 31)).toInt8.toInt32))) (tl + 1) (vp_nar .byte ((x1 >>> (16 &&& 31)).toInt8.toInt32))) (tl + 2) (vp_nar .byte ((x1 >>> (8 &&& 31)).toInt8.toInt32))) (tl + 3) (vp_nar .byte x1.toInt8.toInt32)) (tl + 4) (vp_nar .byte ((x2 >>> (24 &&& 31)).toInt8.toInt32))) (tl + 5) (vp_nar .byte ((x2 >>> (16 &&& 31)).toInt8.toInt32))) (tl + 6) (vp_nar .byte ((x2 >>> (8 &&& 31)).toInt8.toInt32))) (tl + 7) (vp_nar .byte x2.toInt8.toInt32)) (tl + 8) (vp_nar .byte ((x3 >>> (24 &&& 31)).toInt8.toInt32))) (tl + 9) (vp_nar .byte ((x3 >>> (16 &&& 31)).toInt8.toInt32))) (tl + 10) (vp_nar .byte ((x3 >>> (8 &&& 31)).toInt8.toInt32))) (tl + 11) (vp_nar .byte x3.toInt8.toInt32)))) := by rw [eG49]; exact zg_up_self _ _ _
                                                                            refine lv_iinc (v := nI 12) (lv' := [(6, .int (nI 12)), (7, .int x3), (0, .ref a), (1, .int x1), (2, .int x2), (3, .int x3), (4, .int x4), (5, .int x5)]) hx hb d_Mo_feed_103 hl (k := 1) rfl (by decide) (by decide) rfl (fun ls hl => ?_)
                                                                            refine lv_goto (tgt := 23) hx hb d_Mo_feed_106 (by decide) ?_
                                                                            refine lv_iload hx hb d_Mo_feed_23 (lv_at hl 0 rfl) ?_
                                                                            refine lv_bipush (v := 20) hx hb d_Mo_feed_25 (by decide) ?_
                                                                            refine lv_icmp_ge (tgt := 109) hx hb d_Mo_feed_27 (by decide) (fun c27 => ?_) (fun c27 => ?_)
                                                                            · have b27 : 20 ≤ 12 := (nI_leI (a := 20) (b := 12) (by omega) (by omega)).mp c27
                                                                              exact absurd b27 (by decide)
                                                                            · have b27 : ¬ 20 ≤ 12 := fun q => c27 ((nI_leI (a := 20) (b := 12) (by omega) (by omega)).mpr q)
                                                                              refine lv_iload hx hb d_Mo_feed_30 (lv_at hl 0 rfl) ?_
                                                                              refine lv_iconst (v := 4) hx hb d_Mo_feed_32 (by decide) ?_
                                                                              refine lv_icmp_ge (tgt := 40) hx hb d_Mo_feed_33 (by decide) (fun c33 => ?_) (fun c33 => ?_)
                                                                              · have b33 : 4 ≤ 12 := (nI_leI (a := 4) (b := 12) (by omega) (by omega)).mp c33
                                                                                refine lv_iload hx hb d_Mo_feed_40 (lv_at hl 0 rfl) ?_
                                                                                refine lv_bipush (v := 8) hx hb d_Mo_feed_42 (by decide) ?_
                                                                                refine lv_icmp_ge (tgt := 51) hx hb d_Mo_feed_44 (by decide) (fun c44 => ?_) (fun c44 => ?_)
                                                                                · have b44 : 8 ≤ 12 := (nI_leI (a := 8) (b := 12) (by omega) (by omega)).mp c44
                                                                                  refine lv_iload hx hb d_Mo_feed_51 (lv_at hl 0 rfl) ?_
                                                                                  refine lv_bipush (v := 12) hx hb d_Mo_feed_53 (by decide) ?_
                                                                                  refine lv_icmp_ge (tgt := 62) hx hb d_Mo_feed_55 (by decide) (fun c55 => ?_) (fun c55 => ?_)
                                                                                  · have b55 : 12 ≤ 12 := (nI_leI (a := 12) (b := 12) (by omega) (by omega)).mp c55
                                                                                    refine lv_iload hx hb d_Mo_feed_62 (lv_at hl 0 rfl) ?_
                                                                                    refine lv_bipush (v := 16) hx hb d_Mo_feed_64 (by decide) ?_
                                                                                    refine lv_icmp_ge (tgt := 74) hx hb d_Mo_feed_66 (by decide) (fun c66 => ?_) (fun c66 => ?_)
                                                                                    · have b66 : 16 ≤ 12 := (nI_leI (a := 16) (b := 12) (by omega) (by omega)).mp c66
                                                                                      exact absurd b66 (by decide)
                                                                                    · have b66 : ¬ 16 ≤ 12 := fun q => c66 ((nI_leI (a := 16) (b := 12) (by omega) (by omega)).mpr q)
                                                                                      refine lv_iload hx hb d_Mo_feed_69 (lv_at hl 6 rfl) ?_
                                                                                      refine lv_goto (tgt := 76) hx hb d_Mo_feed_71 (by decide) ?_
                                                                                      refine lv_istore (lv' := [(7, .int x4), (6, .int (nI 12)), (0, .ref a), (1, .int x1), (2, .int x2), (3, .int x3), (4, .int x4), (5, .int x5)]) hx hb d_Mo_feed_76 hl (by decide) rfl (fun ls hl => ?_)
                                                                                      refine lv_aload_n hx hb d_Mo_feed_78 rfl (lv_at hl 2 rfl) ?_
                                                                                      refine zg_get (ci := 11) (C := "ZoneAnswersModel") (T := T_Mo) (N := 21) hx hb hts zi_Mo hown hK hG k51 rfl 1 (by decide) (hts _ w_1282) (fun _ h9 => h9) rfl d_Mo_feed_79 ?_
                                                                                      refine lv_aload_n hx hb d_Mo_feed_82 rfl (lv_at hl 2 rfl) ?_
                                                                                      refine zg_get (ci := 11) (C := "ZoneAnswersModel") (T := T_Mo) (N := 21) hx hb hts zi_Mo hown hK hG k51 rfl 2 (by decide) (hts _ w_1283) (fun _ h9 => h9) rfl d_Mo_feed_83 ?_
                                                                                      refine lv_iload hx hb d_Mo_feed_86 (lv_at hl 1 rfl) ?_
                                                                                      refine lv_iadd hx hb d_Mo_feed_88 ?_
                                                                                      refine zi_as (y := nI (tl + 12)) (nI_add tl 12) ?_
                                                                                      refine lv_iload hx hb d_Mo_feed_89 (lv_at hl 0 rfl) ?_
                                                                                      refine lv_bipush (v := 8) hx hb d_Mo_feed_91 (by decide) ?_
                                                                                      refine lv_iconst (v := 3) hx hb d_Mo_feed_93 (by decide) ?_
                                                                                      refine lv_iload hx hb d_Mo_feed_94 (lv_at hl 1 rfl) ?_
                                                                                      refine lv_iconst (v := 4) hx hb d_Mo_feed_96 (by decide) ?_
                                                                                      refine lv_irem hx hb d_Mo_feed_97 (by decide) ?_
                                                                                      refine zi_as (y := 0) (by decide) ?_
                                                                                      refine lv_isub hx hb d_Mo_feed_98 ?_
                                                                                      refine zi_as (y := 3) (by decide) ?_
                                                                                      refine lv_imul hx hb d_Mo_feed_99 ?_
                                                                                      refine zi_as (y := 24) (by decide) ?_
                                                                                      refine lv_ishr hx hb d_Mo_feed_100 ?_
                                                                                      refine lv_i2b hx hb d_Mo_feed_101 rfl ?_
                                                                                      refine zg_bast hx hb hK hG hS 0 k52 rfl (vp_in_nI (by omega) (by omega)) d_Mo_feed_102 (fun H locs hG hS => ?_)
                                                                                      rw [zi_n (tl + 12) (by omega)] at hG
                                                                                      obtain ⟨G53, eG53⟩ : ∃ z : zg_G, z = zg_up G49 m1 (.inl (E.2.1 0, 65536, .inl (upd (upd (upd (upd (upd (upd (upd (upd (upd (upd (upd (upd (upd fm (tl + 0) (vp_nar .byte ((x1 >>> (24 &&& 31)).toInt8.toInt32))) (tl + 1) (vp_nar .byte ((x1 >>> (16 &&& 31)).toInt8.toInt32))) (tl + 2) (vp_nar .byte ((x1 >>> (8 &&& 31)).toInt8.toInt32))) (tl + 3) (vp_nar .byte x1.toInt8.toInt32)) (tl + 4) (vp_nar .byte ((x2 >>> (24 &&& 31)).toInt8.toInt32))) (tl + 5) (vp_nar .byte ((x2 >>> (16 &&& 31)).toInt8.toInt32))) (tl + 6) (vp_nar .byte ((x2 >>> (8 &&& 31)).toInt8.toInt32))) (tl + 7) (vp_nar .byte x2.toInt8.toInt32)) (tl + 8) (vp_nar .byte ((x3 >>> (24 &&& 31)).toInt8.toInt32))) (tl + 9) (vp_nar .byte ((x3 >>> (16 &&& 31)).toInt8.toInt32))) (tl + 10) (vp_nar .byte ((x3 >>> (8 &&& 31)).toInt8.toInt32))) (tl + 11) (vp_nar .byte x3.toInt8.toInt32)) (tl + 12) (vp_nar .byte ((x4 >>> (24 &&& 31)).toInt8.toInt32))))) := ⟨_, rfl⟩
                                                                                      have hG : zP E G53 H := by rw [eG53]; exact hG
                                                                                      have hx54 : zx (fun q => q = a ∨ q = m1) G G53 := hx50.tr (by rw [eG53]; exact zx.up (Or.inr rfl))
                                                                                      have k55 : G53 a = some (.inr (11, [.int 0, .ref m1, .int (nI tl), .ref m3, .ref m4, .int m5, .ref m6, .ref m7, .ref m8, .ref m9, .ref m10, .ref m11, .ref m12, .int m13, .int m14, .ref m15, .int m16, .int m17, .ref m18, m19, m20])) := by rw [eG53, zg_up_ne (zg_ne k51 k52 (by intro h; simp at h))]; exact k51
                                                                                      have k56 : G53 m1 = some (.inl (E.2.1 0, 65536, .inl (upd (upd (upd (upd (upd (upd (upd (upd (upd (upd (upd (upd (upd fm (tl + 0) (vp_nar .byte ((x1 >>> (24 &&& 31)).toInt8.toInt32))) (tl + 1) (vp_nar .byte ((x1 >>> (16 &&& 31)).toInt8.toInt32))) (tl + 2) (vp_nar .byte ((x1 >>> (8 &&& 31)).toInt8.toInt32))) (tl + 3) (vp_nar .byte x1.toInt8.toInt32)) (tl + 4) (vp_nar .byte ((x2 >>> (24 &&& 31)).toInt8.toInt32))) (tl + 5) (vp_nar .byte ((x2 >>> (16 &&& 31)).toInt8.toInt32))) (tl + 6) (vp_nar .byte ((x2 >>> (8 &&& 31)).toInt8.toInt32))) (tl + 7) (vp_nar .byte x2.toInt8.toInt32)) (tl + 8) (vp_nar .byte ((x3 >>> (24 &&& 31)).toInt8.toInt32))) (tl + 9) (vp_nar .byte ((x3 >>> (16 &&& 31)).toInt8.toInt32))) (tl + 10) (vp_nar .byte ((x3 >>> (8 &&& 31)).toInt8.toInt32))) (tl + 11) (vp_nar .byte x3.toInt8.toInt32)) (tl + 12) (vp_nar .byte ((x4 >>> (24 &&& 31)).toInt8.toInt32))))) := by rw [eG53]; exact zg_up_self _ _ _
                                                                                      refine lv_iinc (v := nI 13) (lv' := [(6, .int (nI 13)), (7, .int x4), (0, .ref a), (1, .int x1), (2, .int x2), (3, .int x3), (4, .int x4), (5, .int x5)]) hx hb d_Mo_feed_103 hl (k := 1) rfl (by decide) (by decide) rfl (fun ls hl => ?_)
                                                                                      refine lv_goto (tgt := 23) hx hb d_Mo_feed_106 (by decide) ?_
                                                                                      refine lv_iload hx hb d_Mo_feed_23 (lv_at hl 0 rfl) ?_
                                                                                      refine lv_bipush (v := 20) hx hb d_Mo_feed_25 (by decide) ?_
                                                                                      refine lv_icmp_ge (tgt := 109) hx hb d_Mo_feed_27 (by decide) (fun c27 => ?_) (fun c27 => ?_)
                                                                                      · have b27 : 20 ≤ 13 := (nI_leI (a := 20) (b := 13) (by omega) (by omega)).mp c27
                                                                                        exact absurd b27 (by decide)
                                                                                      · have b27 : ¬ 20 ≤ 13 := fun q => c27 ((nI_leI (a := 20) (b := 13) (by omega) (by omega)).mpr q)
                                                                                        refine lv_iload hx hb d_Mo_feed_30 (lv_at hl 0 rfl) ?_
                                                                                        refine lv_iconst (v := 4) hx hb d_Mo_feed_32 (by decide) ?_
                                                                                        refine lv_icmp_ge (tgt := 40) hx hb d_Mo_feed_33 (by decide) (fun c33 => ?_) (fun c33 => ?_)
                                                                                        · have b33 : 4 ≤ 13 := (nI_leI (a := 4) (b := 13) (by omega) (by omega)).mp c33
                                                                                          refine lv_iload hx hb d_Mo_feed_40 (lv_at hl 0 rfl) ?_
                                                                                          refine lv_bipush (v := 8) hx hb d_Mo_feed_42 (by decide) ?_
                                                                                          refine lv_icmp_ge (tgt := 51) hx hb d_Mo_feed_44 (by decide) (fun c44 => ?_) (fun c44 => ?_)
                                                                                          · have b44 : 8 ≤ 13 := (nI_leI (a := 8) (b := 13) (by omega) (by omega)).mp c44
                                                                                            refine lv_iload hx hb d_Mo_feed_51 (lv_at hl 0 rfl) ?_
                                                                                            refine lv_bipush (v := 12) hx hb d_Mo_feed_53 (by decide) ?_
                                                                                            refine lv_icmp_ge (tgt := 62) hx hb d_Mo_feed_55 (by decide) (fun c55 => ?_) (fun c55 => ?_)
                                                                                            · have b55 : 12 ≤ 13 := (nI_leI (a := 12) (b := 13) (by omega) (by omega)).mp c55
                                                                                              refine lv_iload hx hb d_Mo_feed_62 (lv_at hl 0 rfl) ?_
                                                                                              refine lv_bipush (v := 16) hx hb d_Mo_feed_64 (by decide) ?_
                                                                                              refine lv_icmp_ge (tgt := 74) hx hb d_Mo_feed_66 (by decide) (fun c66 => ?_) (fun c66 => ?_)
                                                                                              · have b66 : 16 ≤ 13 := (nI_leI (a := 16) (b := 13) (by omega) (by omega)).mp c66
                                                                                                exact absurd b66 (by decide)
                                                                                              · have b66 : ¬ 16 ≤ 13 := fun q => c66 ((nI_leI (a := 16) (b := 13) (by omega) (by omega)).mpr q)
                                                                                                refine lv_iload hx hb d_Mo_feed_69 (lv_at hl 6 rfl) ?_
                                                                                                refine lv_goto (tgt := 76) hx hb d_Mo_feed_71 (by decide) ?_
                                                                                                refine lv_istore (lv' := [(7, .int x4), (6, .int (nI 13)), (0, .ref a), (1, .int x1), (2, .int x2), (3, .int x3), (4, .int x4), (5, .int x5)]) hx hb d_Mo_feed_76 hl (by decide) rfl (fun ls hl => ?_)
                                                                                                refine lv_aload_n hx hb d_Mo_feed_78 rfl (lv_at hl 2 rfl) ?_
                                                                                                refine zg_get (ci := 11) (C := "ZoneAnswersModel") (T := T_Mo) (N := 21) hx hb hts zi_Mo hown hK hG k55 rfl 1 (by decide) (hts _ w_1282) (fun _ h9 => h9) rfl d_Mo_feed_79 ?_
                                                                                                refine lv_aload_n hx hb d_Mo_feed_82 rfl (lv_at hl 2 rfl) ?_
                                                                                                refine zg_get (ci := 11) (C := "ZoneAnswersModel") (T := T_Mo) (N := 21) hx hb hts zi_Mo hown hK hG k55 rfl 2 (by decide) (hts _ w_1283) (fun _ h9 => h9) rfl d_Mo_feed_83 ?_
                                                                                                refine lv_iload hx hb d_Mo_feed_86 (lv_at hl 1 rfl) ?_
                                                                                                refine lv_iadd hx hb d_Mo_feed_88 ?_
                                                                                                refine zi_as (y := nI (tl + 13)) (nI_add tl 13) ?_
                                                                                                refine lv_iload hx hb d_Mo_feed_89 (lv_at hl 0 rfl) ?_
                                                                                                refine lv_bipush (v := 8) hx hb d_Mo_feed_91 (by decide) ?_
                                                                                                refine lv_iconst (v := 3) hx hb d_Mo_feed_93 (by decide) ?_
                                                                                                refine lv_iload hx hb d_Mo_feed_94 (lv_at hl 1 rfl) ?_
                                                                                                refine lv_iconst (v := 4) hx hb d_Mo_feed_96 (by decide) ?_
                                                                                                refine lv_irem hx hb d_Mo_feed_97 (by decide) ?_
                                                                                                refine zi_as (y := 1) (by decide) ?_
                                                                                                refine lv_isub hx hb d_Mo_feed_98 ?_
                                                                                                refine zi_as (y := 2) (by decide) ?_
                                                                                                refine lv_imul hx hb d_Mo_feed_99 ?_
                                                                                                refine zi_as (y := 16) (by decide) ?_
                                                                                                refine lv_ishr hx hb d_Mo_feed_100 ?_
                                                                                                refine lv_i2b hx hb d_Mo_feed_101 rfl ?_
                                                                                                refine zg_bast hx hb hK hG hS 0 k56 rfl (vp_in_nI (by omega) (by omega)) d_Mo_feed_102 (fun H locs hG hS => ?_)
                                                                                                rw [zi_n (tl + 13) (by omega)] at hG
                                                                                                obtain ⟨G57, eG57⟩ : ∃ z : zg_G, z = zg_up G53 m1 (.inl (E.2.1 0, 65536, .inl (upd (upd (upd (upd (upd (upd (upd (upd (upd (upd (upd (upd (upd (upd fm (tl + 0) (vp_nar .byte ((x1 >>> (24 &&& 31)).toInt8.toInt32))) (tl + 1) (vp_nar .byte ((x1 >>> (16 &&& 31)).toInt8.toInt32))) (tl + 2) (vp_nar .byte ((x1 >>> (8 &&& 31)).toInt8.toInt32))) (tl + 3) (vp_nar .byte x1.toInt8.toInt32)) (tl + 4) (vp_nar .byte ((x2 >>> (24 &&& 31)).toInt8.toInt32))) (tl + 5) (vp_nar .byte ((x2 >>> (16 &&& 31)).toInt8.toInt32))) (tl + 6) (vp_nar .byte ((x2 >>> (8 &&& 31)).toInt8.toInt32))) (tl + 7) (vp_nar .byte x2.toInt8.toInt32)) (tl + 8) (vp_nar .byte ((x3 >>> (24 &&& 31)).toInt8.toInt32))) (tl + 9) (vp_nar .byte ((x3 >>> (16 &&& 31)).toInt8.toInt32))) (tl + 10) (vp_nar .byte ((x3 >>> (8 &&& 31)).toInt8.toInt32))) (tl + 11) (vp_nar .byte x3.toInt8.toInt32)) (tl + 12) (vp_nar .byte ((x4 >>> (24 &&& 31)).toInt8.toInt32))) (tl + 13) (vp_nar .byte ((x4 >>> (16 &&& 31)).toInt8.toInt32))))) := ⟨_, rfl⟩
                                                                                                have hG : zP E G57 H := by rw [eG57]; exact hG
                                                                                                have hx58 : zx (fun q => q = a ∨ q = m1) G G57 := hx54.tr (by rw [eG57]; exact zx.up (Or.inr rfl))
                                                                                                have k59 : G57 a = some (.inr (11, [.int 0, .ref m1, .int (nI tl), .ref m3, .ref m4, .int m5, .ref m6, .ref m7, .ref m8, .ref m9, .ref m10, .ref m11, .ref m12, .int m13, .int m14, .ref m15, .int m16, .int m17, .ref m18, m19, m20])) := by rw [eG57, zg_up_ne (zg_ne k55 k56 (by intro h; simp at h))]; exact k55
                                                                                                have k60 : G57 m1 = some (.inl (E.2.1 0, 65536, .inl (upd (upd (upd (upd (upd (upd (upd (upd (upd (upd (upd (upd (upd (upd fm (tl + 0) (vp_nar .byte ((x1 >>> (24 &&& 31)).toInt8.toInt32))) (tl + 1) (vp_nar .byte ((x1 >>> (16 &&& 31)).toInt8.toInt32))) (tl + 2) (vp_nar .byte ((x1 >>> (8 &&& 31)).toInt8.toInt32))) (tl + 3) (vp_nar .byte x1.toInt8.toInt32)) (tl + 4) (vp_nar .byte ((x2 >>> (24 &&& 31)).toInt8.toInt32))) (tl + 5) (vp_nar .byte ((x2 >>> (16 &&& 31)).toInt8.toInt32))) (tl + 6) (vp_nar .byte ((x2 >>> (8 &&& 31)).toInt8.toInt32))) (tl + 7) (vp_nar .byte x2.toInt8.toInt32)) (tl + 8) (vp_nar .byte ((x3 >>> (24 &&& 31)).toInt8.toInt32))) (tl + 9) (vp_nar .byte ((x3 >>> (16 &&& 31)).toInt8.toInt32))) (tl + 10) (vp_nar .byte ((x3 >>> (8 &&& 31)).toInt8.toInt32))) (tl + 11) (vp_nar .byte x3.toInt8.toInt32)) (tl + 12) (vp_nar .byte ((x4 >>> (24 &&& 31)).toInt8.toInt32))) (tl + 13) (vp_nar .byte ((x4 >>> (16 &&& 31)).toInt8.toInt32))))) := by rw [eG57]; exact zg_up_self _ _ _
                                                                                                refine lv_iinc (v := nI 14) (lv' := [(6, .int (nI 14)), (7, .int x4), (0, .ref a), (1, .int x1), (2, .int x2), (3, .int x3), (4, .int x4), (5, .int x5)]) hx hb d_Mo_feed_103 hl (k := 1) rfl (by decide) (by decide) rfl (fun ls hl => ?_)
                                                                                                refine lv_goto (tgt := 23) hx hb d_Mo_feed_106 (by decide) ?_
                                                                                                refine lv_iload hx hb d_Mo_feed_23 (lv_at hl 0 rfl) ?_
                                                                                                refine lv_bipush (v := 20) hx hb d_Mo_feed_25 (by decide) ?_
                                                                                                refine lv_icmp_ge (tgt := 109) hx hb d_Mo_feed_27 (by decide) (fun c27 => ?_) (fun c27 => ?_)
                                                                                                · have b27 : 20 ≤ 14 := (nI_leI (a := 20) (b := 14) (by omega) (by omega)).mp c27
                                                                                                  exact absurd b27 (by decide)
                                                                                                · have b27 : ¬ 20 ≤ 14 := fun q => c27 ((nI_leI (a := 20) (b := 14) (by omega) (by omega)).mpr q)
                                                                                                  refine lv_iload hx hb d_Mo_feed_30 (lv_at hl 0 rfl) ?_
                                                                                                  refine lv_iconst (v := 4) hx hb d_Mo_feed_32 (by decide) ?_
                                                                                                  refine lv_icmp_ge (tgt := 40) hx hb d_Mo_feed_33 (by decide) (fun c33 => ?_) (fun c33 => ?_)
                                                                                                  · have b33 : 4 ≤ 14 := (nI_leI (a := 4) (b := 14) (by omega) (by omega)).mp c33
                                                                                                    refine lv_iload hx hb d_Mo_feed_40 (lv_at hl 0 rfl) ?_
                                                                                                    refine lv_bipush (v := 8) hx hb d_Mo_feed_42 (by decide) ?_
                                                                                                    refine lv_icmp_ge (tgt := 51) hx hb d_Mo_feed_44 (by decide) (fun c44 => ?_) (fun c44 => ?_)
                                                                                                    · have b44 : 8 ≤ 14 := (nI_leI (a := 8) (b := 14) (by omega) (by omega)).mp c44
                                                                                                      refine lv_iload hx hb d_Mo_feed_51 (lv_at hl 0 rfl) ?_
                                                                                                      refine lv_bipush (v := 12) hx hb d_Mo_feed_53 (by decide) ?_
                                                                                                      refine lv_icmp_ge (tgt := 62) hx hb d_Mo_feed_55 (by decide) (fun c55 => ?_) (fun c55 => ?_)
                                                                                                      · have b55 : 12 ≤ 14 := (nI_leI (a := 12) (b := 14) (by omega) (by omega)).mp c55
                                                                                                        refine lv_iload hx hb d_Mo_feed_62 (lv_at hl 0 rfl) ?_
                                                                                                        refine lv_bipush (v := 16) hx hb d_Mo_feed_64 (by decide) ?_
                                                                                                        refine lv_icmp_ge (tgt := 74) hx hb d_Mo_feed_66 (by decide) (fun c66 => ?_) (fun c66 => ?_)
                                                                                                        · have b66 : 16 ≤ 14 := (nI_leI (a := 16) (b := 14) (by omega) (by omega)).mp c66
                                                                                                          exact absurd b66 (by decide)
                                                                                                        · have b66 : ¬ 16 ≤ 14 := fun q => c66 ((nI_leI (a := 16) (b := 14) (by omega) (by omega)).mpr q)
                                                                                                          refine lv_iload hx hb d_Mo_feed_69 (lv_at hl 6 rfl) ?_
                                                                                                          refine lv_goto (tgt := 76) hx hb d_Mo_feed_71 (by decide) ?_
                                                                                                          refine lv_istore (lv' := [(7, .int x4), (6, .int (nI 14)), (0, .ref a), (1, .int x1), (2, .int x2), (3, .int x3), (4, .int x4), (5, .int x5)]) hx hb d_Mo_feed_76 hl (by decide) rfl (fun ls hl => ?_)
                                                                                                          refine lv_aload_n hx hb d_Mo_feed_78 rfl (lv_at hl 2 rfl) ?_
                                                                                                          refine zg_get (ci := 11) (C := "ZoneAnswersModel") (T := T_Mo) (N := 21) hx hb hts zi_Mo hown hK hG k59 rfl 1 (by decide) (hts _ w_1282) (fun _ h9 => h9) rfl d_Mo_feed_79 ?_
                                                                                                          refine lv_aload_n hx hb d_Mo_feed_82 rfl (lv_at hl 2 rfl) ?_
                                                                                                          refine zg_get (ci := 11) (C := "ZoneAnswersModel") (T := T_Mo) (N := 21) hx hb hts zi_Mo hown hK hG k59 rfl 2 (by decide) (hts _ w_1283) (fun _ h9 => h9) rfl d_Mo_feed_83 ?_
                                                                                                          refine lv_iload hx hb d_Mo_feed_86 (lv_at hl 1 rfl) ?_
                                                                                                          refine lv_iadd hx hb d_Mo_feed_88 ?_
                                                                                                          refine zi_as (y := nI (tl + 14)) (nI_add tl 14) ?_
                                                                                                          refine lv_iload hx hb d_Mo_feed_89 (lv_at hl 0 rfl) ?_
                                                                                                          refine lv_bipush (v := 8) hx hb d_Mo_feed_91 (by decide) ?_
                                                                                                          refine lv_iconst (v := 3) hx hb d_Mo_feed_93 (by decide) ?_
                                                                                                          refine lv_iload hx hb d_Mo_feed_94 (lv_at hl 1 rfl) ?_
                                                                                                          refine lv_iconst (v := 4) hx hb d_Mo_feed_96 (by decide) ?_
                                                                                                          refine lv_irem hx hb d_Mo_feed_97 (by decide) ?_
                                                                                                          refine zi_as (y := 2) (by decide) ?_
                                                                                                          refine lv_isub hx hb d_Mo_feed_98 ?_
                                                                                                          refine zi_as (y := 1) (by decide) ?_
                                                                                                          refine lv_imul hx hb d_Mo_feed_99 ?_
                                                                                                          refine zi_as (y := 8) (by decide) ?_
                                                                                                          refine lv_ishr hx hb d_Mo_feed_100 ?_
                                                                                                          refine lv_i2b hx hb d_Mo_feed_101 rfl ?_
                                                                                                          refine zg_bast hx hb hK hG hS 0 k60 rfl (vp_in_nI (by omega) (by omega)) d_Mo_feed_102 (fun H locs hG hS => ?_)
                                                                                                          rw [zi_n (tl + 14) (by omega)] at hG
                                                                                                          obtain ⟨G61, eG61⟩ : ∃ z : zg_G, z = zg_up G57 m1 (.inl (E.2.1 0, 65536, .inl (upd (upd (upd (upd (upd (upd (upd (upd (upd (upd (upd (upd (upd (upd (upd fm (tl + 0) (vp_nar .byte ((x1 >>> (24 &&& 31)).toInt8.toInt32))) (tl + 1) (vp_nar .byte ((x1 >>> (16 &&& 31)).toInt8.toInt32))) (tl + 2) (vp_nar .byte ((x1 >>> (8 &&& 31)).toInt8.toInt32))) (tl + 3) (vp_nar .byte x1.toInt8.toInt32)) (tl + 4) (vp_nar .byte ((x2 >>> (24 &&& 31)).toInt8.toInt32))) (tl + 5) (vp_nar .byte ((x2 >>> (16 &&& 31)).toInt8.toInt32))) (tl + 6) (vp_nar .byte ((x2 >>> (8 &&& 31)).toInt8.toInt32))) (tl + 7) (vp_nar .byte x2.toInt8.toInt32)) (tl + 8) (vp_nar .byte ((x3 >>> (24 &&& 31)).toInt8.toInt32))) (tl + 9) (vp_nar .byte ((x3 >>> (16 &&& 31)).toInt8.toInt32))) (tl + 10) (vp_nar .byte ((x3 >>> (8 &&& 31)).toInt8.toInt32))) (tl + 11) (vp_nar .byte x3.toInt8.toInt32)) (tl + 12) (vp_nar .byte ((x4 >>> (24 &&& 31)).toInt8.toInt32))) (tl + 13) (vp_nar .byte ((x4 >>> (16 &&& 31)).toInt8.toInt32))) (tl + 14) (vp_nar .byte ((x4 >>> (8 &&& 31)).toInt8.toInt32))))) := ⟨_, rfl⟩
                                                                                                          have hG : zP E G61 H := by rw [eG61]; exact hG
                                                                                                          have hx62 : zx (fun q => q = a ∨ q = m1) G G61 := hx58.tr (by rw [eG61]; exact zx.up (Or.inr rfl))
                                                                                                          have k63 : G61 a = some (.inr (11, [.int 0, .ref m1, .int (nI tl), .ref m3, .ref m4, .int m5, .ref m6, .ref m7, .ref m8, .ref m9, .ref m10, .ref m11, .ref m12, .int m13, .int m14, .ref m15, .int m16, .int m17, .ref m18, m19, m20])) := by rw [eG61, zg_up_ne (zg_ne k59 k60 (by intro h; simp at h))]; exact k59
                                                                                                          have k64 : G61 m1 = some (.inl (E.2.1 0, 65536, .inl (upd (upd (upd (upd (upd (upd (upd (upd (upd (upd (upd (upd (upd (upd (upd fm (tl + 0) (vp_nar .byte ((x1 >>> (24 &&& 31)).toInt8.toInt32))) (tl + 1) (vp_nar .byte ((x1 >>> (16 &&& 31)).toInt8.toInt32))) (tl + 2) (vp_nar .byte ((x1 >>> (8 &&& 31)).toInt8.toInt32))) (tl + 3) (vp_nar .byte x1.toInt8.toInt32)) (tl + 4) (vp_nar .byte ((x2 >>> (24 &&& 31)).toInt8.toInt32))) (tl + 5) (vp_nar .byte ((x2 >>> (16 &&& 31)).toInt8.toInt32))) (tl + 6) (vp_nar .byte ((x2 >>> (8 &&& 31)).toInt8.toInt32))) (tl + 7) (vp_nar .byte x2.toInt8.toInt32)) (tl + 8) (vp_nar .byte ((x3 >>> (24 &&& 31)).toInt8.toInt32))) (tl + 9) (vp_nar .byte ((x3 >>> (16 &&& 31)).toInt8.toInt32))) (tl + 10) (vp_nar .byte ((x3 >>> (8 &&& 31)).toInt8.toInt32))) (tl + 11) (vp_nar .byte x3.toInt8.toInt32)) (tl + 12) (vp_nar .byte ((x4 >>> (24 &&& 31)).toInt8.toInt32))) (tl + 13) (vp_nar .byte ((x4 >>> (16 &&& 31)).toInt8.toInt32))) (tl + 14) (vp_nar .byte ((x4 >>> (8 &&& 31)).toInt8.toInt32))))) := by rw [eG61]; exact zg_up_self _ _ _
                                                                                                          refine lv_iinc (v := nI 15) (lv' := [(6, .int (nI 15)), (7, .int x4), (0, .ref a), (1, .int x1), (2, .int x2), (3, .int x3), (4, .int x4), (5, .int x5)]) hx hb d_Mo_feed_103 hl (k := 1) rfl (by decide) (by decide) rfl (fun ls hl => ?_)
                                                                                                          refine lv_goto (tgt := 23) hx hb d_Mo_feed_106 (by decide) ?_
                                                                                                          refine lv_iload hx hb d_Mo_feed_23 (lv_at hl 0 rfl) ?_
                                                                                                          refine lv_bipush (v := 20) hx hb d_Mo_feed_25 (by decide) ?_
                                                                                                          refine lv_icmp_ge (tgt := 109) hx hb d_Mo_feed_27 (by decide) (fun c27 => ?_) (fun c27 => ?_)
                                                                                                          · have b27 : 20 ≤ 15 := (nI_leI (a := 20) (b := 15) (by omega) (by omega)).mp c27
                                                                                                            exact absurd b27 (by decide)
                                                                                                          · have b27 : ¬ 20 ≤ 15 := fun q => c27 ((nI_leI (a := 20) (b := 15) (by omega) (by omega)).mpr q)
                                                                                                            refine lv_iload hx hb d_Mo_feed_30 (lv_at hl 0 rfl) ?_
                                                                                                            refine lv_iconst (v := 4) hx hb d_Mo_feed_32 (by decide) ?_
                                                                                                            refine lv_icmp_ge (tgt := 40) hx hb d_Mo_feed_33 (by decide) (fun c33 => ?_) (fun c33 => ?_)
                                                                                                            · have b33 : 4 ≤ 15 := (nI_leI (a := 4) (b := 15) (by omega) (by omega)).mp c33
                                                                                                              refine lv_iload hx hb d_Mo_feed_40 (lv_at hl 0 rfl) ?_
                                                                                                              refine lv_bipush (v := 8) hx hb d_Mo_feed_42 (by decide) ?_
                                                                                                              refine lv_icmp_ge (tgt := 51) hx hb d_Mo_feed_44 (by decide) (fun c44 => ?_) (fun c44 => ?_)
                                                                                                              · have b44 : 8 ≤ 15 := (nI_leI (a := 8) (b := 15) (by omega) (by omega)).mp c44
                                                                                                                refine lv_iload hx hb d_Mo_feed_51 (lv_at hl 0 rfl) ?_
                                                                                                                refine lv_bipush (v := 12) hx hb d_Mo_feed_53 (by decide) ?_
                                                                                                                refine lv_icmp_ge (tgt := 62) hx hb d_Mo_feed_55 (by decide) (fun c55 => ?_) (fun c55 => ?_)
                                                                                                                · have b55 : 12 ≤ 15 := (nI_leI (a := 12) (b := 15) (by omega) (by omega)).mp c55
                                                                                                                  refine lv_iload hx hb d_Mo_feed_62 (lv_at hl 0 rfl) ?_
                                                                                                                  refine lv_bipush (v := 16) hx hb d_Mo_feed_64 (by decide) ?_
                                                                                                                  refine lv_icmp_ge (tgt := 74) hx hb d_Mo_feed_66 (by decide) (fun c66 => ?_) (fun c66 => ?_)
                                                                                                                  · have b66 : 16 ≤ 15 := (nI_leI (a := 16) (b := 15) (by omega) (by omega)).mp c66
                                                                                                                    exact absurd b66 (by decide)
                                                                                                                  · have b66 : ¬ 16 ≤ 15 := fun q => c66 ((nI_leI (a := 16) (b := 15) (by omega) (by omega)).mpr q)
                                                                                                                    refine lv_iload hx hb d_Mo_feed_69 (lv_at hl 6 rfl) ?_
                                                                                                                    refine lv_goto (tgt := 76) hx hb d_Mo_feed_71 (by decide) ?_
                                                                                                                    refine lv_istore (lv' := [(7, .int x4), (6, .int (nI 15)), (0, .ref a), (1, .int x1), (2, .int x2), (3, .int x3), (4, .int x4), (5, .int x5)]) hx hb d_Mo_feed_76 hl (by decide) rfl (fun ls hl => ?_)
                                                                                                                    refine lv_aload_n hx hb d_Mo_feed_78 rfl (lv_at hl 2 rfl) ?_
                                                                                                                    refine zg_get (ci := 11) (C := "ZoneAnswersModel") (T := T_Mo) (N := 21) hx hb hts zi_Mo hown hK hG k63 rfl 1 (by decide) (hts _ w_1282) (fun _ h9 => h9) rfl d_Mo_feed_79 ?_
                                                                                                                    refine lv_aload_n hx hb d_Mo_feed_82 rfl (lv_at hl 2 rfl) ?_
                                                                                                                    refine zg_get (ci := 11) (C := "ZoneAnswersModel") (T := T_Mo) (N := 21) hx hb hts zi_Mo hown hK hG k63 rfl 2 (by decide) (hts _ w_1283) (fun _ h9 => h9) rfl d_Mo_feed_83 ?_
                                                                                                                    refine lv_iload hx hb d_Mo_feed_86 (lv_at hl 1 rfl) ?_
                                                                                                                    refine lv_iadd hx hb d_Mo_feed_88 ?_
                                                                                                                    refine zi_as (y := nI (tl + 15)) (nI_add tl 15) ?_
                                                                                                                    refine lv_iload hx hb d_Mo_feed_89 (lv_at hl 0 rfl) ?_
                                                                                                                    refine lv_bipush (v := 8) hx hb d_Mo_feed_91 (by decide) ?_
                                                                                                                    refine lv_iconst (v := 3) hx hb d_Mo_feed_93 (by decide) ?_
                                                                                                                    refine lv_iload hx hb d_Mo_feed_94 (lv_at hl 1 rfl) ?_
                                                                                                                    refine lv_iconst (v := 4) hx hb d_Mo_feed_96 (by decide) ?_
                                                                                                                    refine lv_irem hx hb d_Mo_feed_97 (by decide) ?_
                                                                                                                    refine zi_as (y := 3) (by decide) ?_
                                                                                                                    refine lv_isub hx hb d_Mo_feed_98 ?_
                                                                                                                    refine zi_as (y := 0) (by decide) ?_
                                                                                                                    refine lv_imul hx hb d_Mo_feed_99 ?_
                                                                                                                    refine zi_as (y := 0) (by decide) ?_
                                                                                                                    refine lv_ishr hx hb d_Mo_feed_100 ?_
                                                                                                                    refine zi_as (y := x4) (zsh0 x4) ?_
                                                                                                                    refine lv_i2b hx hb d_Mo_feed_101 rfl ?_
                                                                                                                    refine zg_bast hx hb hK hG hS 0 k64 rfl (vp_in_nI (by omega) (by omega)) d_Mo_feed_102 (fun H locs hG hS => ?_)
                                                                                                                    rw [zi_n (tl + 15) (by omega)] at hG
                                                                                                                    obtain ⟨G65, eG65⟩ : ∃ z : zg_G, z = zg_up G61 m1 (.inl (E.2.1 0, 65536, .inl (upd (upd (upd (upd (upd (upd (upd (upd (upd (upd (upd (upd (upd (upd (upd (upd fm (tl + 0) (vp_nar .byte ((x1 >>> (24 &&& 31)).toInt8.toInt32))) (tl + 1) (vp_nar .byte ((x1 >>> (16 &&& 31)).toInt8.toInt32))) (tl + 2) (vp_nar .byte ((x1 >>> (8 &&& 31)).toInt8.toInt32))) (tl + 3) (vp_nar .byte x1.toInt8.toInt32)) (tl + 4) (vp_nar .byte ((x2 >>> (24 &&& 31)).toInt8.toInt32))) (tl + 5) (vp_nar .byte ((x2 >>> (16 &&& 31)).toInt8.toInt32))) (tl + 6) (vp_nar .byte ((x2 >>> (8 &&& 31)).toInt8.toInt32))) (tl + 7) (vp_nar .byte x2.toInt8.toInt32)) (tl + 8) (vp_nar .byte ((x3 >>> (24 &&& 31)).toInt8.toInt32))) (tl + 9) (vp_nar .byte ((x3 >>> (16 &&& 31)).toInt8.toInt32))) (tl + 10) (vp_nar .byte ((x3 >>> (8 &&& 31)).toInt8.toInt32))) (tl + 11) (vp_nar .byte x3.toInt8.toInt32)) (tl + 12) (vp_nar .byte ((x4 >>> (24 &&& 31)).toInt8.toInt32))) (tl + 13) (vp_nar .byte ((x4 >>> (16 &&& 31)).toInt8.toInt32))) (tl + 14) (vp_nar .byte ((x4 >>> (8 &&& 31)).toInt8.toInt32))) (tl + 15) (vp_nar .byte x4.toInt8.toInt32)))) := ⟨_, rfl⟩
                                                                                                                    have hG : zP E G65 H := by rw [eG65]; exact hG
                                                                                                                    have hx66 : zx (fun q => q = a ∨ q = m1) G G65 := hx62.tr (by rw [eG65]; exact zx.up (Or.inr rfl))
                                                                                                                    have k67 : G65 a = some (.inr (11, [.int 0, .ref m1, .int (nI tl), .ref m3, .ref m4, .int m5, .ref m6, .ref m7, .ref m8, .ref m9, .ref m10, .ref m11, .ref m12, .int m13, .int m14, .ref m15, .int m16, .int m17, .ref m18, m19, m20])) := by rw [eG65, zg_up_ne (zg_ne k63 k64 (by intro h; simp at h))]; exact k63
                                                                                                                    have k68 : G65 m1 = some (.inl (E.2.1 0, 65536, .inl (upd (upd (upd (upd (upd (upd (upd (upd (upd (upd (upd (upd (upd (upd (upd (upd fm (tl + 0) (vp_nar .byte ((x1 >>> (24 &&& 31)).toInt8.toInt32))) (tl + 1) (vp_nar .byte ((x1 >>> (16 &&& 31)).toInt8.toInt32))) (tl + 2) (vp_nar .byte ((x1 >>> (8 &&& 31)).toInt8.toInt32))) (tl + 3) (vp_nar .byte x1.toInt8.toInt32)) (tl + 4) (vp_nar .byte ((x2 >>> (24 &&& 31)).toInt8.toInt32))) (tl + 5) (vp_nar .byte ((x2 >>> (16 &&& 31)).toInt8.toInt32))) (tl + 6) (vp_nar .byte ((x2 >>> (8 &&& 31)).toInt8.toInt32))) (tl + 7) (vp_nar .byte x2.toInt8.toInt32)) (tl + 8) (vp_nar .byte ((x3 >>> (24 &&& 31)).toInt8.toInt32))) (tl + 9) (vp_nar .byte ((x3 >>> (16 &&& 31)).toInt8.toInt32))) (tl + 10) (vp_nar .byte ((x3 >>> (8 &&& 31)).toInt8.toInt32))) (tl + 11) (vp_nar .byte x3.toInt8.toInt32)) (tl + 12) (vp_nar .byte ((x4 >>> (24 &&& 31)).toInt8.toInt32))) (tl + 13) (vp_nar .byte ((x4 >>> (16 &&& 31)).toInt8.toInt32))) (tl + 14) (vp_nar .byte ((x4 >>> (8 &&& 31)).toInt8.toInt32))) (tl + 15) (vp_nar .byte x4.toInt8.toInt32)))) := by rw [eG65]; exact zg_up_self _ _ _
                                                                                                                    refine lv_iinc (v := nI 16) (lv' := [(6, .int (nI 16)), (7, .int x4), (0, .ref a), (1, .int x1), (2, .int x2), (3, .int x3), (4, .int x4), (5, .int x5)]) hx hb d_Mo_feed_103 hl (k := 1) rfl (by decide) (by decide) rfl (fun ls hl => ?_)
                                                                                                                    refine lv_goto (tgt := 23) hx hb d_Mo_feed_106 (by decide) ?_
                                                                                                                    refine lv_iload hx hb d_Mo_feed_23 (lv_at hl 0 rfl) ?_
                                                                                                                    refine lv_bipush (v := 20) hx hb d_Mo_feed_25 (by decide) ?_
                                                                                                                    refine lv_icmp_ge (tgt := 109) hx hb d_Mo_feed_27 (by decide) (fun c27 => ?_) (fun c27 => ?_)
                                                                                                                    · have b27 : 20 ≤ 16 := (nI_leI (a := 20) (b := 16) (by omega) (by omega)).mp c27
                                                                                                                      exact absurd b27 (by decide)
                                                                                                                    · have b27 : ¬ 20 ≤ 16 := fun q => c27 ((nI_leI (a := 20) (b := 16) (by omega) (by omega)).mpr q)
                                                                                                                      refine lv_iload hx hb d_Mo_feed_30 (lv_at hl 0 rfl) ?_
                                                                                                                      refine lv_iconst (v := 4) hx hb d_Mo_feed_32 (by decide) ?_
                                                                                                                      refine lv_icmp_ge (tgt := 40) hx hb d_Mo_feed_33 (by decide) (fun c33 => ?_) (fun c33 => ?_)
                                                                                                                      · have b33 : 4 ≤ 16 := (nI_leI (a := 4) (b := 16) (by omega) (by omega)).mp c33
                                                                                                                        refine lv_iload hx hb d_Mo_feed_40 (lv_at hl 0 rfl) ?_
                                                                                                                        refine lv_bipush (v := 8) hx hb d_Mo_feed_42 (by decide) ?_
                                                                                                                        refine lv_icmp_ge (tgt := 51) hx hb d_Mo_feed_44 (by decide) (fun c44 => ?_) (fun c44 => ?_)
                                                                                                                        · have b44 : 8 ≤ 16 := (nI_leI (a := 8) (b := 16) (by omega) (by omega)).mp c44
                                                                                                                          refine lv_iload hx hb d_Mo_feed_51 (lv_at hl 0 rfl) ?_
                                                                                                                          refine lv_bipush (v := 12) hx hb d_Mo_feed_53 (by decide) ?_
                                                                                                                          refine lv_icmp_ge (tgt := 62) hx hb d_Mo_feed_55 (by decide) (fun c55 => ?_) (fun c55 => ?_)
                                                                                                                          · have b55 : 12 ≤ 16 := (nI_leI (a := 12) (b := 16) (by omega) (by omega)).mp c55
                                                                                                                            refine lv_iload hx hb d_Mo_feed_62 (lv_at hl 0 rfl) ?_
                                                                                                                            refine lv_bipush (v := 16) hx hb d_Mo_feed_64 (by decide) ?_
                                                                                                                            refine lv_icmp_ge (tgt := 74) hx hb d_Mo_feed_66 (by decide) (fun c66 => ?_) (fun c66 => ?_)
                                                                                                                            · have b66 : 16 ≤ 16 := (nI_leI (a := 16) (b := 16) (by omega) (by omega)).mp c66
                                                                                                                              refine lv_iload hx hb d_Mo_feed_74 (lv_at hl 7 rfl) ?_
                                                                                                                              refine lv_istore (lv' := [(7, .int x5), (6, .int (nI 16)), (0, .ref a), (1, .int x1), (2, .int x2), (3, .int x3), (4, .int x4), (5, .int x5)]) hx hb d_Mo_feed_76 hl (by decide) rfl (fun ls hl => ?_)
                                                                                                                              refine lv_aload_n hx hb d_Mo_feed_78 rfl (lv_at hl 2 rfl) ?_
                                                                                                                              refine zg_get (ci := 11) (C := "ZoneAnswersModel") (T := T_Mo) (N := 21) hx hb hts zi_Mo hown hK hG k67 rfl 1 (by decide) (hts _ w_1282) (fun _ h9 => h9) rfl d_Mo_feed_79 ?_
                                                                                                                              refine lv_aload_n hx hb d_Mo_feed_82 rfl (lv_at hl 2 rfl) ?_
                                                                                                                              refine zg_get (ci := 11) (C := "ZoneAnswersModel") (T := T_Mo) (N := 21) hx hb hts zi_Mo hown hK hG k67 rfl 2 (by decide) (hts _ w_1283) (fun _ h9 => h9) rfl d_Mo_feed_83 ?_
                                                                                                                              refine lv_iload hx hb d_Mo_feed_86 (lv_at hl 1 rfl) ?_
                                                                                                                              refine lv_iadd hx hb d_Mo_feed_88 ?_
                                                                                                                              refine zi_as (y := nI (tl + 16)) (nI_add tl 16) ?_
                                                                                                                              refine lv_iload hx hb d_Mo_feed_89 (lv_at hl 0 rfl) ?_
                                                                                                                              refine lv_bipush (v := 8) hx hb d_Mo_feed_91 (by decide) ?_
                                                                                                                              refine lv_iconst (v := 3) hx hb d_Mo_feed_93 (by decide) ?_
                                                                                                                              refine lv_iload hx hb d_Mo_feed_94 (lv_at hl 1 rfl) ?_
                                                                                                                              refine lv_iconst (v := 4) hx hb d_Mo_feed_96 (by decide) ?_
                                                                                                                              refine lv_irem hx hb d_Mo_feed_97 (by decide) ?_
                                                                                                                              refine zi_as (y := 0) (by decide) ?_
                                                                                                                              refine lv_isub hx hb d_Mo_feed_98 ?_
                                                                                                                              refine zi_as (y := 3) (by decide) ?_
                                                                                                                              refine lv_imul hx hb d_Mo_feed_99 ?_
                                                                                                                              refine zi_as (y := 24) (by decide) ?_
                                                                                                                              refine lv_ishr hx hb d_Mo_feed_100 ?_
                                                                                                                              refine lv_i2b hx hb d_Mo_feed_101 rfl ?_
                                                                                                                              refine zg_bast hx hb hK hG hS 0 k68 rfl (vp_in_nI (by omega) (by omega)) d_Mo_feed_102 (fun H locs hG hS => ?_)
                                                                                                                              rw [zi_n (tl + 16) (by omega)] at hG
                                                                                                                              obtain ⟨G69, eG69⟩ : ∃ z : zg_G, z = zg_up G65 m1 (.inl (E.2.1 0, 65536, .inl (upd (upd (upd (upd (upd (upd (upd (upd (upd (upd (upd (upd (upd (upd (upd (upd (upd fm (tl + 0) (vp_nar .byte ((x1 >>> (24 &&& 31)).toInt8.toInt32))) (tl + 1) (vp_nar .byte ((x1 >>> (16 &&& 31)).toInt8.toInt32))) (tl + 2) (vp_nar .byte ((x1 >>> (8 &&& 31)).toInt8.toInt32))) (tl + 3) (vp_nar .byte x1.toInt8.toInt32)) (tl + 4) (vp_nar .byte ((x2 >>> (24 &&& 31)).toInt8.toInt32))) (tl + 5) (vp_nar .byte ((x2 >>> (16 &&& 31)).toInt8.toInt32))) (tl + 6) (vp_nar .byte ((x2 >>> (8 &&& 31)).toInt8.toInt32))) (tl + 7) (vp_nar .byte x2.toInt8.toInt32)) (tl + 8) (vp_nar .byte ((x3 >>> (24 &&& 31)).toInt8.toInt32))) (tl + 9) (vp_nar .byte ((x3 >>> (16 &&& 31)).toInt8.toInt32))) (tl + 10) (vp_nar .byte ((x3 >>> (8 &&& 31)).toInt8.toInt32))) (tl + 11) (vp_nar .byte x3.toInt8.toInt32)) (tl + 12) (vp_nar .byte ((x4 >>> (24 &&& 31)).toInt8.toInt32))) (tl + 13) (vp_nar .byte ((x4 >>> (16 &&& 31)).toInt8.toInt32))) (tl + 14) (vp_nar .byte ((x4 >>> (8 &&& 31)).toInt8.toInt32))) (tl + 15) (vp_nar .byte x4.toInt8.toInt32)) (tl + 16) (vp_nar .byte ((x5 >>> (24 &&& 31)).toInt8.toInt32))))) := ⟨_, rfl⟩
                                                                                                                              have hG : zP E G69 H := by rw [eG69]; exact hG
                                                                                                                              have hx70 : zx (fun q => q = a ∨ q = m1) G G69 := hx66.tr (by rw [eG69]; exact zx.up (Or.inr rfl))
                                                                                                                              have k71 : G69 a = some (.inr (11, [.int 0, .ref m1, .int (nI tl), .ref m3, .ref m4, .int m5, .ref m6, .ref m7, .ref m8, .ref m9, .ref m10, .ref m11, .ref m12, .int m13, .int m14, .ref m15, .int m16, .int m17, .ref m18, m19, m20])) := by rw [eG69, zg_up_ne (zg_ne k67 k68 (by intro h; simp at h))]; exact k67
                                                                                                                              have k72 : G69 m1 = some (.inl (E.2.1 0, 65536, .inl (upd (upd (upd (upd (upd (upd (upd (upd (upd (upd (upd (upd (upd (upd (upd (upd (upd fm (tl + 0) (vp_nar .byte ((x1 >>> (24 &&& 31)).toInt8.toInt32))) (tl + 1) (vp_nar .byte ((x1 >>> (16 &&& 31)).toInt8.toInt32))) (tl + 2) (vp_nar .byte ((x1 >>> (8 &&& 31)).toInt8.toInt32))) (tl + 3) (vp_nar .byte x1.toInt8.toInt32)) (tl + 4) (vp_nar .byte ((x2 >>> (24 &&& 31)).toInt8.toInt32))) (tl + 5) (vp_nar .byte ((x2 >>> (16 &&& 31)).toInt8.toInt32))) (tl + 6) (vp_nar .byte ((x2 >>> (8 &&& 31)).toInt8.toInt32))) (tl + 7) (vp_nar .byte x2.toInt8.toInt32)) (tl + 8) (vp_nar .byte ((x3 >>> (24 &&& 31)).toInt8.toInt32))) (tl + 9) (vp_nar .byte ((x3 >>> (16 &&& 31)).toInt8.toInt32))) (tl + 10) (vp_nar .byte ((x3 >>> (8 &&& 31)).toInt8.toInt32))) (tl + 11) (vp_nar .byte x3.toInt8.toInt32)) (tl + 12) (vp_nar .byte ((x4 >>> (24 &&& 31)).toInt8.toInt32))) (tl + 13) (vp_nar .byte ((x4 >>> (16 &&& 31)).toInt8.toInt32))) (tl + 14) (vp_nar .byte ((x4 >>> (8 &&& 31)).toInt8.toInt32))) (tl + 15) (vp_nar .byte x4.toInt8.toInt32)) (tl + 16) (vp_nar .byte ((x5 >>> (24 &&& 31)).toInt8.toInt32))))) := by rw [eG69]; exact zg_up_self _ _ _
                                                                                                                              refine lv_iinc (v := nI 17) (lv' := [(6, .int (nI 17)), (7, .int x5), (0, .ref a), (1, .int x1), (2, .int x2), (3, .int x3), (4, .int x4), (5, .int x5)]) hx hb d_Mo_feed_103 hl (k := 1) rfl (by decide) (by decide) rfl (fun ls hl => ?_)
                                                                                                                              refine lv_goto (tgt := 23) hx hb d_Mo_feed_106 (by decide) ?_
                                                                                                                              refine lv_iload hx hb d_Mo_feed_23 (lv_at hl 0 rfl) ?_
                                                                                                                              refine lv_bipush (v := 20) hx hb d_Mo_feed_25 (by decide) ?_
                                                                                                                              refine lv_icmp_ge (tgt := 109) hx hb d_Mo_feed_27 (by decide) (fun c27 => ?_) (fun c27 => ?_)
                                                                                                                              · have b27 : 20 ≤ 17 := (nI_leI (a := 20) (b := 17) (by omega) (by omega)).mp c27
                                                                                                                                exact absurd b27 (by decide)
                                                                                                                              · have b27 : ¬ 20 ≤ 17 := fun q => c27 ((nI_leI (a := 20) (b := 17) (by omega) (by omega)).mpr q)
                                                                                                                                refine lv_iload hx hb d_Mo_feed_30 (lv_at hl 0 rfl) ?_
                                                                                                                                refine lv_iconst (v := 4) hx hb d_Mo_feed_32 (by decide) ?_
                                                                                                                                refine lv_icmp_ge (tgt := 40) hx hb d_Mo_feed_33 (by decide) (fun c33 => ?_) (fun c33 => ?_)
                                                                                                                                · have b33 : 4 ≤ 17 := (nI_leI (a := 4) (b := 17) (by omega) (by omega)).mp c33
                                                                                                                                  refine lv_iload hx hb d_Mo_feed_40 (lv_at hl 0 rfl) ?_
                                                                                                                                  refine lv_bipush (v := 8) hx hb d_Mo_feed_42 (by decide) ?_
                                                                                                                                  refine lv_icmp_ge (tgt := 51) hx hb d_Mo_feed_44 (by decide) (fun c44 => ?_) (fun c44 => ?_)
                                                                                                                                  · have b44 : 8 ≤ 17 := (nI_leI (a := 8) (b := 17) (by omega) (by omega)).mp c44
                                                                                                                                    refine lv_iload hx hb d_Mo_feed_51 (lv_at hl 0 rfl) ?_
                                                                                                                                    refine lv_bipush (v := 12) hx hb d_Mo_feed_53 (by decide) ?_
                                                                                                                                    refine lv_icmp_ge (tgt := 62) hx hb d_Mo_feed_55 (by decide) (fun c55 => ?_) (fun c55 => ?_)
                                                                                                                                    · have b55 : 12 ≤ 17 := (nI_leI (a := 12) (b := 17) (by omega) (by omega)).mp c55
                                                                                                                                      refine lv_iload hx hb d_Mo_feed_62 (lv_at hl 0 rfl) ?_
                                                                                                                                      refine lv_bipush (v := 16) hx hb d_Mo_feed_64 (by decide) ?_
                                                                                                                                      refine lv_icmp_ge (tgt := 74) hx hb d_Mo_feed_66 (by decide) (fun c66 => ?_) (fun c66 => ?_)
                                                                                                                                      · have b66 : 16 ≤ 17 := (nI_leI (a := 16) (b := 17) (by omega) (by omega)).mp c66
                                                                                                                                        refine lv_iload hx hb d_Mo_feed_74 (lv_at hl 7 rfl) ?_
                                                                                                                                        refine lv_istore (lv' := [(7, .int x5), (6, .int (nI 17)), (0, .ref a), (1, .int x1), (2, .int x2), (3, .int x3), (4, .int x4), (5, .int x5)]) hx hb d_Mo_feed_76 hl (by decide) rfl (fun ls hl => ?_)
                                                                                                                                        refine lv_aload_n hx hb d_Mo_feed_78 rfl (lv_at hl 2 rfl) ?_
                                                                                                                                        refine zg_get (ci := 11) (C := "ZoneAnswersModel") (T := T_Mo) (N := 21) hx hb hts zi_Mo hown hK hG k71 rfl 1 (by decide) (hts _ w_1282) (fun _ h9 => h9) rfl d_Mo_feed_79 ?_
                                                                                                                                        refine lv_aload_n hx hb d_Mo_feed_82 rfl (lv_at hl 2 rfl) ?_
                                                                                                                                        refine zg_get (ci := 11) (C := "ZoneAnswersModel") (T := T_Mo) (N := 21) hx hb hts zi_Mo hown hK hG k71 rfl 2 (by decide) (hts _ w_1283) (fun _ h9 => h9) rfl d_Mo_feed_83 ?_
                                                                                                                                        refine lv_iload hx hb d_Mo_feed_86 (lv_at hl 1 rfl) ?_
                                                                                                                                        refine lv_iadd hx hb d_Mo_feed_88 ?_
                                                                                                                                        refine zi_as (y := nI (tl + 17)) (nI_add tl 17) ?_
                                                                                                                                        refine lv_iload hx hb d_Mo_feed_89 (lv_at hl 0 rfl) ?_
                                                                                                                                        refine lv_bipush (v := 8) hx hb d_Mo_feed_91 (by decide) ?_
                                                                                                                                        refine lv_iconst (v := 3) hx hb d_Mo_feed_93 (by decide) ?_
                                                                                                                                        refine lv_iload hx hb d_Mo_feed_94 (lv_at hl 1 rfl) ?_
                                                                                                                                        refine lv_iconst (v := 4) hx hb d_Mo_feed_96 (by decide) ?_
                                                                                                                                        refine lv_irem hx hb d_Mo_feed_97 (by decide) ?_
                                                                                                                                        refine zi_as (y := 1) (by decide) ?_
                                                                                                                                        refine lv_isub hx hb d_Mo_feed_98 ?_
                                                                                                                                        refine zi_as (y := 2) (by decide) ?_
                                                                                                                                        refine lv_imul hx hb d_Mo_feed_99 ?_
                                                                                                                                        refine zi_as (y := 16) (by decide) ?_
                                                                                                                                        refine lv_ishr hx hb d_Mo_feed_100 ?_
                                                                                                                                        refine lv_i2b hx hb d_Mo_feed_101 rfl ?_
                                                                                                                                        refine zg_bast hx hb hK hG hS 0 k72 rfl (vp_in_nI (by omega) (by omega)) d_Mo_feed_102 (fun H locs hG hS => ?_)
                                                                                                                                        rw [zi_n (tl + 17) (by omega)] at hG
                                                                                                                                        obtain ⟨G73, eG73⟩ : ∃ z : zg_G, z = zg_up G69 m1 (.inl (E.2.1 0, 65536, .inl (upd (upd (upd (upd (upd (upd (upd (upd (upd (upd (upd (upd (upd (upd (upd (upd (upd (upd fm (tl + 0) (vp_nar .byte ((x1 >>> (24 &&& 31)).toInt8.toInt32))) (tl + 1) (vp_nar .byte ((x1 >>> (16 &&& 31)).toInt8.toInt32))) (tl + 2) (vp_nar .byte ((x1 >>> (8 &&& 31)).toInt8.toInt32))) (tl + 3) (vp_nar .byte x1.toInt8.toInt32)) (tl + 4) (vp_nar .byte ((x2 >>> (24 &&& 31)).toInt8.toInt32))) (tl + 5) (vp_nar .byte ((x2 >>> (16 &&& 31)).toInt8.toInt32))) (tl + 6) (vp_nar .byte ((x2 >>> (8 &&& 31)).toInt8.toInt32))) (tl + 7) (vp_nar .byte x2.toInt8.toInt32)) (tl + 8) (vp_nar .byte ((x3 >>> (24 &&& 31)).toInt8.toInt32))) (tl + 9) (vp_nar .byte ((x3 >>> (16 &&& 31)).toInt8.toInt32))) (tl + 10) (vp_nar .byte ((x3 >>> (8 &&& 31)).toInt8.toInt32))) (tl + 11) (vp_nar .byte x3.toInt8.toInt32)) (tl + 12) (vp_nar .byte ((x4 >>> (24 &&& 31)).toInt8.toInt32))) (tl + 13) (vp_nar .byte ((x4 >>> (16 &&& 31)).toInt8.toInt32))) (tl + 14) (vp_nar .byte ((x4 >>> (8 &&& 31)).toInt8.toInt32))) (tl + 15) (vp_nar .byte x4.toInt8.toInt32)) (tl + 16) (vp_nar .byte ((x5 >>> (24 &&& 31)).toInt8.toInt32))) (tl + 17) (vp_nar .byte ((x5 >>> (16 &&& 31)).toInt8.toInt32))))) := ⟨_, rfl⟩
                                                                                                                                        have hG : zP E G73 H := by rw [eG73]; exact hG
                                                                                                                                        have hx74 : zx (fun q => q = a ∨ q = m1) G G73 := hx70.tr (by rw [eG73]; exact zx.up (Or.inr rfl))
                                                                                                                                        have k75 : G73 a = some (.inr (11, [.int 0, .ref m1, .int (nI tl), .ref m3, .ref m4, .int m5, .ref m6, .ref m7, .ref m8, .ref m9, .ref m10, .ref m11, .ref m12, .int m13, .int m14, .ref m15, .int m16, .int m17, .ref m18, m19, m20])) := by rw [eG73, zg_up_ne (zg_ne k71 k72 (by intro h; simp at h))]; exact k71
                                                                                                                                        have k76 : G73 m1 = some (.inl (E.2.1 0, 65536, .inl (upd (upd (upd (upd (upd (upd (upd (upd (upd (upd (upd (upd (upd (upd (upd (upd (upd (upd fm (tl + 0) (vp_nar .byte ((x1 >>> (24 &&& 31)).toInt8.toInt32))) (tl + 1) (vp_nar .byte ((x1 >>> (16 &&& 31)).toInt8.toInt32))) (tl + 2) (vp_nar .byte ((x1 >>> (8 &&& 31)).toInt8.toInt32))) (tl + 3) (vp_nar .byte x1.toInt8.toInt32)) (tl + 4) (vp_nar .byte ((x2 >>> (24 &&& 31)).toInt8.toInt32))) (tl + 5) (vp_nar .byte ((x2 >>> (16 &&& 31)).toInt8.toInt32))) (tl + 6) (vp_nar .byte ((x2 >>> (8 &&& 31)).toInt8.toInt32))) (tl + 7) (vp_nar .byte x2.toInt8.toInt32)) (tl + 8) (vp_nar .byte ((x3 >>> (24 &&& 31)).toInt8.toInt32))) (tl + 9) (vp_nar .byte ((x3 >>> (16 &&& 31)).toInt8.toInt32))) (tl + 10) (vp_nar .byte ((x3 >>> (8 &&& 31)).toInt8.toInt32))) (tl + 11) (vp_nar .byte x3.toInt8.toInt32)) (tl + 12) (vp_nar .byte ((x4 >>> (24 &&& 31)).toInt8.toInt32))) (tl + 13) (vp_nar .byte ((x4 >>> (16 &&& 31)).toInt8.toInt32))) (tl + 14) (vp_nar .byte ((x4 >>> (8 &&& 31)).toInt8.toInt32))) (tl + 15) (vp_nar .byte x4.toInt8.toInt32)) (tl + 16) (vp_nar .byte ((x5 >>> (24 &&& 31)).toInt8.toInt32))) (tl + 17) (vp_nar .byte ((x5 >>> (16 &&& 31)).toInt8.toInt32))))) := by rw [eG73]; exact zg_up_self _ _ _
                                                                                                                                        refine lv_iinc (v := nI 18) (lv' := [(6, .int (nI 18)), (7, .int x5), (0, .ref a), (1, .int x1), (2, .int x2), (3, .int x3), (4, .int x4), (5, .int x5)]) hx hb d_Mo_feed_103 hl (k := 1) rfl (by decide) (by decide) rfl (fun ls hl => ?_)
                                                                                                                                        refine lv_goto (tgt := 23) hx hb d_Mo_feed_106 (by decide) ?_
                                                                                                                                        refine lv_iload hx hb d_Mo_feed_23 (lv_at hl 0 rfl) ?_
                                                                                                                                        refine lv_bipush (v := 20) hx hb d_Mo_feed_25 (by decide) ?_
                                                                                                                                        refine lv_icmp_ge (tgt := 109) hx hb d_Mo_feed_27 (by decide) (fun c27 => ?_) (fun c27 => ?_)
                                                                                                                                        · have b27 : 20 ≤ 18 := (nI_leI (a := 20) (b := 18) (by omega) (by omega)).mp c27
                                                                                                                                          exact absurd b27 (by decide)
                                                                                                                                        · have b27 : ¬ 20 ≤ 18 := fun q => c27 ((nI_leI (a := 20) (b := 18) (by omega) (by omega)).mpr q)
                                                                                                                                          refine lv_iload hx hb d_Mo_feed_30 (lv_at hl 0 rfl) ?_
                                                                                                                                          refine lv_iconst (v := 4) hx hb d_Mo_feed_32 (by decide) ?_
                                                                                                                                          refine lv_icmp_ge (tgt := 40) hx hb d_Mo_feed_33 (by decide) (fun c33 => ?_) (fun c33 => ?_)
                                                                                                                                          · have b33 : 4 ≤ 18 := (nI_leI (a := 4) (b := 18) (by omega) (by omega)).mp c33
                                                                                                                                            refine lv_iload hx hb d_Mo_feed_40 (lv_at hl 0 rfl) ?_
                                                                                                                                            refine lv_bipush (v := 8) hx hb d_Mo_feed_42 (by decide) ?_
                                                                                                                                            refine lv_icmp_ge (tgt := 51) hx hb d_Mo_feed_44 (by decide) (fun c44 => ?_) (fun c44 => ?_)
                                                                                                                                            · have b44 : 8 ≤ 18 := (nI_leI (a := 8) (b := 18) (by omega) (by omega)).mp c44
                                                                                                                                              refine lv_iload hx hb d_Mo_feed_51 (lv_at hl 0 rfl) ?_
                                                                                                                                              refine lv_bipush (v := 12) hx hb d_Mo_feed_53 (by decide) ?_
                                                                                                                                              refine lv_icmp_ge (tgt := 62) hx hb d_Mo_feed_55 (by decide) (fun c55 => ?_) (fun c55 => ?_)
                                                                                                                                              · have b55 : 12 ≤ 18 := (nI_leI (a := 12) (b := 18) (by omega) (by omega)).mp c55
                                                                                                                                                refine lv_iload hx hb d_Mo_feed_62 (lv_at hl 0 rfl) ?_
                                                                                                                                                refine lv_bipush (v := 16) hx hb d_Mo_feed_64 (by decide) ?_
                                                                                                                                                refine lv_icmp_ge (tgt := 74) hx hb d_Mo_feed_66 (by decide) (fun c66 => ?_) (fun c66 => ?_)
                                                                                                                                                · have b66 : 16 ≤ 18 := (nI_leI (a := 16) (b := 18) (by omega) (by omega)).mp c66
                                                                                                                                                  refine lv_iload hx hb d_Mo_feed_74 (lv_at hl 7 rfl) ?_
                                                                                                                                                  refine lv_istore (lv' := [(7, .int x5), (6, .int (nI 18)), (0, .ref a), (1, .int x1), (2, .int x2), (3, .int x3), (4, .int x4), (5, .int x5)]) hx hb d_Mo_feed_76 hl (by decide) rfl (fun ls hl => ?_)
                                                                                                                                                  refine lv_aload_n hx hb d_Mo_feed_78 rfl (lv_at hl 2 rfl) ?_
                                                                                                                                                  refine zg_get (ci := 11) (C := "ZoneAnswersModel") (T := T_Mo) (N := 21) hx hb hts zi_Mo hown hK hG k75 rfl 1 (by decide) (hts _ w_1282) (fun _ h9 => h9) rfl d_Mo_feed_79 ?_
                                                                                                                                                  refine lv_aload_n hx hb d_Mo_feed_82 rfl (lv_at hl 2 rfl) ?_
                                                                                                                                                  refine zg_get (ci := 11) (C := "ZoneAnswersModel") (T := T_Mo) (N := 21) hx hb hts zi_Mo hown hK hG k75 rfl 2 (by decide) (hts _ w_1283) (fun _ h9 => h9) rfl d_Mo_feed_83 ?_
                                                                                                                                                  refine lv_iload hx hb d_Mo_feed_86 (lv_at hl 1 rfl) ?_
                                                                                                                                                  refine lv_iadd hx hb d_Mo_feed_88 ?_
                                                                                                                                                  refine zi_as (y := nI (tl + 18)) (nI_add tl 18) ?_
                                                                                                                                                  refine lv_iload hx hb d_Mo_feed_89 (lv_at hl 0 rfl) ?_
                                                                                                                                                  refine lv_bipush (v := 8) hx hb d_Mo_feed_91 (by decide) ?_
                                                                                                                                                  refine lv_iconst (v := 3) hx hb d_Mo_feed_93 (by decide) ?_
                                                                                                                                                  refine lv_iload hx hb d_Mo_feed_94 (lv_at hl 1 rfl) ?_
                                                                                                                                                  refine lv_iconst (v := 4) hx hb d_Mo_feed_96 (by decide) ?_
                                                                                                                                                  refine lv_irem hx hb d_Mo_feed_97 (by decide) ?_
                                                                                                                                                  refine zi_as (y := 2) (by decide) ?_
                                                                                                                                                  refine lv_isub hx hb d_Mo_feed_98 ?_
                                                                                                                                                  refine zi_as (y := 1) (by decide) ?_
                                                                                                                                                  refine lv_imul hx hb d_Mo_feed_99 ?_
                                                                                                                                                  refine zi_as (y := 8) (by decide) ?_
                                                                                                                                                  refine lv_ishr hx hb d_Mo_feed_100 ?_
                                                                                                                                                  refine lv_i2b hx hb d_Mo_feed_101 rfl ?_
                                                                                                                                                  refine zg_bast hx hb hK hG hS 0 k76 rfl (vp_in_nI (by omega) (by omega)) d_Mo_feed_102 (fun H locs hG hS => ?_)
                                                                                                                                                  rw [zi_n (tl + 18) (by omega)] at hG
                                                                                                                                                  obtain ⟨G77, eG77⟩ : ∃ z : zg_G, z = zg_up G73 m1 (.inl (E.2.1 0, 65536, .inl (upd (upd (upd (upd (upd (upd (upd (upd (upd (upd (upd (upd (upd (upd (upd (upd (upd (upd (upd fm (tl + 0) (vp_nar .byte ((x1 >>> (24 &&& 31)).toInt8.toInt32))) (tl + 1) (vp_nar .byte ((x1 >>> (16 &&& 31)).toInt8.toInt32))) (tl + 2) (vp_nar .byte ((x1 >>> (8 &&& 31)).toInt8.toInt32))) (tl + 3) (vp_nar .byte x1.toInt8.toInt32)) (tl + 4) (vp_nar .byte ((x2 >>> (24 &&& 31)).toInt8.toInt32))) (tl + 5) (vp_nar .byte ((x2 >>> (16 &&& 31)).toInt8.toInt32))) (tl + 6) (vp_nar .byte ((x2 >>> (8 &&& 31)).toInt8.toInt32))) (tl + 7) (vp_nar .byte x2.toInt8.toInt32)) (tl + 8) (vp_nar .byte ((x3 >>> (24 &&& 31)).toInt8.toInt32))) (tl + 9) (vp_nar .byte ((x3 >>> (16 &&& 31)).toInt8.toInt32))) (tl + 10) (vp_nar .byte ((x3 >>> (8 &&& 31)).toInt8.toInt32))) (tl + 11) (vp_nar .byte x3.toInt8.toInt32)) (tl + 12) (vp_nar .byte ((x4 >>> (24 &&& 31)).toInt8.toInt32))) (tl + 13) (vp_nar .byte ((x4 >>> (16 &&& 31)).toInt8.toInt32))) (tl + 14) (vp_nar .byte ((x4 >>> (8 &&& 31)).toInt8.toInt32))) (tl + 15) (vp_nar .byte x4.toInt8.toInt32)) (tl + 16) (vp_nar .byte ((x5 >>> (24 &&& 31)).toInt8.toInt32))) (tl + 17) (vp_nar .byte ((x5 >>> (16 &&& 31)).toInt8.toInt32))) (tl + 18) (vp_nar .byte ((x5 >>> (8 &&& 31)).toInt8.toInt32))))) := ⟨_, rfl⟩
                                                                                                                                                  have hG : zP E G77 H := by rw [eG77]; exact hG
                                                                                                                                                  have hx78 : zx (fun q => q = a ∨ q = m1) G G77 := hx74.tr (by rw [eG77]; exact zx.up (Or.inr rfl))
                                                                                                                                                  have k79 : G77 a = some (.inr (11, [.int 0, .ref m1, .int (nI tl), .ref m3, .ref m4, .int m5, .ref m6, .ref m7, .ref m8, .ref m9, .ref m10, .ref m11, .ref m12, .int m13, .int m14, .ref m15, .int m16, .int m17, .ref m18, m19, m20])) := by rw [eG77, zg_up_ne (zg_ne k75 k76 (by intro h; simp at h))]; exact k75
                                                                                                                                                  have k80 : G77 m1 = some (.inl (E.2.1 0, 65536, .inl (upd (upd (upd (upd (upd (upd (upd (upd (upd (upd (upd (upd (upd (upd (upd (upd (upd (upd (upd fm (tl + 0) (vp_nar .byte ((x1 >>> (24 &&& 31)).toInt8.toInt32))) (tl + 1) (vp_nar .byte ((x1 >>> (16 &&& 31)).toInt8.toInt32))) (tl + 2) (vp_nar .byte ((x1 >>> (8 &&& 31)).toInt8.toInt32))) (tl + 3) (vp_nar .byte x1.toInt8.toInt32)) (tl + 4) (vp_nar .byte ((x2 >>> (24 &&& 31)).toInt8.toInt32))) (tl + 5) (vp_nar .byte ((x2 >>> (16 &&& 31)).toInt8.toInt32))) (tl + 6) (vp_nar .byte ((x2 >>> (8 &&& 31)).toInt8.toInt32))) (tl + 7) (vp_nar .byte x2.toInt8.toInt32)) (tl + 8) (vp_nar .byte ((x3 >>> (24 &&& 31)).toInt8.toInt32))) (tl + 9) (vp_nar .byte ((x3 >>> (16 &&& 31)).toInt8.toInt32))) (tl + 10) (vp_nar .byte ((x3 >>> (8 &&& 31)).toInt8.toInt32))) (tl + 11) (vp_nar .byte x3.toInt8.toInt32)) (tl + 12) (vp_nar .byte ((x4 >>> (24 &&& 31)).toInt8.toInt32))) (tl + 13) (vp_nar .byte ((x4 >>> (16 &&& 31)).toInt8.toInt32))) (tl + 14) (vp_nar .byte ((x4 >>> (8 &&& 31)).toInt8.toInt32))) (tl + 15) (vp_nar .byte x4.toInt8.toInt32)) (tl + 16) (vp_nar .byte ((x5 >>> (24 &&& 31)).toInt8.toInt32))) (tl + 17) (vp_nar .byte ((x5 >>> (16 &&& 31)).toInt8.toInt32))) (tl + 18) (vp_nar .byte ((x5 >>> (8 &&& 31)).toInt8.toInt32))))) := by rw [eG77]; exact zg_up_self _ _ _
                                                                                                                                                  refine lv_iinc (v := nI 19) (lv' := [(6, .int (nI 19)), (7, .int x5), (0, .ref a), (1, .int x1), (2, .int x2), (3, .int x3), (4, .int x4), (5, .int x5)]) hx hb d_Mo_feed_103 hl (k := 1) rfl (by decide) (by decide) rfl (fun ls hl => ?_)
                                                                                                                                                  refine lv_goto (tgt := 23) hx hb d_Mo_feed_106 (by decide) ?_
                                                                                                                                                  refine lv_iload hx hb d_Mo_feed_23 (lv_at hl 0 rfl) ?_
                                                                                                                                                  refine lv_bipush (v := 20) hx hb d_Mo_feed_25 (by decide) ?_
                                                                                                                                                  refine lv_icmp_ge (tgt := 109) hx hb d_Mo_feed_27 (by decide) (fun c27 => ?_) (fun c27 => ?_)
                                                                                                                                                  · have b27 : 20 ≤ 19 := (nI_leI (a := 20) (b := 19) (by omega) (by omega)).mp c27
                                                                                                                                                    exact absurd b27 (by decide)
                                                                                                                                                  · have b27 : ¬ 20 ≤ 19 := fun q => c27 ((nI_leI (a := 20) (b := 19) (by omega) (by omega)).mpr q)
                                                                                                                                                    refine lv_iload hx hb d_Mo_feed_30 (lv_at hl 0 rfl) ?_
                                                                                                                                                    refine lv_iconst (v := 4) hx hb d_Mo_feed_32 (by decide) ?_
                                                                                                                                                    refine lv_icmp_ge (tgt := 40) hx hb d_Mo_feed_33 (by decide) (fun c33 => ?_) (fun c33 => ?_)
                                                                                                                                                    · have b33 : 4 ≤ 19 := (nI_leI (a := 4) (b := 19) (by omega) (by omega)).mp c33
                                                                                                                                                      refine lv_iload hx hb d_Mo_feed_40 (lv_at hl 0 rfl) ?_
                                                                                                                                                      refine lv_bipush (v := 8) hx hb d_Mo_feed_42 (by decide) ?_
                                                                                                                                                      refine lv_icmp_ge (tgt := 51) hx hb d_Mo_feed_44 (by decide) (fun c44 => ?_) (fun c44 => ?_)
                                                                                                                                                      · have b44 : 8 ≤ 19 := (nI_leI (a := 8) (b := 19) (by omega) (by omega)).mp c44
                                                                                                                                                        refine lv_iload hx hb d_Mo_feed_51 (lv_at hl 0 rfl) ?_
                                                                                                                                                        refine lv_bipush (v := 12) hx hb d_Mo_feed_53 (by decide) ?_
                                                                                                                                                        refine lv_icmp_ge (tgt := 62) hx hb d_Mo_feed_55 (by decide) (fun c55 => ?_) (fun c55 => ?_)
                                                                                                                                                        · have b55 : 12 ≤ 19 := (nI_leI (a := 12) (b := 19) (by omega) (by omega)).mp c55
                                                                                                                                                          refine lv_iload hx hb d_Mo_feed_62 (lv_at hl 0 rfl) ?_
                                                                                                                                                          refine lv_bipush (v := 16) hx hb d_Mo_feed_64 (by decide) ?_
                                                                                                                                                          refine lv_icmp_ge (tgt := 74) hx hb d_Mo_feed_66 (by decide) (fun c66 => ?_) (fun c66 => ?_)
                                                                                                                                                          · have b66 : 16 ≤ 19 := (nI_leI (a := 16) (b := 19) (by omega) (by omega)).mp c66
                                                                                                                                                            refine lv_iload hx hb d_Mo_feed_74 (lv_at hl 7 rfl) ?_
                                                                                                                                                            refine lv_istore (lv' := [(7, .int x5), (6, .int (nI 19)), (0, .ref a), (1, .int x1), (2, .int x2), (3, .int x3), (4, .int x4), (5, .int x5)]) hx hb d_Mo_feed_76 hl (by decide) rfl (fun ls hl => ?_)
                                                                                                                                                            refine lv_aload_n hx hb d_Mo_feed_78 rfl (lv_at hl 2 rfl) ?_
                                                                                                                                                            refine zg_get (ci := 11) (C := "ZoneAnswersModel") (T := T_Mo) (N := 21) hx hb hts zi_Mo hown hK hG k79 rfl 1 (by decide) (hts _ w_1282) (fun _ h9 => h9) rfl d_Mo_feed_79 ?_
                                                                                                                                                            refine lv_aload_n hx hb d_Mo_feed_82 rfl (lv_at hl 2 rfl) ?_
                                                                                                                                                            refine zg_get (ci := 11) (C := "ZoneAnswersModel") (T := T_Mo) (N := 21) hx hb hts zi_Mo hown hK hG k79 rfl 2 (by decide) (hts _ w_1283) (fun _ h9 => h9) rfl d_Mo_feed_83 ?_
                                                                                                                                                            refine lv_iload hx hb d_Mo_feed_86 (lv_at hl 1 rfl) ?_
                                                                                                                                                            refine lv_iadd hx hb d_Mo_feed_88 ?_
                                                                                                                                                            refine zi_as (y := nI (tl + 19)) (nI_add tl 19) ?_
                                                                                                                                                            refine lv_iload hx hb d_Mo_feed_89 (lv_at hl 0 rfl) ?_
                                                                                                                                                            refine lv_bipush (v := 8) hx hb d_Mo_feed_91 (by decide) ?_
                                                                                                                                                            refine lv_iconst (v := 3) hx hb d_Mo_feed_93 (by decide) ?_
                                                                                                                                                            refine lv_iload hx hb d_Mo_feed_94 (lv_at hl 1 rfl) ?_
                                                                                                                                                            refine lv_iconst (v := 4) hx hb d_Mo_feed_96 (by decide) ?_
                                                                                                                                                            refine lv_irem hx hb d_Mo_feed_97 (by decide) ?_
                                                                                                                                                            refine zi_as (y := 3) (by decide) ?_
                                                                                                                                                            refine lv_isub hx hb d_Mo_feed_98 ?_
                                                                                                                                                            refine zi_as (y := 0) (by decide) ?_
                                                                                                                                                            refine lv_imul hx hb d_Mo_feed_99 ?_
                                                                                                                                                            refine zi_as (y := 0) (by decide) ?_
                                                                                                                                                            refine lv_ishr hx hb d_Mo_feed_100 ?_
                                                                                                                                                            refine zi_as (y := x5) (zsh0 x5) ?_
                                                                                                                                                            refine lv_i2b hx hb d_Mo_feed_101 rfl ?_
                                                                                                                                                            refine zg_bast hx hb hK hG hS 0 k80 rfl (vp_in_nI (by omega) (by omega)) d_Mo_feed_102 (fun H locs hG hS => ?_)
                                                                                                                                                            rw [zi_n (tl + 19) (by omega)] at hG
                                                                                                                                                            obtain ⟨G81, eG81⟩ : ∃ z : zg_G, z = zg_up G77 m1 (.inl (E.2.1 0, 65536, .inl (upd (upd (upd (upd (upd (upd (upd (upd (upd (upd (upd (upd (upd (upd (upd (upd (upd (upd (upd (upd fm (tl + 0) (vp_nar .byte ((x1 >>> (24 &&& 31)).toInt8.toInt32))) (tl + 1) (vp_nar .byte ((x1 >>> (16 &&& 31)).toInt8.toInt32))) (tl + 2) (vp_nar .byte ((x1 >>> (8 &&& 31)).toInt8.toInt32))) (tl + 3) (vp_nar .byte x1.toInt8.toInt32)) (tl + 4) (vp_nar .byte ((x2 >>> (24 &&& 31)).toInt8.toInt32))) (tl + 5) (vp_nar .byte ((x2 >>> (16 &&& 31)).toInt8.toInt32))) (tl + 6) (vp_nar .byte ((x2 >>> (8 &&& 31)).toInt8.toInt32))) (tl + 7) (vp_nar .byte x2.toInt8.toInt32)) (tl + 8) (vp_nar .byte ((x3 >>> (24 &&& 31)).toInt8.toInt32))) (tl + 9) (vp_nar .byte ((x3 >>> (16 &&& 31)).toInt8.toInt32))) (tl + 10) (vp_nar .byte ((x3 >>> (8 &&& 31)).toInt8.toInt32))) (tl + 11) (vp_nar .byte x3.toInt8.toInt32)) (tl + 12) (vp_nar .byte ((x4 >>> (24 &&& 31)).toInt8.toInt32))) (tl + 13) (vp_nar .byte ((x4 >>> (16 &&& 31)).toInt8.toInt32))) (tl + 14) (vp_nar .byte ((x4 >>> (8 &&& 31)).toInt8.toInt32))) (tl + 15) (vp_nar .byte x4.toInt8.toInt32)) (tl + 16) (vp_nar .byte ((x5 >>> (24 &&& 31)).toInt8.toInt32))) (tl + 17) (vp_nar .byte ((x5 >>> (16 &&& 31)).toInt8.toInt32))) (tl + 18) (vp_nar .byte ((x5 >>> (8 &&& 31)).toInt8.toInt32))) (tl + 19) (vp_nar .byte x5.toInt8.toInt32)))) := ⟨_, rfl⟩
                                                                                                                                                            have hG : zP E G81 H := by rw [eG81]; exact hG
                                                                                                                                                            have hx82 : zx (fun q => q = a ∨ q = m1) G G81 := hx78.tr (by rw [eG81]; exact zx.up (Or.inr rfl))
                                                                                                                                                            have k83 : G81 a = some (.inr (11, [.int 0, .ref m1, .int (nI tl), .ref m3, .ref m4, .int m5, .ref m6, .ref m7, .ref m8, .ref m9, .ref m10, .ref m11, .ref m12, .int m13, .int m14, .ref m15, .int m16, .int m17, .ref m18, m19, m20])) := by rw [eG81, zg_up_ne (zg_ne k79 k80 (by intro h; simp at h))]; exact k79
                                                                                                                                                            have k84 : G81 m1 = some (.inl (E.2.1 0, 65536, .inl (upd (upd (upd (upd (upd (upd (upd (upd (upd (upd (upd (upd (upd (upd (upd (upd (upd (upd (upd (upd fm (tl + 0) (vp_nar .byte ((x1 >>> (24 &&& 31)).toInt8.toInt32))) (tl + 1) (vp_nar .byte ((x1 >>> (16 &&& 31)).toInt8.toInt32))) (tl + 2) (vp_nar .byte ((x1 >>> (8 &&& 31)).toInt8.toInt32))) (tl + 3) (vp_nar .byte x1.toInt8.toInt32)) (tl + 4) (vp_nar .byte ((x2 >>> (24 &&& 31)).toInt8.toInt32))) (tl + 5) (vp_nar .byte ((x2 >>> (16 &&& 31)).toInt8.toInt32))) (tl + 6) (vp_nar .byte ((x2 >>> (8 &&& 31)).toInt8.toInt32))) (tl + 7) (vp_nar .byte x2.toInt8.toInt32)) (tl + 8) (vp_nar .byte ((x3 >>> (24 &&& 31)).toInt8.toInt32))) (tl + 9) (vp_nar .byte ((x3 >>> (16 &&& 31)).toInt8.toInt32))) (tl + 10) (vp_nar .byte ((x3 >>> (8 &&& 31)).toInt8.toInt32))) (tl + 11) (vp_nar .byte x3.toInt8.toInt32)) (tl + 12) (vp_nar .byte ((x4 >>> (24 &&& 31)).toInt8.toInt32))) (tl + 13) (vp_nar .byte ((x4 >>> (16 &&& 31)).toInt8.toInt32))) (tl + 14) (vp_nar .byte ((x4 >>> (8 &&& 31)).toInt8.toInt32))) (tl + 15) (vp_nar .byte x4.toInt8.toInt32)) (tl + 16) (vp_nar .byte ((x5 >>> (24 &&& 31)).toInt8.toInt32))) (tl + 17) (vp_nar .byte ((x5 >>> (16 &&& 31)).toInt8.toInt32))) (tl + 18) (vp_nar .byte ((x5 >>> (8 &&& 31)).toInt8.toInt32))) (tl + 19) (vp_nar .byte x5.toInt8.toInt32)))) := by rw [eG81]; exact zg_up_self _ _ _
                                                                                                                                                            refine lv_iinc (v := nI 20) (lv' := [(6, .int (nI 20)), (7, .int x5), (0, .ref a), (1, .int x1), (2, .int x2), (3, .int x3), (4, .int x4), (5, .int x5)]) hx hb d_Mo_feed_103 hl (k := 1) rfl (by decide) (by decide) rfl (fun ls hl => ?_)
                                                                                                                                                            refine lv_goto (tgt := 23) hx hb d_Mo_feed_106 (by decide) ?_
                                                                                                                                                            refine lv_iload hx hb d_Mo_feed_23 (lv_at hl 0 rfl) ?_
                                                                                                                                                            refine lv_bipush (v := 20) hx hb d_Mo_feed_25 (by decide) ?_
                                                                                                                                                            refine lv_icmp_ge (tgt := 109) hx hb d_Mo_feed_27 (by decide) (fun c27 => ?_) (fun c27 => ?_)
                                                                                                                                                            · have b27 : 20 ≤ 20 := (nI_leI (a := 20) (b := 20) (by omega) (by omega)).mp c27
                                                                                                                                                              refine lv_aload_n hx hb d_Mo_feed_109 rfl (lv_at hl 2 rfl) ?_
                                                                                                                                                              refine lv_dup hx hb d_Mo_feed_110 rfl ?_
                                                                                                                                                              refine zg_get (ci := 11) (C := "ZoneAnswersModel") (T := T_Mo) (N := 21) hx hb hts zi_Mo hown hK hG k83 rfl 2 (by decide) (hts _ w_1283) (fun _ h9 => h9) rfl d_Mo_feed_111 ?_
                                                                                                                                                              refine lv_bipush (v := 20) hx hb d_Mo_feed_114 (by decide) ?_
                                                                                                                                                              refine lv_iadd hx hb d_Mo_feed_116 ?_
                                                                                                                                                              refine zi_as (y := nI (tl + 20)) (nI_add tl 20) ?_
                                                                                                                                                              refine zg_put (ci := 11) (v := .int (nI (tl + 20))) (ty := .int) (C := "ZoneAnswersModel") (T := T_Mo) (N := 21) hx hb hts zi_Mo t_Mo t_Mo_ok n_Mo hown hK hG hS k83 rfl 2 (by decide) (hts _ w_1283) (fun _ h9 => h9) rfl (by decide +kernel) rfl rfl (Nat.le_of_ble_eq_true rfl) d_Mo_feed_117 (fun H locs hG hS => ?_)
                                                                                                                                                              obtain ⟨G85, eG85⟩ : ∃ z : zg_G, z = zg_up G81 a (.inr (11, [.int 0, .ref m1, .int (nI (tl + 20)), .ref m3, .ref m4, .int m5, .ref m6, .ref m7, .ref m8, .ref m9, .ref m10, .ref m11, .ref m12, .int m13, .int m14, .ref m15, .int m16, .int m17, .ref m18, m19, m20])) := ⟨_, rfl⟩
                                                                                                                                                              have hG : zP E G85 H := by rw [eG85]; exact hG
                                                                                                                                                              have hx86 : zx (fun q => q = a ∨ q = m1) G G85 := hx82.tr (by rw [eG85]; exact zx.up (Or.inl rfl))
                                                                                                                                                              have k87 : G85 a = some (.inr (11, [.int 0, .ref m1, .int (nI (tl + 20)), .ref m3, .ref m4, .int m5, .ref m6, .ref m7, .ref m8, .ref m9, .ref m10, .ref m11, .ref m12, .int m13, .int m14, .ref m15, .int m16, .int m17, .ref m18, m19, m20])) := by rw [eG85]; exact zg_up_self _ _ _
                                                                                                                                                              have k88 : G85 m1 = some (.inl (E.2.1 0, 65536, .inl (upd (upd (upd (upd (upd (upd (upd (upd (upd (upd (upd (upd (upd (upd (upd (upd (upd (upd (upd (upd fm (tl + 0) (vp_nar .byte ((x1 >>> (24 &&& 31)).toInt8.toInt32))) (tl + 1) (vp_nar .byte ((x1 >>> (16 &&& 31)).toInt8.toInt32))) (tl + 2) (vp_nar .byte ((x1 >>> (8 &&& 31)).toInt8.toInt32))) (tl + 3) (vp_nar .byte x1.toInt8.toInt32)) (tl + 4) (vp_nar .byte ((x2 >>> (24 &&& 31)).toInt8.toInt32))) (tl + 5) (vp_nar .byte ((x2 >>> (16 &&& 31)).toInt8.toInt32))) (tl + 6) (vp_nar .byte ((x2 >>> (8 &&& 31)).toInt8.toInt32))) (tl + 7) (vp_nar .byte x2.toInt8.toInt32)) (tl + 8) (vp_nar .byte ((x3 >>> (24 &&& 31)).toInt8.toInt32))) (tl + 9) (vp_nar .byte ((x3 >>> (16 &&& 31)).toInt8.toInt32))) (tl + 10) (vp_nar .byte ((x3 >>> (8 &&& 31)).toInt8.toInt32))) (tl + 11) (vp_nar .byte x3.toInt8.toInt32)) (tl + 12) (vp_nar .byte ((x4 >>> (24 &&& 31)).toInt8.toInt32))) (tl + 13) (vp_nar .byte ((x4 >>> (16 &&& 31)).toInt8.toInt32))) (tl + 14) (vp_nar .byte ((x4 >>> (8 &&& 31)).toInt8.toInt32))) (tl + 15) (vp_nar .byte x4.toInt8.toInt32)) (tl + 16) (vp_nar .byte ((x5 >>> (24 &&& 31)).toInt8.toInt32))) (tl + 17) (vp_nar .byte ((x5 >>> (16 &&& 31)).toInt8.toInt32))) (tl + 18) (vp_nar .byte ((x5 >>> (8 &&& 31)).toInt8.toInt32))) (tl + 19) (vp_nar .byte x5.toInt8.toInt32)))) := by rw [eG85, zg_up_ne (zg_ne k84 k83 (by intro h; simp at h))]; exact k84
                                                                                                                                                              refine lv_aload_n hx hb d_Mo_feed_120 rfl (lv_at hl 2 rfl) ?_
                                                                                                                                                              refine zg_get (ci := 11) (C := "ZoneAnswersModel") (T := T_Mo) (N := 21) hx hb hts zi_Mo hown hK hG k87 rfl 2 (by decide) (hts _ w_1283) (fun _ h9 => h9) rfl d_Mo_feed_121 ?_
                                                                                                                                                              exact hret _ _ _ _ _ _ _ _ _ hr (rfl) (Or.inr ⟨by omega, rfl, hx86, k87, k88⟩) hG hS (Nat.le_refl _) (Nat.le_refl _) d_Mo_feed_124
                                                                                                                                                            · have b27 : ¬ 20 ≤ 20 := fun q => c27 ((nI_leI (a := 20) (b := 20) (by omega) (by omega)).mpr q)
                                                                                                                                                              exact absurd b27 (by decide)
                                                                                                                                                          · have b66 : ¬ 16 ≤ 19 := fun q => c66 ((nI_leI (a := 16) (b := 19) (by omega) (by omega)).mpr q)
                                                                                                                                                            exact absurd b66 (by decide)
                                                                                                                                                        · have b55 : ¬ 12 ≤ 19 := fun q => c55 ((nI_leI (a := 12) (b := 19) (by omega) (by omega)).mpr q)
                                                                                                                                                          exact absurd b55 (by decide)
                                                                                                                                                      · have b44 : ¬ 8 ≤ 19 := fun q => c44 ((nI_leI (a := 8) (b := 19) (by omega) (by omega)).mpr q)
                                                                                                                                                        exact absurd b44 (by decide)
                                                                                                                                                    · have b33 : ¬ 4 ≤ 19 := fun q => c33 ((nI_leI (a := 4) (b := 19) (by omega) (by omega)).mpr q)
                                                                                                                                                      exact absurd b33 (by decide)
                                                                                                                                                · have b66 : ¬ 16 ≤ 18 := fun q => c66 ((nI_leI (a := 16) (b := 18) (by omega) (by omega)).mpr q)
                                                                                                                                                  exact absurd b66 (by decide)
                                                                                                                                              · have b55 : ¬ 12 ≤ 18 := fun q => c55 ((nI_leI (a := 12) (b := 18) (by omega) (by omega)).mpr q)
                                                                                                                                                exact absurd b55 (by decide)
                                                                                                                                            · have b44 : ¬ 8 ≤ 18 := fun q => c44 ((nI_leI (a := 8) (b := 18) (by omega) (by omega)).mpr q)
                                                                                                                                              exact absurd b44 (by decide)
                                                                                                                                          · have b33 : ¬ 4 ≤ 18 := fun q => c33 ((nI_leI (a := 4) (b := 18) (by omega) (by omega)).mpr q)
                                                                                                                                            exact absurd b33 (by decide)
                                                                                                                                      · have b66 : ¬ 16 ≤ 17 := fun q => c66 ((nI_leI (a := 16) (b := 17) (by omega) (by omega)).mpr q)
                                                                                                                                        exact absurd b66 (by decide)
                                                                                                                                    · have b55 : ¬ 12 ≤ 17 := fun q => c55 ((nI_leI (a := 12) (b := 17) (by omega) (by omega)).mpr q)
                                                                                                                                      exact absurd b55 (by decide)
                                                                                                                                  · have b44 : ¬ 8 ≤ 17 := fun q => c44 ((nI_leI (a := 8) (b := 17) (by omega) (by omega)).mpr q)
                                                                                                                                    exact absurd b44 (by decide)
                                                                                                                                · have b33 : ¬ 4 ≤ 17 := fun q => c33 ((nI_leI (a := 4) (b := 17) (by omega) (by omega)).mpr q)
                                                                                                                                  exact absurd b33 (by decide)
                                                                                                                            · have b66 : ¬ 16 ≤ 16 := fun q => c66 ((nI_leI (a := 16) (b := 16) (by omega) (by omega)).mpr q)
                                                                                                                              exact absurd b66 (by decide)
                                                                                                                          · have b55 : ¬ 12 ≤ 16 := fun q => c55 ((nI_leI (a := 12) (b := 16) (by omega) (by omega)).mpr q)
                                                                                                                            exact absurd b55 (by decide)
                                                                                                                        · have b44 : ¬ 8 ≤ 16 := fun q => c44 ((nI_leI (a := 8) (b := 16) (by omega) (by omega)).mpr q)
                                                                                                                          exact absurd b44 (by decide)
                                                                                                                      · have b33 : ¬ 4 ≤ 16 := fun q => c33 ((nI_leI (a := 4) (b := 16) (by omega) (by omega)).mpr q)
                                                                                                                        exact absurd b33 (by decide)
                                                                                                                · have b55 : ¬ 12 ≤ 15 := fun q => c55 ((nI_leI (a := 12) (b := 15) (by omega) (by omega)).mpr q)
                                                                                                                  exact absurd b55 (by decide)
                                                                                                              · have b44 : ¬ 8 ≤ 15 := fun q => c44 ((nI_leI (a := 8) (b := 15) (by omega) (by omega)).mpr q)
                                                                                                                exact absurd b44 (by decide)
                                                                                                            · have b33 : ¬ 4 ≤ 15 := fun q => c33 ((nI_leI (a := 4) (b := 15) (by omega) (by omega)).mpr q)
                                                                                                              exact absurd b33 (by decide)
                                                                                                      · have b55 : ¬ 12 ≤ 14 := fun q => c55 ((nI_leI (a := 12) (b := 14) (by omega) (by omega)).mpr q)
                                                                                                        exact absurd b55 (by decide)
                                                                                                    · have b44 : ¬ 8 ≤ 14 := fun q => c44 ((nI_leI (a := 8) (b := 14) (by omega) (by omega)).mpr q)
                                                                                                      exact absurd b44 (by decide)
                                                                                                  · have b33 : ¬ 4 ≤ 14 := fun q => c33 ((nI_leI (a := 4) (b := 14) (by omega) (by omega)).mpr q)
                                                                                                    exact absurd b33 (by decide)
                                                                                            · have b55 : ¬ 12 ≤ 13 := fun q => c55 ((nI_leI (a := 12) (b := 13) (by omega) (by omega)).mpr q)
                                                                                              exact absurd b55 (by decide)
                                                                                          · have b44 : ¬ 8 ≤ 13 := fun q => c44 ((nI_leI (a := 8) (b := 13) (by omega) (by omega)).mpr q)
                                                                                            exact absurd b44 (by decide)
                                                                                        · have b33 : ¬ 4 ≤ 13 := fun q => c33 ((nI_leI (a := 4) (b := 13) (by omega) (by omega)).mpr q)
                                                                                          exact absurd b33 (by decide)
                                                                                  · have b55 : ¬ 12 ≤ 12 := fun q => c55 ((nI_leI (a := 12) (b := 12) (by omega) (by omega)).mpr q)
                                                                                    exact absurd b55 (by decide)
                                                                                · have b44 : ¬ 8 ≤ 12 := fun q => c44 ((nI_leI (a := 8) (b := 12) (by omega) (by omega)).mpr q)
                                                                                  exact absurd b44 (by decide)
                                                                              · have b33 : ¬ 4 ≤ 12 := fun q => c33 ((nI_leI (a := 4) (b := 12) (by omega) (by omega)).mpr q)
                                                                                exact absurd b33 (by decide)
                                                                        · have b44 : ¬ 8 ≤ 11 := fun q => c44 ((nI_leI (a := 8) (b := 11) (by omega) (by omega)).mpr q)
                                                                          exact absurd b44 (by decide)
                                                                      · have b33 : ¬ 4 ≤ 11 := fun q => c33 ((nI_leI (a := 4) (b := 11) (by omega) (by omega)).mpr q)
                                                                        exact absurd b33 (by decide)
                                                                · have b44 : ¬ 8 ≤ 10 := fun q => c44 ((nI_leI (a := 8) (b := 10) (by omega) (by omega)).mpr q)
                                                                  exact absurd b44 (by decide)
                                                              · have b33 : ¬ 4 ≤ 10 := fun q => c33 ((nI_leI (a := 4) (b := 10) (by omega) (by omega)).mpr q)
                                                                exact absurd b33 (by decide)
                                                        · have b44 : ¬ 8 ≤ 9 := fun q => c44 ((nI_leI (a := 8) (b := 9) (by omega) (by omega)).mpr q)
                                                          exact absurd b44 (by decide)
                                                      · have b33 : ¬ 4 ≤ 9 := fun q => c33 ((nI_leI (a := 4) (b := 9) (by omega) (by omega)).mpr q)
                                                        exact absurd b33 (by decide)
                                                · have b44 : ¬ 8 ≤ 8 := fun q => c44 ((nI_leI (a := 8) (b := 8) (by omega) (by omega)).mpr q)
                                                  exact absurd b44 (by decide)
                                              · have b33 : ¬ 4 ≤ 8 := fun q => c33 ((nI_leI (a := 4) (b := 8) (by omega) (by omega)).mpr q)
                                                exact absurd b33 (by decide)
                                        · have b33 : ¬ 4 ≤ 7 := fun q => c33 ((nI_leI (a := 4) (b := 7) (by omega) (by omega)).mpr q)
                                          exact absurd b33 (by decide)
                                  · have b33 : ¬ 4 ≤ 6 := fun q => c33 ((nI_leI (a := 4) (b := 6) (by omega) (by omega)).mpr q)
                                    exact absurd b33 (by decide)
                            · have b33 : ¬ 4 ≤ 5 := fun q => c33 ((nI_leI (a := 4) (b := 5) (by omega) (by omega)).mpr q)
                              exact absurd b33 (by decide)
                      · have b33 : ¬ 4 ≤ 4 := fun q => c33 ((nI_leI (a := 4) (b := 4) (by omega) (by omega)).mpr q)
                        exact absurd b33 (by decide)
  · have b11 : ¬ tl ≤ 65516 := fun q => c11 ((nI_leI (a := tl) (b := 65516) (by omega) (by omega)).mpr q)
    refine lv_aload_n hx hb d_Mo_feed_14 rfl (lv_at hl 0 rfl) ?_
    refine lv_iconst (v := 1) hx hb d_Mo_feed_15 (by decide) ?_
    have hGo16 := hG
    refine zk_i (va_runV (As := [.int 1]) (rest := []) ⟨hx, hb, hml, hown, hts⟩ (t_Mo_fail l E G1 a m1 m3 m4 m6 m7 m8 m9 m10 m11 m12 m15 m18 0 (nI tl) m5 m13 m14 m16 m17 m19 m20 k3 1) (zcV 1 hts w_1354 w_1356 wp_26 w_30 w_1357 (by decide +kernel) ⟨Nat.le_of_ble_eq_true rfl, Nat.le_of_ble_eq_true rfl⟩) (zc_preV hbase hK hN hQ hG hS k3 rfl) rfl rfl hl.1 rfl (lv_room (Nat.le_of_ble_eq_true rfl)) d_Mo_feed_16 ⟨(by decide), (by decide)⟩) hS (fun r16 G16 H locs hp16 hG hS => ?_)
    refine zi_as (y := 0) hp16.1 ?_
    have hx89 : zx (fun q => q = a ∨ q = m1) G G16 := hx2.tr (by rw [hp16.2]; exact zx.up (Or.inl rfl))
    have k90 : G16 a = some (.inr (11, [.int 1, .ref m1, .int (nI tl), .ref m3, .ref m4, .int m5, .ref m6, .ref m7, .ref m8, .ref m9, .ref m10, .ref m11, .ref m12, .int m13, .int m14, .ref m15, .int m16, .int m17, .ref m18, m19, m20])) := by rw [hp16.2]; exact zg_up_self _ _ _
    have k91 : G16 m1 = some (.inl (E.2.1 0, 65536, .inl fm)) := by rw [hp16.2, zg_up_ne (zg_ne k4 k3 (by intro h; simp at h))]; exact k4
    exact hret _ _ _ _ _ _ _ _ _ hr (rfl) (Or.inl ⟨by omega, rfl, hx89, k90, k91⟩) hG hS (Nat.le_refl _) (Nat.le_refl _) d_Mo_feed_19
