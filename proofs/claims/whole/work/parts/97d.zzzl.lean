def zNe (x y : Nat) : Prop := x ≠ y
theorem w_1483 : (.methodLink "ZoneAnswersModel" 143 ⟨"ZoneAnswersModel", "grow", "()V"⟩ : Cond) ∈ zw := zw_at 1483 (by decide +kernel) (by decide +kernel)
theorem w_1485 : (.instanceMethod ⟨"ZoneAnswersModel", "grow", "()V"⟩ : Cond) ∈ zw := zw_at 1485 (by decide +kernel) (by decide +kernel)
theorem w_1486 : (.code ⟨"ZoneAnswersModel", "grow", "()V"⟩ prog_12_method_20_code 1 none : Cond) ∈ zw := zw_at 1486 (by decide +kernel) (by decide +kernel)
theorem wp_42 : (.selects "ZoneAnswersModel" ⟨"ZoneAnswersModel", "grow", "()V"⟩ ⟨"ZoneAnswersModel", "grow", "()V"⟩ : Cond) ∈ zw := zw_pv 42 (y := ⟨"ZoneAnswersModel", "grow", "()V"⟩) rfl (by decide +kernel)
abbrev c_Mo_add : ByteArray := prog_12_method_17_code
abbrev y_Mo_add : MethodName := ⟨"ZoneAnswersModel", "add", "(I[BII[BII)V"⟩
theorem d_Mo_add_0 : decode c_Mo_add 0 = .ok (.aload_n 0, 1) := by decide +kernel
theorem d_Mo_add_1 : decode c_Mo_add 1 = .ok (.getfield 140, 3) := by decide +kernel
theorem d_Mo_add_4 : decode c_Mo_add 4 = .ok (.aload_n 0, 1) := by decide +kernel
theorem d_Mo_add_5 : decode c_Mo_add 5 = .ok (.getfield 23, 3) := by decide +kernel
theorem d_Mo_add_8 : decode c_Mo_add 8 = .ok (.arraylength, 1) := by decide +kernel
theorem d_Mo_add_9 : decode c_Mo_add 9 = .ok (.if_icmp .ne 7, 3) := by decide +kernel
theorem d_Mo_add_12 : decode c_Mo_add 12 = .ok (.aload_n 0, 1) := by decide +kernel
theorem d_Mo_add_13 : decode c_Mo_add 13 = .ok (.invokevirtual 143, 3) := by decide +kernel
theorem d_Mo_add_16 : decode c_Mo_add 16 = .ok (.aload_n 0, 1) := by decide +kernel
theorem d_Mo_add_17 : decode c_Mo_add 17 = .ok (.getfield 23, 3) := by decide +kernel
theorem d_Mo_add_20 : decode c_Mo_add 20 = .ok (.aload_n 0, 1) := by decide +kernel
theorem d_Mo_add_21 : decode c_Mo_add 21 = .ok (.getfield 140, 3) := by decide +kernel
theorem d_Mo_add_24 : decode c_Mo_add 24 = .ok (.iload_n 1, 1) := by decide +kernel
theorem d_Mo_add_25 : decode c_Mo_add 25 = .ok (.iastore, 1) := by decide +kernel
theorem d_Mo_add_26 : decode c_Mo_add 26 = .ok (.aload_n 0, 1) := by decide +kernel
theorem d_Mo_add_27 : decode c_Mo_add 27 = .ok (.getfield 40, 3) := by decide +kernel
theorem d_Mo_add_30 : decode c_Mo_add 30 = .ok (.aload_n 0, 1) := by decide +kernel
theorem d_Mo_add_31 : decode c_Mo_add 31 = .ok (.getfield 140, 3) := by decide +kernel
theorem d_Mo_add_34 : decode c_Mo_add 34 = .ok (.aload_n 2, 1) := by decide +kernel
theorem d_Mo_add_35 : decode c_Mo_add 35 = .ok (.aastore, 1) := by decide +kernel
theorem d_Mo_add_36 : decode c_Mo_add 36 = .ok (.aload_n 0, 1) := by decide +kernel
theorem d_Mo_add_37 : decode c_Mo_add 37 = .ok (.getfield 27, 3) := by decide +kernel
theorem d_Mo_add_40 : decode c_Mo_add 40 = .ok (.aload_n 0, 1) := by decide +kernel
theorem d_Mo_add_41 : decode c_Mo_add 41 = .ok (.getfield 140, 3) := by decide +kernel
theorem d_Mo_add_44 : decode c_Mo_add 44 = .ok (.iload_n 3, 1) := by decide +kernel
theorem d_Mo_add_45 : decode c_Mo_add 45 = .ok (.iastore, 1) := by decide +kernel
theorem d_Mo_add_46 : decode c_Mo_add 46 = .ok (.aload_n 0, 1) := by decide +kernel
theorem d_Mo_add_47 : decode c_Mo_add 47 = .ok (.getfield 30, 3) := by decide +kernel
theorem d_Mo_add_50 : decode c_Mo_add 50 = .ok (.aload_n 0, 1) := by decide +kernel
theorem d_Mo_add_51 : decode c_Mo_add 51 = .ok (.getfield 140, 3) := by decide +kernel
theorem d_Mo_add_54 : decode c_Mo_add 54 = .ok (.iload 4, 2) := by decide +kernel
theorem d_Mo_add_56 : decode c_Mo_add 56 = .ok (.iastore, 1) := by decide +kernel
theorem d_Mo_add_57 : decode c_Mo_add 57 = .ok (.aload_n 0, 1) := by decide +kernel
theorem d_Mo_add_58 : decode c_Mo_add 58 = .ok (.getfield 44, 3) := by decide +kernel
theorem d_Mo_add_61 : decode c_Mo_add 61 = .ok (.aload_n 0, 1) := by decide +kernel
theorem d_Mo_add_62 : decode c_Mo_add 62 = .ok (.getfield 140, 3) := by decide +kernel
theorem d_Mo_add_65 : decode c_Mo_add 65 = .ok (.aload 5, 2) := by decide +kernel
theorem d_Mo_add_67 : decode c_Mo_add 67 = .ok (.aastore, 1) := by decide +kernel
theorem d_Mo_add_68 : decode c_Mo_add 68 = .ok (.aload_n 0, 1) := by decide +kernel
theorem d_Mo_add_69 : decode c_Mo_add 69 = .ok (.getfield 33, 3) := by decide +kernel
theorem d_Mo_add_72 : decode c_Mo_add 72 = .ok (.aload_n 0, 1) := by decide +kernel
theorem d_Mo_add_73 : decode c_Mo_add 73 = .ok (.getfield 140, 3) := by decide +kernel
theorem d_Mo_add_76 : decode c_Mo_add 76 = .ok (.iload 6, 2) := by decide +kernel
theorem d_Mo_add_78 : decode c_Mo_add 78 = .ok (.iastore, 1) := by decide +kernel
theorem d_Mo_add_79 : decode c_Mo_add 79 = .ok (.aload_n 0, 1) := by decide +kernel
theorem d_Mo_add_80 : decode c_Mo_add 80 = .ok (.getfield 36, 3) := by decide +kernel
theorem d_Mo_add_83 : decode c_Mo_add 83 = .ok (.aload_n 0, 1) := by decide +kernel
theorem d_Mo_add_84 : decode c_Mo_add 84 = .ok (.getfield 140, 3) := by decide +kernel
theorem d_Mo_add_87 : decode c_Mo_add 87 = .ok (.iload 7, 2) := by decide +kernel
theorem d_Mo_add_89 : decode c_Mo_add 89 = .ok (.iastore, 1) := by decide +kernel
theorem d_Mo_add_90 : decode c_Mo_add 90 = .ok (.aload_n 0, 1) := by decide +kernel
theorem d_Mo_add_91 : decode c_Mo_add 91 = .ok (.dup, 1) := by decide +kernel
theorem d_Mo_add_92 : decode c_Mo_add 92 = .ok (.getfield 140, 3) := by decide +kernel
theorem d_Mo_add_95 : decode c_Mo_add 95 = .ok (.iconst 1, 1) := by decide +kernel
theorem d_Mo_add_96 : decode c_Mo_add 96 = .ok (.iadd, 1) := by decide +kernel
theorem d_Mo_add_97 : decode c_Mo_add 97 = .ok (.putfield 140, 3) := by decide +kernel
theorem d_Mo_add_100 : decode c_Mo_add 100 = .ok (.return_, 1) := by decide +kernel
abbrev rm_Mo_add (c9 s9 : Nat) : Room := { frames := 3, cells := c9, slots := s9, locals := 70 }
set_option maxHeartbeats 4000000 in
set_option maxRecDepth 100000 in
/-- add(..), of the reference -/
theorem t_Mo_add (l : Launch) (E : zc_E) (G : zg_G) (na : Nat) (a m1 m3 m4 m6 m7 m8 m9 m10 m11 m12 m15 m18 : Nat) (th tn m5 m14 m16 m17 : Int32) (m19 m20 : Value) (ha : G a = some (.inr (11, [.int th, .ref m1, .int tn, .ref m3, .ref m4, .int m5, .ref m6, .ref m7, .ref m8, .ref m9, .ref m10, .ref m11, .ref m12, .int (nI na), .int m14, .ref m15, .int m16, .int m17, .ref m18, m19, m20]))) (cap : Nat) (hcap : cap ≤ 2 ^ 20) (f6 f7 f8 f9 f10 : Nat → Int32) (f11 f12 : Nat → Option Nat) (hA6 : G m6 = some (.inl (E.2.1 1, cap, .inl f6))) (hA7 : G m7 = some (.inl (E.2.1 1, cap, .inl f7))) (hA8 : G m8 = some (.inl (E.2.1 1, cap, .inl f8))) (hA9 : G m9 = some (.inl (E.2.1 1, cap, .inl f9))) (hA10 : G m10 = some (.inl (E.2.1 1, cap, .inl f10))) (hA11 : G m11 = some (.inl (E.2.1 5, cap, .inr (.inr (.inr (.inr f11)))))) (hA12 : G m12 = some (.inl (E.2.1 5, cap, .inr (.inr (.inr (.inr f12)))))) (hr11 : ∀ j v, f11 j = some v → ∃ (nx : Nat) (fx : Nat → Int32), G v = some (.inl (E.2.1 0, nx, .inl fx))) (hr12 : ∀ j v, f12 j = some v → ∃ (nx : Nat) (fx : Nat → Int32), G v = some (.inl (E.2.1 0, nx, .inl fx))) (hna : na ≤ cap) (hc0 : 0 < cap) (hnd : [m12, m11, m10, m9, m8, m7, m6].Nodup) (b1 n1 : Nat) (f1 : Nat → Int32) (hb1 : G b1 = some (.inl (E.2.1 0, n1, .inl f1))) (hb1n : b1 ∉ [m12, m11, m10, m9, m8, m7, m6]) (b2 n2 : Nat) (f2 : Nat → Int32) (hb2 : G b2 = some (.inl (E.2.1 0, n2, .inl f2))) (hb2n : b2 ∉ [m12, m11, m10, m9, m8, m7, m6]) (sx tx ux px zx9 : Int32) (c9 s9 : Nat) (h9 : cap = na → 7 ≤ c9 ∧ 14 * cap ≤ s9) : zMv l E y_Mo_add c_Mo_add 8 (rm_Mo_add c9 s9) [.ref a, .int sx, .ref b1, .int tx, .int ux, .ref b2, .int px, .int zx9] G (fun (G2 : zg_G) => ∃ q6 q7 q8 q9 q10 q11 q12 c2 g6 g7 g8 g9 g10 g11 g12, zx (fun q => q = a ∨ q = m6 ∨ q = m7 ∨ q = m8 ∨ q = m9 ∨ q = m10 ∨ q = m11 ∨ q = m12) G G2 ∧ ((q6 = m6 ∧ q7 = m7 ∧ q8 = m8 ∧ q9 = m9 ∧ q10 = m10 ∧ q11 = m11 ∧ q12 = m12) ∨ (G q6 = none ∧ G q7 = none ∧ G q8 = none ∧ G q9 = none ∧ G q10 = none ∧ G q11 = none ∧ G q12 = none)) ∧ [q12, q11, q10, q9, q8, q7, q6].Nodup ∧ G2 a = some (.inr (11, [.int th, .ref m1, .int tn, .ref m3, .ref m4, .int m5, .ref q6, .ref q7, .ref q8, .ref q9, .ref q10, .ref q11, .ref q12, .int (nI (na + 1)), .int m14, .ref m15, .int m16, .int m17, .ref m18, m19, m20])) ∧ (G2 q6 = some (.inl (E.2.1 1, c2, .inl (upd g6 na sx))) ∧ G2 q7 = some (.inl (E.2.1 1, c2, .inl (upd g7 na tx))) ∧ G2 q8 = some (.inl (E.2.1 1, c2, .inl (upd g8 na ux))) ∧ G2 q9 = some (.inl (E.2.1 1, c2, .inl (upd g9 na px))) ∧ G2 q10 = some (.inl (E.2.1 1, c2, .inl (upd g10 na zx9))) ∧ G2 q11 = some (.inl (E.2.1 5, c2, .inr (.inr (.inr (.inr (va_up g11 na (some b1))))))) ∧ G2 q12 = some (.inl (E.2.1 5, c2, .inr (.inr (.inr (.inr (va_up g12 na (some b2)))))))) ∧ c2 = (if cap = na then 2 * na else cap) ∧ na < c2 ∧ ((∀ j, j < na → g6 j = f6 j) ∧ (∀ j, j < na → g7 j = f7 j) ∧ (∀ j, j < na → g8 j = f8 j) ∧ (∀ j, j < na → g9 j = f9 j) ∧ (∀ j, j < na → g10 j = f10 j)) ∧ ((∀ j, j < na → g11 j = f11 j) ∧ ∀ j v, g11 j = some v → f11 j = some v) ∧ ((∀ j, j < na → g12 j = f12 j) ∧ ∀ j v, g12 j = some v → f12 j = some v)) := by
  refine zMv.of (by decide) (Nat.le_of_ble_eq_true rfl) ?_
  intro p e s m args below meth c Q hZ hG hret ls hl
  obtain ⟨hx, hb, hr, hts, hown, hlocks, hml, hnm, hbase, hK, hN, hQ⟩ := hZ
  have hl : lv_has ls 8 [(0, .ref a), (1, .int sx), (2, .ref b1), (3, .int tx), (4, .int ux), (5, .ref b2), (6, .int px), (7, .int zx9)] := hl
  have hS : zg_S (zc_b E) s.heap s.heap [] := va_S.rf
  have nb1_6 : zNe b1 m6 := fun z => hb1n (by rw [z]; simp)
  have nb1_7 : zNe b1 m7 := fun z => hb1n (by rw [z]; simp)
  have nb1_8 : zNe b1 m8 := fun z => hb1n (by rw [z]; simp)
  have nb1_9 : zNe b1 m9 := fun z => hb1n (by rw [z]; simp)
  have nb1_10 : zNe b1 m10 := fun z => hb1n (by rw [z]; simp)
  have nb1_11 : zNe b1 m11 := fun z => hb1n (by rw [z]; simp)
  have nb1_12 : zNe b1 m12 := fun z => hb1n (by rw [z]; simp)
  have nb2_6 : zNe b2 m6 := fun z => hb2n (by rw [z]; simp)
  have nb2_7 : zNe b2 m7 := fun z => hb2n (by rw [z]; simp)
  have nb2_8 : zNe b2 m8 := fun z => hb2n (by rw [z]; simp)
  have nb2_9 : zNe b2 m9 := fun z => hb2n (by rw [z]; simp)
  have nb2_10 : zNe b2 m10 := fun z => hb2n (by rw [z]; simp)
  have nb2_11 : zNe b2 m11 := fun z => hb2n (by rw [z]; simp)
  have nb2_12 : zNe b2 m12 := fun z => hb2n (by rw [z]; simp)
  have nm6_7 : zNe m6 m7 := fun z => by rw [z] at hnd; simp at hnd
  have nm6_8 : zNe m6 m8 := fun z => by rw [z] at hnd; simp at hnd
  have nm6_9 : zNe m6 m9 := fun z => by rw [z] at hnd; simp at hnd
  have nm6_10 : zNe m6 m10 := fun z => by rw [z] at hnd; simp at hnd
  have nm6_11 : zNe m6 m11 := fun z => by rw [z] at hnd; simp at hnd
  have nm6_12 : zNe m6 m12 := fun z => by rw [z] at hnd; simp at hnd
  have nm7_8 : zNe m7 m8 := fun z => by rw [z] at hnd; simp at hnd
  have nm7_9 : zNe m7 m9 := fun z => by rw [z] at hnd; simp at hnd
  have nm7_10 : zNe m7 m10 := fun z => by rw [z] at hnd; simp at hnd
  have nm7_11 : zNe m7 m11 := fun z => by rw [z] at hnd; simp at hnd
  have nm7_12 : zNe m7 m12 := fun z => by rw [z] at hnd; simp at hnd
  have nm8_9 : zNe m8 m9 := fun z => by rw [z] at hnd; simp at hnd
  have nm8_10 : zNe m8 m10 := fun z => by rw [z] at hnd; simp at hnd
  have nm8_11 : zNe m8 m11 := fun z => by rw [z] at hnd; simp at hnd
  have nm8_12 : zNe m8 m12 := fun z => by rw [z] at hnd; simp at hnd
  have nm9_10 : zNe m9 m10 := fun z => by rw [z] at hnd; simp at hnd
  have nm9_11 : zNe m9 m11 := fun z => by rw [z] at hnd; simp at hnd
  have nm9_12 : zNe m9 m12 := fun z => by rw [z] at hnd; simp at hnd
  have nm10_11 : zNe m10 m11 := fun z => by rw [z] at hnd; simp at hnd
  have nm10_12 : zNe m10 m12 := fun z => by rw [z] at hnd; simp at hnd
  have nm11_12 : zNe m11 m12 := fun z => by rw [z] at hnd; simp at hnd
  have hx0 : zx (fun q => q = a ∨ q = m6 ∨ q = m7 ∨ q = m8 ∨ q = m9 ∨ q = m10 ∨ q = m11 ∨ q = m12) G G := zx.rf
  refine lv_aload_n hx hb d_Mo_add_0 rfl (lv_at hl 0 rfl) ?_
  refine zg_get (ci := 11) (C := "ZoneAnswersModel") (T := T_Mo) (N := 21) hx hb hts zi_Mo hown hK hG ha rfl 13 (by decide) (hts _ w_1294) (fun _ h9 => h9) rfl d_Mo_add_1 ?_
  refine lv_aload_n hx hb d_Mo_add_4 rfl (lv_at hl 0 rfl) ?_
  refine zg_get (ci := 11) (C := "ZoneAnswersModel") (T := T_Mo) (N := 21) hx hb hts zi_Mo hown hK hG ha rfl 6 (by decide) (hts _ w_1287) (fun _ h9 => h9) rfl d_Mo_add_5 ?_
  refine zg_alen hx hb hK hG 1 hA6 rfl (v := nI cap) rfl d_Mo_add_8 ?_
  refine lv_icmp_ne (tgt := 16) hx hb d_Mo_add_9 (by decide) (fun c9 => ?_) (fun c9 => ?_)
  · have b9 : ¬ na = cap := fun q => c9 ((nI_eq (a := na) (b := cap) (by omega) (by omega)).mpr q)
    have hlt9 : na < cap := by omega
    have hsm9 : cap < 2 ^ 31 := by omega
    refine lv_aload_n hx hb d_Mo_add_16 rfl (lv_at hl 0 rfl) ?_
    refine zg_get (ci := 11) (C := "ZoneAnswersModel") (T := T_Mo) (N := 21) hx hb hts zi_Mo hown hK hG ha rfl 6 (by decide) (hts _ w_1287) (fun _ h9 => h9) rfl d_Mo_add_17 ?_
    refine lv_aload_n hx hb d_Mo_add_20 rfl (lv_at hl 0 rfl) ?_
    refine zg_get (ci := 11) (C := "ZoneAnswersModel") (T := T_Mo) (N := 21) hx hb hts zi_Mo hown hK hG ha rfl 13 (by decide) (hts _ w_1294) (fun _ h9 => h9) rfl d_Mo_add_21 ?_
    refine lv_iload_n hx hb d_Mo_add_24 rfl (lv_at hl 1 rfl) ?_
    refine zg_iast hx hb hK hG hS 1 hA6 rfl (vp_in_nI hlt9 hsm9) d_Mo_add_25 (fun H locs hG hS => ?_)
    rw [zi_n na (by omega)] at hG
    obtain ⟨G1, eG1⟩ : ∃ z : zg_G, z = zg_up G m6 (.inl (E.2.1 1, cap, .inl (upd f6 na sx))) := ⟨_, rfl⟩
    have hG : zP E G1 H := by rw [eG1]; exact hG
    have hx2 : zx (fun q => q = a ∨ q = m6 ∨ q = m7 ∨ q = m8 ∨ q = m9 ∨ q = m10 ∨ q = m11 ∨ q = m12) G G1 := hx0.tr (by rw [eG1]; exact zx.up (Or.inr (Or.inl rfl)))
    have k3 : G1 a = some (.inr (11, [.int th, .ref m1, .int tn, .ref m3, .ref m4, .int m5, .ref m6, .ref m7, .ref m8, .ref m9, .ref m10, .ref m11, .ref m12, .int (nI na), .int m14, .ref m15, .int m16, .int m17, .ref m18, m19, m20])) := by rw [eG1, zg_up_ne (zg_ne ha hA6 (by intro h; simp at h))]; exact ha
    have k4 : G1 m6 = some (.inl (E.2.1 1, cap, .inl (upd f6 na sx))) := by rw [eG1]; exact zg_up_self _ _ _
    have k5 : G1 m7 = some (.inl (E.2.1 1, cap, .inl f7)) := by rw [eG1, zg_up_ne (Ne.symm nm6_7)]; exact hA7
    have k6 : G1 m8 = some (.inl (E.2.1 1, cap, .inl f8)) := by rw [eG1, zg_up_ne (Ne.symm nm6_8)]; exact hA8
    have k7 : G1 m9 = some (.inl (E.2.1 1, cap, .inl f9)) := by rw [eG1, zg_up_ne (Ne.symm nm6_9)]; exact hA9
    have k8 : G1 m10 = some (.inl (E.2.1 1, cap, .inl f10)) := by rw [eG1, zg_up_ne (Ne.symm nm6_10)]; exact hA10
    have k9 : G1 m11 = some (.inl (E.2.1 5, cap, .inr (.inr (.inr (.inr f11))))) := by rw [eG1, zg_up_ne (Ne.symm nm6_11)]; exact hA11
    have k10 : G1 m12 = some (.inl (E.2.1 5, cap, .inr (.inr (.inr (.inr f12))))) := by rw [eG1, zg_up_ne (Ne.symm nm6_12)]; exact hA12
    have k11 : G1 b1 = some (.inl (E.2.1 0, n1, .inl f1)) := by rw [eG1, zg_up_ne (nb1_6)]; exact hb1
    have k12 : G1 b2 = some (.inl (E.2.1 0, n2, .inl f2)) := by rw [eG1, zg_up_ne (nb2_6)]; exact hb2
    refine lv_aload_n hx hb d_Mo_add_26 rfl (lv_at hl 0 rfl) ?_
    refine zg_get (ci := 11) (C := "ZoneAnswersModel") (T := T_Mo) (N := 21) hx hb hts zi_Mo hown hK hG k3 rfl 11 (by decide) (hts _ w_1292) (fun _ h9 => h9) rfl d_Mo_add_27 ?_
    refine lv_aload_n hx hb d_Mo_add_30 rfl (lv_at hl 0 rfl) ?_
    refine zg_get (ci := 11) (C := "ZoneAnswersModel") (T := T_Mo) (N := 21) hx hb hts zi_Mo hown hK hG k3 rfl 13 (by decide) (hts _ w_1294) (fun _ h9 => h9) rfl d_Mo_add_31 ?_
    refine lv_aload_n hx hb d_Mo_add_34 rfl (lv_at hl 2 rfl) ?_
    refine zg_astAO (o := (some b1)) (t := .byte) hx hb hK hG hS 5 k9 rfl (zAt_use hQ.2.2.2.2.2.2.2.2.2.2.2.2) (fun v hv => by cases hv; exact ⟨_, _, k11⟩) (zfB hQ) (vp_in_nI hlt9 hsm9) d_Mo_add_35 (fun H locs hG hS => ?_)
    rw [zi_n na (by omega)] at hG
    obtain ⟨G13, eG13⟩ : ∃ z : zg_G, z = zg_up G1 m11 (.inl (E.2.1 5, cap, .inr (.inr (.inr (.inr (va_up f11 na (some b1))))))) := ⟨_, rfl⟩
    have hG : zP E G13 H := by rw [eG13]; exact hG
    have hx14 : zx (fun q => q = a ∨ q = m6 ∨ q = m7 ∨ q = m8 ∨ q = m9 ∨ q = m10 ∨ q = m11 ∨ q = m12) G G13 := hx2.tr (by rw [eG13]; exact zx.up (Or.inr (Or.inr (Or.inr (Or.inr (Or.inr (Or.inr (Or.inl rfl))))))))
    have k15 : G13 a = some (.inr (11, [.int th, .ref m1, .int tn, .ref m3, .ref m4, .int m5, .ref m6, .ref m7, .ref m8, .ref m9, .ref m10, .ref m11, .ref m12, .int (nI na), .int m14, .ref m15, .int m16, .int m17, .ref m18, m19, m20])) := by rw [eG13, zg_up_ne (zg_ne k3 k9 (by intro h; simp at h))]; exact k3
    have k16 : G13 m6 = some (.inl (E.2.1 1, cap, .inl (upd f6 na sx))) := by rw [eG13, zg_up_ne (nm6_11)]; exact k4
    have k17 : G13 m7 = some (.inl (E.2.1 1, cap, .inl f7)) := by rw [eG13, zg_up_ne (nm7_11)]; exact k5
    have k18 : G13 m8 = some (.inl (E.2.1 1, cap, .inl f8)) := by rw [eG13, zg_up_ne (nm8_11)]; exact k6
    have k19 : G13 m9 = some (.inl (E.2.1 1, cap, .inl f9)) := by rw [eG13, zg_up_ne (nm9_11)]; exact k7
    have k20 : G13 m10 = some (.inl (E.2.1 1, cap, .inl f10)) := by rw [eG13, zg_up_ne (nm10_11)]; exact k8
    have k21 : G13 m11 = some (.inl (E.2.1 5, cap, .inr (.inr (.inr (.inr (va_up f11 na (some b1))))))) := by rw [eG13]; exact zg_up_self _ _ _
    have k22 : G13 m12 = some (.inl (E.2.1 5, cap, .inr (.inr (.inr (.inr f12))))) := by rw [eG13, zg_up_ne (Ne.symm nm11_12)]; exact k10
    have k23 : G13 b1 = some (.inl (E.2.1 0, n1, .inl f1)) := by rw [eG13, zg_up_ne (nb1_11)]; exact k11
    have k24 : G13 b2 = some (.inl (E.2.1 0, n2, .inl f2)) := by rw [eG13, zg_up_ne (nb2_11)]; exact k12
    refine lv_aload_n hx hb d_Mo_add_36 rfl (lv_at hl 0 rfl) ?_
    refine zg_get (ci := 11) (C := "ZoneAnswersModel") (T := T_Mo) (N := 21) hx hb hts zi_Mo hown hK hG k15 rfl 7 (by decide) (hts _ w_1288) (fun _ h9 => h9) rfl d_Mo_add_37 ?_
    refine lv_aload_n hx hb d_Mo_add_40 rfl (lv_at hl 0 rfl) ?_
    refine zg_get (ci := 11) (C := "ZoneAnswersModel") (T := T_Mo) (N := 21) hx hb hts zi_Mo hown hK hG k15 rfl 13 (by decide) (hts _ w_1294) (fun _ h9 => h9) rfl d_Mo_add_41 ?_
    refine lv_iload_n hx hb d_Mo_add_44 rfl (lv_at hl 3 rfl) ?_
    refine zg_iast hx hb hK hG hS 1 k17 rfl (vp_in_nI hlt9 hsm9) d_Mo_add_45 (fun H locs hG hS => ?_)
    rw [zi_n na (by omega)] at hG
    obtain ⟨G25, eG25⟩ : ∃ z : zg_G, z = zg_up G13 m7 (.inl (E.2.1 1, cap, .inl (upd f7 na tx))) := ⟨_, rfl⟩
    have hG : zP E G25 H := by rw [eG25]; exact hG
    have hx26 : zx (fun q => q = a ∨ q = m6 ∨ q = m7 ∨ q = m8 ∨ q = m9 ∨ q = m10 ∨ q = m11 ∨ q = m12) G G25 := hx14.tr (by rw [eG25]; exact zx.up (Or.inr (Or.inr (Or.inl rfl))))
    have k27 : G25 a = some (.inr (11, [.int th, .ref m1, .int tn, .ref m3, .ref m4, .int m5, .ref m6, .ref m7, .ref m8, .ref m9, .ref m10, .ref m11, .ref m12, .int (nI na), .int m14, .ref m15, .int m16, .int m17, .ref m18, m19, m20])) := by rw [eG25, zg_up_ne (zg_ne k15 k17 (by intro h; simp at h))]; exact k15
    have k28 : G25 m6 = some (.inl (E.2.1 1, cap, .inl (upd f6 na sx))) := by rw [eG25, zg_up_ne (nm6_7)]; exact k16
    have k29 : G25 m7 = some (.inl (E.2.1 1, cap, .inl (upd f7 na tx))) := by rw [eG25]; exact zg_up_self _ _ _
    have k30 : G25 m8 = some (.inl (E.2.1 1, cap, .inl f8)) := by rw [eG25, zg_up_ne (Ne.symm nm7_8)]; exact k18
    have k31 : G25 m9 = some (.inl (E.2.1 1, cap, .inl f9)) := by rw [eG25, zg_up_ne (Ne.symm nm7_9)]; exact k19
    have k32 : G25 m10 = some (.inl (E.2.1 1, cap, .inl f10)) := by rw [eG25, zg_up_ne (Ne.symm nm7_10)]; exact k20
    have k33 : G25 m11 = some (.inl (E.2.1 5, cap, .inr (.inr (.inr (.inr (va_up f11 na (some b1))))))) := by rw [eG25, zg_up_ne (Ne.symm nm7_11)]; exact k21
    have k34 : G25 m12 = some (.inl (E.2.1 5, cap, .inr (.inr (.inr (.inr f12))))) := by rw [eG25, zg_up_ne (Ne.symm nm7_12)]; exact k22
    have k35 : G25 b1 = some (.inl (E.2.1 0, n1, .inl f1)) := by rw [eG25, zg_up_ne (nb1_7)]; exact k23
    have k36 : G25 b2 = some (.inl (E.2.1 0, n2, .inl f2)) := by rw [eG25, zg_up_ne (nb2_7)]; exact k24
    refine lv_aload_n hx hb d_Mo_add_46 rfl (lv_at hl 0 rfl) ?_
    refine zg_get (ci := 11) (C := "ZoneAnswersModel") (T := T_Mo) (N := 21) hx hb hts zi_Mo hown hK hG k27 rfl 8 (by decide) (hts _ w_1289) (fun _ h9 => h9) rfl d_Mo_add_47 ?_
    refine lv_aload_n hx hb d_Mo_add_50 rfl (lv_at hl 0 rfl) ?_
    refine zg_get (ci := 11) (C := "ZoneAnswersModel") (T := T_Mo) (N := 21) hx hb hts zi_Mo hown hK hG k27 rfl 13 (by decide) (hts _ w_1294) (fun _ h9 => h9) rfl d_Mo_add_51 ?_
    refine lv_iload hx hb d_Mo_add_54 (lv_at hl 4 rfl) ?_
    refine zg_iast hx hb hK hG hS 1 k30 rfl (vp_in_nI hlt9 hsm9) d_Mo_add_56 (fun H locs hG hS => ?_)
    rw [zi_n na (by omega)] at hG
    obtain ⟨G37, eG37⟩ : ∃ z : zg_G, z = zg_up G25 m8 (.inl (E.2.1 1, cap, .inl (upd f8 na ux))) := ⟨_, rfl⟩
    have hG : zP E G37 H := by rw [eG37]; exact hG
    have hx38 : zx (fun q => q = a ∨ q = m6 ∨ q = m7 ∨ q = m8 ∨ q = m9 ∨ q = m10 ∨ q = m11 ∨ q = m12) G G37 := hx26.tr (by rw [eG37]; exact zx.up (Or.inr (Or.inr (Or.inr (Or.inl rfl)))))
    have k39 : G37 a = some (.inr (11, [.int th, .ref m1, .int tn, .ref m3, .ref m4, .int m5, .ref m6, .ref m7, .ref m8, .ref m9, .ref m10, .ref m11, .ref m12, .int (nI na), .int m14, .ref m15, .int m16, .int m17, .ref m18, m19, m20])) := by rw [eG37, zg_up_ne (zg_ne k27 k30 (by intro h; simp at h))]; exact k27
    have k40 : G37 m6 = some (.inl (E.2.1 1, cap, .inl (upd f6 na sx))) := by rw [eG37, zg_up_ne (nm6_8)]; exact k28
    have k41 : G37 m7 = some (.inl (E.2.1 1, cap, .inl (upd f7 na tx))) := by rw [eG37, zg_up_ne (nm7_8)]; exact k29
    have k42 : G37 m8 = some (.inl (E.2.1 1, cap, .inl (upd f8 na ux))) := by rw [eG37]; exact zg_up_self _ _ _
    have k43 : G37 m9 = some (.inl (E.2.1 1, cap, .inl f9)) := by rw [eG37, zg_up_ne (Ne.symm nm8_9)]; exact k31
    have k44 : G37 m10 = some (.inl (E.2.1 1, cap, .inl f10)) := by rw [eG37, zg_up_ne (Ne.symm nm8_10)]; exact k32
    have k45 : G37 m11 = some (.inl (E.2.1 5, cap, .inr (.inr (.inr (.inr (va_up f11 na (some b1))))))) := by rw [eG37, zg_up_ne (Ne.symm nm8_11)]; exact k33
    have k46 : G37 m12 = some (.inl (E.2.1 5, cap, .inr (.inr (.inr (.inr f12))))) := by rw [eG37, zg_up_ne (Ne.symm nm8_12)]; exact k34
    have k47 : G37 b1 = some (.inl (E.2.1 0, n1, .inl f1)) := by rw [eG37, zg_up_ne (nb1_8)]; exact k35
    have k48 : G37 b2 = some (.inl (E.2.1 0, n2, .inl f2)) := by rw [eG37, zg_up_ne (nb2_8)]; exact k36
    refine lv_aload_n hx hb d_Mo_add_57 rfl (lv_at hl 0 rfl) ?_
    refine zg_get (ci := 11) (C := "ZoneAnswersModel") (T := T_Mo) (N := 21) hx hb hts zi_Mo hown hK hG k39 rfl 12 (by decide) (hts _ w_1293) (fun _ h9 => h9) rfl d_Mo_add_58 ?_
    refine lv_aload_n hx hb d_Mo_add_61 rfl (lv_at hl 0 rfl) ?_
    refine zg_get (ci := 11) (C := "ZoneAnswersModel") (T := T_Mo) (N := 21) hx hb hts zi_Mo hown hK hG k39 rfl 13 (by decide) (hts _ w_1294) (fun _ h9 => h9) rfl d_Mo_add_62 ?_
    refine lv_aload hx hb d_Mo_add_65 (lv_at hl 5 rfl) ?_
    refine zg_astAO (o := (some b2)) (t := .byte) hx hb hK hG hS 5 k46 rfl (zAt_use hQ.2.2.2.2.2.2.2.2.2.2.2.2) (fun v hv => by cases hv; exact ⟨_, _, k48⟩) (zfB hQ) (vp_in_nI hlt9 hsm9) d_Mo_add_67 (fun H locs hG hS => ?_)
    rw [zi_n na (by omega)] at hG
    obtain ⟨G49, eG49⟩ : ∃ z : zg_G, z = zg_up G37 m12 (.inl (E.2.1 5, cap, .inr (.inr (.inr (.inr (va_up f12 na (some b2))))))) := ⟨_, rfl⟩
    have hG : zP E G49 H := by rw [eG49]; exact hG
    have hx50 : zx (fun q => q = a ∨ q = m6 ∨ q = m7 ∨ q = m8 ∨ q = m9 ∨ q = m10 ∨ q = m11 ∨ q = m12) G G49 := hx38.tr (by rw [eG49]; exact zx.up (Or.inr (Or.inr (Or.inr (Or.inr (Or.inr (Or.inr (Or.inr (rfl)))))))))
    have k51 : G49 a = some (.inr (11, [.int th, .ref m1, .int tn, .ref m3, .ref m4, .int m5, .ref m6, .ref m7, .ref m8, .ref m9, .ref m10, .ref m11, .ref m12, .int (nI na), .int m14, .ref m15, .int m16, .int m17, .ref m18, m19, m20])) := by rw [eG49, zg_up_ne (zg_ne k39 k46 (by intro h; simp at h))]; exact k39
    have k52 : G49 m6 = some (.inl (E.2.1 1, cap, .inl (upd f6 na sx))) := by rw [eG49, zg_up_ne (nm6_12)]; exact k40
    have k53 : G49 m7 = some (.inl (E.2.1 1, cap, .inl (upd f7 na tx))) := by rw [eG49, zg_up_ne (nm7_12)]; exact k41
    have k54 : G49 m8 = some (.inl (E.2.1 1, cap, .inl (upd f8 na ux))) := by rw [eG49, zg_up_ne (nm8_12)]; exact k42
    have k55 : G49 m9 = some (.inl (E.2.1 1, cap, .inl f9)) := by rw [eG49, zg_up_ne (nm9_12)]; exact k43
    have k56 : G49 m10 = some (.inl (E.2.1 1, cap, .inl f10)) := by rw [eG49, zg_up_ne (nm10_12)]; exact k44
    have k57 : G49 m11 = some (.inl (E.2.1 5, cap, .inr (.inr (.inr (.inr (va_up f11 na (some b1))))))) := by rw [eG49, zg_up_ne (nm11_12)]; exact k45
    have k58 : G49 m12 = some (.inl (E.2.1 5, cap, .inr (.inr (.inr (.inr (va_up f12 na (some b2))))))) := by rw [eG49]; exact zg_up_self _ _ _
    have k59 : G49 b1 = some (.inl (E.2.1 0, n1, .inl f1)) := by rw [eG49, zg_up_ne (nb1_12)]; exact k47
    have k60 : G49 b2 = some (.inl (E.2.1 0, n2, .inl f2)) := by rw [eG49, zg_up_ne (nb2_12)]; exact k48
    refine lv_aload_n hx hb d_Mo_add_68 rfl (lv_at hl 0 rfl) ?_
    refine zg_get (ci := 11) (C := "ZoneAnswersModel") (T := T_Mo) (N := 21) hx hb hts zi_Mo hown hK hG k51 rfl 9 (by decide) (hts _ w_1290) (fun _ h9 => h9) rfl d_Mo_add_69 ?_
    refine lv_aload_n hx hb d_Mo_add_72 rfl (lv_at hl 0 rfl) ?_
    refine zg_get (ci := 11) (C := "ZoneAnswersModel") (T := T_Mo) (N := 21) hx hb hts zi_Mo hown hK hG k51 rfl 13 (by decide) (hts _ w_1294) (fun _ h9 => h9) rfl d_Mo_add_73 ?_
    refine lv_iload hx hb d_Mo_add_76 (lv_at hl 6 rfl) ?_
    refine zg_iast hx hb hK hG hS 1 k55 rfl (vp_in_nI hlt9 hsm9) d_Mo_add_78 (fun H locs hG hS => ?_)
    rw [zi_n na (by omega)] at hG
    obtain ⟨G61, eG61⟩ : ∃ z : zg_G, z = zg_up G49 m9 (.inl (E.2.1 1, cap, .inl (upd f9 na px))) := ⟨_, rfl⟩
    have hG : zP E G61 H := by rw [eG61]; exact hG
    have hx62 : zx (fun q => q = a ∨ q = m6 ∨ q = m7 ∨ q = m8 ∨ q = m9 ∨ q = m10 ∨ q = m11 ∨ q = m12) G G61 := hx50.tr (by rw [eG61]; exact zx.up (Or.inr (Or.inr (Or.inr (Or.inr (Or.inl rfl))))))
    have k63 : G61 a = some (.inr (11, [.int th, .ref m1, .int tn, .ref m3, .ref m4, .int m5, .ref m6, .ref m7, .ref m8, .ref m9, .ref m10, .ref m11, .ref m12, .int (nI na), .int m14, .ref m15, .int m16, .int m17, .ref m18, m19, m20])) := by rw [eG61, zg_up_ne (zg_ne k51 k55 (by intro h; simp at h))]; exact k51
    have k64 : G61 m6 = some (.inl (E.2.1 1, cap, .inl (upd f6 na sx))) := by rw [eG61, zg_up_ne (nm6_9)]; exact k52
    have k65 : G61 m7 = some (.inl (E.2.1 1, cap, .inl (upd f7 na tx))) := by rw [eG61, zg_up_ne (nm7_9)]; exact k53
    have k66 : G61 m8 = some (.inl (E.2.1 1, cap, .inl (upd f8 na ux))) := by rw [eG61, zg_up_ne (nm8_9)]; exact k54
    have k67 : G61 m9 = some (.inl (E.2.1 1, cap, .inl (upd f9 na px))) := by rw [eG61]; exact zg_up_self _ _ _
    have k68 : G61 m10 = some (.inl (E.2.1 1, cap, .inl f10)) := by rw [eG61, zg_up_ne (Ne.symm nm9_10)]; exact k56
    have k69 : G61 m11 = some (.inl (E.2.1 5, cap, .inr (.inr (.inr (.inr (va_up f11 na (some b1))))))) := by rw [eG61, zg_up_ne (Ne.symm nm9_11)]; exact k57
    have k70 : G61 m12 = some (.inl (E.2.1 5, cap, .inr (.inr (.inr (.inr (va_up f12 na (some b2))))))) := by rw [eG61, zg_up_ne (Ne.symm nm9_12)]; exact k58
    have k71 : G61 b1 = some (.inl (E.2.1 0, n1, .inl f1)) := by rw [eG61, zg_up_ne (nb1_9)]; exact k59
    have k72 : G61 b2 = some (.inl (E.2.1 0, n2, .inl f2)) := by rw [eG61, zg_up_ne (nb2_9)]; exact k60
    refine lv_aload_n hx hb d_Mo_add_79 rfl (lv_at hl 0 rfl) ?_
    refine zg_get (ci := 11) (C := "ZoneAnswersModel") (T := T_Mo) (N := 21) hx hb hts zi_Mo hown hK hG k63 rfl 10 (by decide) (hts _ w_1291) (fun _ h9 => h9) rfl d_Mo_add_80 ?_
    refine lv_aload_n hx hb d_Mo_add_83 rfl (lv_at hl 0 rfl) ?_
    refine zg_get (ci := 11) (C := "ZoneAnswersModel") (T := T_Mo) (N := 21) hx hb hts zi_Mo hown hK hG k63 rfl 13 (by decide) (hts _ w_1294) (fun _ h9 => h9) rfl d_Mo_add_84 ?_
    refine lv_iload hx hb d_Mo_add_87 (lv_at hl 7 rfl) ?_
    refine zg_iast hx hb hK hG hS 1 k68 rfl (vp_in_nI hlt9 hsm9) d_Mo_add_89 (fun H locs hG hS => ?_)
    rw [zi_n na (by omega)] at hG
    obtain ⟨G73, eG73⟩ : ∃ z : zg_G, z = zg_up G61 m10 (.inl (E.2.1 1, cap, .inl (upd f10 na zx9))) := ⟨_, rfl⟩
    have hG : zP E G73 H := by rw [eG73]; exact hG
    have hx74 : zx (fun q => q = a ∨ q = m6 ∨ q = m7 ∨ q = m8 ∨ q = m9 ∨ q = m10 ∨ q = m11 ∨ q = m12) G G73 := hx62.tr (by rw [eG73]; exact zx.up (Or.inr (Or.inr (Or.inr (Or.inr (Or.inr (Or.inl rfl)))))))
    have k75 : G73 a = some (.inr (11, [.int th, .ref m1, .int tn, .ref m3, .ref m4, .int m5, .ref m6, .ref m7, .ref m8, .ref m9, .ref m10, .ref m11, .ref m12, .int (nI na), .int m14, .ref m15, .int m16, .int m17, .ref m18, m19, m20])) := by rw [eG73, zg_up_ne (zg_ne k63 k68 (by intro h; simp at h))]; exact k63
    have k76 : G73 m6 = some (.inl (E.2.1 1, cap, .inl (upd f6 na sx))) := by rw [eG73, zg_up_ne (nm6_10)]; exact k64
    have k77 : G73 m7 = some (.inl (E.2.1 1, cap, .inl (upd f7 na tx))) := by rw [eG73, zg_up_ne (nm7_10)]; exact k65
    have k78 : G73 m8 = some (.inl (E.2.1 1, cap, .inl (upd f8 na ux))) := by rw [eG73, zg_up_ne (nm8_10)]; exact k66
    have k79 : G73 m9 = some (.inl (E.2.1 1, cap, .inl (upd f9 na px))) := by rw [eG73, zg_up_ne (nm9_10)]; exact k67
    have k80 : G73 m10 = some (.inl (E.2.1 1, cap, .inl (upd f10 na zx9))) := by rw [eG73]; exact zg_up_self _ _ _
    have k81 : G73 m11 = some (.inl (E.2.1 5, cap, .inr (.inr (.inr (.inr (va_up f11 na (some b1))))))) := by rw [eG73, zg_up_ne (Ne.symm nm10_11)]; exact k69
    have k82 : G73 m12 = some (.inl (E.2.1 5, cap, .inr (.inr (.inr (.inr (va_up f12 na (some b2))))))) := by rw [eG73, zg_up_ne (Ne.symm nm10_12)]; exact k70
    have k83 : G73 b1 = some (.inl (E.2.1 0, n1, .inl f1)) := by rw [eG73, zg_up_ne (nb1_10)]; exact k71
    have k84 : G73 b2 = some (.inl (E.2.1 0, n2, .inl f2)) := by rw [eG73, zg_up_ne (nb2_10)]; exact k72
    refine lv_aload_n hx hb d_Mo_add_90 rfl (lv_at hl 0 rfl) ?_
    refine lv_dup hx hb d_Mo_add_91 rfl ?_
    refine zg_get (ci := 11) (C := "ZoneAnswersModel") (T := T_Mo) (N := 21) hx hb hts zi_Mo hown hK hG k75 rfl 13 (by decide) (hts _ w_1294) (fun _ h9 => h9) rfl d_Mo_add_92 ?_
    refine lv_iconst (v := 1) hx hb d_Mo_add_95 (by decide) ?_
    refine lv_iadd hx hb d_Mo_add_96 ?_
    refine zi_as (y := nI (na + 1)) (nI_add na 1) ?_
    refine zg_put (ci := 11) (v := .int (nI (na + 1))) (ty := .int) (C := "ZoneAnswersModel") (T := T_Mo) (N := 21) hx hb hts zi_Mo t_Mo t_Mo_ok n_Mo hown hK hG hS k75 rfl 13 (by decide) (hts _ w_1294) (fun _ h9 => h9) rfl (by decide +kernel) rfl rfl (Nat.le_of_ble_eq_true rfl) d_Mo_add_97 (fun H locs hG hS => ?_)
    obtain ⟨G85, eG85⟩ : ∃ z : zg_G, z = zg_up G73 a (.inr (11, [.int th, .ref m1, .int tn, .ref m3, .ref m4, .int m5, .ref m6, .ref m7, .ref m8, .ref m9, .ref m10, .ref m11, .ref m12, .int (nI (na + 1)), .int m14, .ref m15, .int m16, .int m17, .ref m18, m19, m20])) := ⟨_, rfl⟩
    have hG : zP E G85 H := by rw [eG85]; exact hG
    have hx86 : zx (fun q => q = a ∨ q = m6 ∨ q = m7 ∨ q = m8 ∨ q = m9 ∨ q = m10 ∨ q = m11 ∨ q = m12) G G85 := hx74.tr (by rw [eG85]; exact zx.up (Or.inl rfl))
    have k87 : G85 a = some (.inr (11, [.int th, .ref m1, .int tn, .ref m3, .ref m4, .int m5, .ref m6, .ref m7, .ref m8, .ref m9, .ref m10, .ref m11, .ref m12, .int (nI (na + 1)), .int m14, .ref m15, .int m16, .int m17, .ref m18, m19, m20])) := by rw [eG85]; exact zg_up_self _ _ _
    have k88 : G85 m6 = some (.inl (E.2.1 1, cap, .inl (upd f6 na sx))) := by rw [eG85, zg_up_ne (zg_ne k76 k75 (by intro h; simp at h))]; exact k76
    have k89 : G85 m7 = some (.inl (E.2.1 1, cap, .inl (upd f7 na tx))) := by rw [eG85, zg_up_ne (zg_ne k77 k75 (by intro h; simp at h))]; exact k77
    have k90 : G85 m8 = some (.inl (E.2.1 1, cap, .inl (upd f8 na ux))) := by rw [eG85, zg_up_ne (zg_ne k78 k75 (by intro h; simp at h))]; exact k78
    have k91 : G85 m9 = some (.inl (E.2.1 1, cap, .inl (upd f9 na px))) := by rw [eG85, zg_up_ne (zg_ne k79 k75 (by intro h; simp at h))]; exact k79
    have k92 : G85 m10 = some (.inl (E.2.1 1, cap, .inl (upd f10 na zx9))) := by rw [eG85, zg_up_ne (zg_ne k80 k75 (by intro h; simp at h))]; exact k80
    have k93 : G85 m11 = some (.inl (E.2.1 5, cap, .inr (.inr (.inr (.inr (va_up f11 na (some b1))))))) := by rw [eG85, zg_up_ne (zg_ne k81 k75 (by intro h; simp at h))]; exact k81
    have k94 : G85 m12 = some (.inl (E.2.1 5, cap, .inr (.inr (.inr (.inr (va_up f12 na (some b2))))))) := by rw [eG85, zg_up_ne (zg_ne k82 k75 (by intro h; simp at h))]; exact k82
    have k95 : G85 b1 = some (.inl (E.2.1 0, n1, .inl f1)) := by rw [eG85, zg_up_ne (zg_ne k83 k75 (by intro h; simp at h))]; exact k83
    have k96 : G85 b2 = some (.inl (E.2.1 0, n2, .inl f2)) := by rw [eG85, zg_up_ne (zg_ne k84 k75 (by intro h; simp at h))]; exact k84
    exact hret _ _ _ _ _ _ _ (⟨m6, m7, m8, m9, m10, m11, m12, cap, f6, f7, f8, f9, f10, f11, f12, hx86, Or.inl ⟨rfl, rfl, rfl, rfl, rfl, rfl, rfl⟩, hnd, k87, ⟨k88, k89, k90, k91, k92, k93, k94⟩, by rw [if_neg (by omega)], by omega, ⟨fun _ _ => rfl, fun _ _ => rfl, fun _ _ => rfl, fun _ _ => rfl, fun _ _ => rfl⟩, ⟨fun _ _ => rfl, fun _ _ h => h⟩, ⟨fun _ _ => rfl, fun _ _ h => h⟩⟩) hG hS (by first | omega | (have hh := h9 (by omega); dsimp only; omega)) (by first | omega | (have hh := h9 (by omega); dsimp only; omega)) d_Mo_add_100
  · have b9 : na = cap := (nI_eq (a := na) (b := cap) (by omega) (by omega)).mp c9
    have hlt9 : na < 2 * cap := by omega
    have hsm9 : 2 * cap < 2 ^ 31 := by omega
    refine lv_aload_n hx hb d_Mo_add_12 rfl (lv_at hl 0 rfl) ?_
    have hGo13 := hG
    refine zk_v (va_runV (As := []) (rest := []) ⟨hx, hb, hml, hown, hts⟩ (t_Mo_grow l E G a m1 m3 m4 m6 m7 m8 m9 m10 m11 m12 m15 m18 th tn m5 (nI na) m14 m16 m17 m19 m20 ha cap (by omega) f6 f7 f8 f9 f10 f11 f12 hA6 hA7 hA8 hA9 hA10 hA11 hA12 hr11 hr12) (zcV 0 hts w_1483 w_1485 wp_42 w_30 w_1486 (by decide +kernel) ⟨Nat.le_of_ble_eq_true rfl, Nat.le_of_ble_eq_true rfl⟩) (zc_preV hbase hK hN hQ hG hS ha rfl) rfl rfl hl.1 rfl (lv_room (Nat.le_of_ble_eq_true rfl)) d_Mo_add_13 ⟨(by have hh := h9 (by omega); dsimp only; omega), (by have hh := h9 (by omega); dsimp only; omega)⟩) hS (fun G13 H locs hp13 hG hS => ?_)
    obtain ⟨q6, q7, q8, q9, q10, q11, q12, g6, g7, g8, g9, g10, g11, g12, hxg, hndq, ⟨nf_q6, nf_q7, nf_q8, nf_q9, nf_q10, nf_q11, nf_q12⟩, hag, ⟨hB6, hB7, hB8, hB9, hB10, hB11, hB12⟩, hgf6, hgf7, hgf8, hgf9, hgf10, hgf11, hgf12⟩ := hp13
    have nq6_7 : zNe q6 q7 := fun z => by rw [z] at hndq; simp at hndq
    have nq6_8 : zNe q6 q8 := fun z => by rw [z] at hndq; simp at hndq
    have nq6_9 : zNe q6 q9 := fun z => by rw [z] at hndq; simp at hndq
    have nq6_10 : zNe q6 q10 := fun z => by rw [z] at hndq; simp at hndq
    have nq6_11 : zNe q6 q11 := fun z => by rw [z] at hndq; simp at hndq
    have nq6_12 : zNe q6 q12 := fun z => by rw [z] at hndq; simp at hndq
    have nq7_8 : zNe q7 q8 := fun z => by rw [z] at hndq; simp at hndq
    have nq7_9 : zNe q7 q9 := fun z => by rw [z] at hndq; simp at hndq
    have nq7_10 : zNe q7 q10 := fun z => by rw [z] at hndq; simp at hndq
    have nq7_11 : zNe q7 q11 := fun z => by rw [z] at hndq; simp at hndq
    have nq7_12 : zNe q7 q12 := fun z => by rw [z] at hndq; simp at hndq
    have nq8_9 : zNe q8 q9 := fun z => by rw [z] at hndq; simp at hndq
    have nq8_10 : zNe q8 q10 := fun z => by rw [z] at hndq; simp at hndq
    have nq8_11 : zNe q8 q11 := fun z => by rw [z] at hndq; simp at hndq
    have nq8_12 : zNe q8 q12 := fun z => by rw [z] at hndq; simp at hndq
    have nq9_10 : zNe q9 q10 := fun z => by rw [z] at hndq; simp at hndq
    have nq9_11 : zNe q9 q11 := fun z => by rw [z] at hndq; simp at hndq
    have nq9_12 : zNe q9 q12 := fun z => by rw [z] at hndq; simp at hndq
    have nq10_11 : zNe q10 q11 := fun z => by rw [z] at hndq; simp at hndq
    have nq10_12 : zNe q10 q12 := fun z => by rw [z] at hndq; simp at hndq
    have nq11_12 : zNe q11 q12 := fun z => by rw [z] at hndq; simp at hndq
    have hg_b1 : G13 b1 = some (.inl (E.2.1 0, n1, .inl f1)) := hxg _ _ (fun z => by rw [z, ha] at hb1; cases hb1) hb1
    have ne_b1_q6 : zNe b1 q6 := zg_fr nf_q6 hb1
    have ne_b1_q7 : zNe b1 q7 := zg_fr nf_q7 hb1
    have ne_b1_q8 : zNe b1 q8 := zg_fr nf_q8 hb1
    have ne_b1_q9 : zNe b1 q9 := zg_fr nf_q9 hb1
    have ne_b1_q10 : zNe b1 q10 := zg_fr nf_q10 hb1
    have ne_b1_q11 : zNe b1 q11 := zg_fr nf_q11 hb1
    have ne_b1_q12 : zNe b1 q12 := zg_fr nf_q12 hb1
    have hg_b2 : G13 b2 = some (.inl (E.2.1 0, n2, .inl f2)) := hxg _ _ (fun z => by rw [z, ha] at hb2; cases hb2) hb2
    have ne_b2_q6 : zNe b2 q6 := zg_fr nf_q6 hb2
    have ne_b2_q7 : zNe b2 q7 := zg_fr nf_q7 hb2
    have ne_b2_q8 : zNe b2 q8 := zg_fr nf_q8 hb2
    have ne_b2_q9 : zNe b2 q9 := zg_fr nf_q9 hb2
    have ne_b2_q10 : zNe b2 q10 := zg_fr nf_q10 hb2
    have ne_b2_q11 : zNe b2 q11 := zg_fr nf_q11 hb2
    have ne_b2_q12 : zNe b2 q12 := zg_fr nf_q12 hb2
    have ne_a_q6 : zNe a q6 := zg_fr nf_q6 ha
    have ne_a_q7 : zNe a q7 := zg_fr nf_q7 ha
    have ne_a_q8 : zNe a q8 := zg_fr nf_q8 ha
    have ne_a_q9 : zNe a q9 := zg_fr nf_q9 ha
    have ne_a_q10 : zNe a q10 := zg_fr nf_q10 ha
    have ne_a_q11 : zNe a q11 := zg_fr nf_q11 ha
    have ne_a_q12 : zNe a q12 := zg_fr nf_q12 ha
    have hxl : zx (fun q => q = a ∨ q = m6 ∨ q = m7 ∨ q = m8 ∨ q = m9 ∨ q = m10 ∨ q = m11 ∨ q = m12) G G13 := hxg.w (fun _ z => Or.inl z)
    refine lv_aload_n hx hb d_Mo_add_16 rfl (lv_at hl 0 rfl) ?_
    refine zg_get (ci := 11) (C := "ZoneAnswersModel") (T := T_Mo) (N := 21) hx hb hts zi_Mo hown hK hG hag rfl 6 (by decide) (hts _ w_1287) (fun _ h9 => h9) rfl d_Mo_add_17 ?_
    refine lv_aload_n hx hb d_Mo_add_20 rfl (lv_at hl 0 rfl) ?_
    refine zg_get (ci := 11) (C := "ZoneAnswersModel") (T := T_Mo) (N := 21) hx hb hts zi_Mo hown hK hG hag rfl 13 (by decide) (hts _ w_1294) (fun _ h9 => h9) rfl d_Mo_add_21 ?_
    refine lv_iload_n hx hb d_Mo_add_24 rfl (lv_at hl 1 rfl) ?_
    refine zg_iast hx hb hK hG hS 1 hB6 rfl (vp_in_nI hlt9 hsm9) d_Mo_add_25 (fun H locs hG hS => ?_)
    rw [zi_n na (by omega)] at hG
    obtain ⟨G97, eG97⟩ : ∃ z : zg_G, z = zg_up G13 q6 (.inl (E.2.1 1, 2 * cap, .inl (upd g6 na sx))) := ⟨_, rfl⟩
    have hG : zP E G97 H := by rw [eG97]; exact hG
    have hx98 : zx (fun q => q = a ∨ q = m6 ∨ q = m7 ∨ q = m8 ∨ q = m9 ∨ q = m10 ∨ q = m11 ∨ q = m12) G G97 := by rw [eG97]; exact hxl.upn nf_q6
    have k99 : G97 b1 = some (.inl (E.2.1 0, n1, .inl f1)) := by rw [eG97, zg_up_ne (ne_b1_q6)]; exact hg_b1
    have k100 : G97 b2 = some (.inl (E.2.1 0, n2, .inl f2)) := by rw [eG97, zg_up_ne (ne_b2_q6)]; exact hg_b2
    have k101 : G97 a = some (.inr (11, [.int th, .ref m1, .int tn, .ref m3, .ref m4, .int m5, .ref q6, .ref q7, .ref q8, .ref q9, .ref q10, .ref q11, .ref q12, .int (nI na), .int m14, .ref m15, .int m16, .int m17, .ref m18, m19, m20])) := by rw [eG97, zg_up_ne (ne_a_q6)]; exact hag
    have k102 : G97 q6 = some (.inl (E.2.1 1, 2 * cap, .inl (upd g6 na sx))) := by rw [eG97]; exact zg_up_self _ _ _
    have k103 : G97 q7 = some (.inl (E.2.1 1, 2 * cap, .inl g7)) := by rw [eG97, zg_up_ne (Ne.symm nq6_7)]; exact hB7
    have k104 : G97 q8 = some (.inl (E.2.1 1, 2 * cap, .inl g8)) := by rw [eG97, zg_up_ne (Ne.symm nq6_8)]; exact hB8
    have k105 : G97 q9 = some (.inl (E.2.1 1, 2 * cap, .inl g9)) := by rw [eG97, zg_up_ne (Ne.symm nq6_9)]; exact hB9
    have k106 : G97 q10 = some (.inl (E.2.1 1, 2 * cap, .inl g10)) := by rw [eG97, zg_up_ne (Ne.symm nq6_10)]; exact hB10
    have k107 : G97 q11 = some (.inl (E.2.1 5, 2 * cap, .inr (.inr (.inr (.inr g11))))) := by rw [eG97, zg_up_ne (Ne.symm nq6_11)]; exact hB11
    have k108 : G97 q12 = some (.inl (E.2.1 5, 2 * cap, .inr (.inr (.inr (.inr g12))))) := by rw [eG97, zg_up_ne (Ne.symm nq6_12)]; exact hB12
    refine lv_aload_n hx hb d_Mo_add_26 rfl (lv_at hl 0 rfl) ?_
    refine zg_get (ci := 11) (C := "ZoneAnswersModel") (T := T_Mo) (N := 21) hx hb hts zi_Mo hown hK hG k101 rfl 11 (by decide) (hts _ w_1292) (fun _ h9 => h9) rfl d_Mo_add_27 ?_
    refine lv_aload_n hx hb d_Mo_add_30 rfl (lv_at hl 0 rfl) ?_
    refine zg_get (ci := 11) (C := "ZoneAnswersModel") (T := T_Mo) (N := 21) hx hb hts zi_Mo hown hK hG k101 rfl 13 (by decide) (hts _ w_1294) (fun _ h9 => h9) rfl d_Mo_add_31 ?_
    refine lv_aload_n hx hb d_Mo_add_34 rfl (lv_at hl 2 rfl) ?_
    refine zg_astAO (o := (some b1)) (t := .byte) hx hb hK hG hS 5 k107 rfl (zAt_use hQ.2.2.2.2.2.2.2.2.2.2.2.2) (fun v hv => by cases hv; exact ⟨_, _, k99⟩) (zfB hQ) (vp_in_nI hlt9 hsm9) d_Mo_add_35 (fun H locs hG hS => ?_)
    rw [zi_n na (by omega)] at hG
    obtain ⟨G109, eG109⟩ : ∃ z : zg_G, z = zg_up G97 q11 (.inl (E.2.1 5, 2 * cap, .inr (.inr (.inr (.inr (va_up g11 na (some b1))))))) := ⟨_, rfl⟩
    have hG : zP E G109 H := by rw [eG109]; exact hG
    have hx110 : zx (fun q => q = a ∨ q = m6 ∨ q = m7 ∨ q = m8 ∨ q = m9 ∨ q = m10 ∨ q = m11 ∨ q = m12) G G109 := by rw [eG109]; exact hx98.upn nf_q11
    have k111 : G109 b1 = some (.inl (E.2.1 0, n1, .inl f1)) := by rw [eG109, zg_up_ne (ne_b1_q11)]; exact k99
    have k112 : G109 b2 = some (.inl (E.2.1 0, n2, .inl f2)) := by rw [eG109, zg_up_ne (ne_b2_q11)]; exact k100
    have k113 : G109 a = some (.inr (11, [.int th, .ref m1, .int tn, .ref m3, .ref m4, .int m5, .ref q6, .ref q7, .ref q8, .ref q9, .ref q10, .ref q11, .ref q12, .int (nI na), .int m14, .ref m15, .int m16, .int m17, .ref m18, m19, m20])) := by rw [eG109, zg_up_ne (ne_a_q11)]; exact k101
    have k114 : G109 q6 = some (.inl (E.2.1 1, 2 * cap, .inl (upd g6 na sx))) := by rw [eG109, zg_up_ne (nq6_11)]; exact k102
    have k115 : G109 q7 = some (.inl (E.2.1 1, 2 * cap, .inl g7)) := by rw [eG109, zg_up_ne (nq7_11)]; exact k103
    have k116 : G109 q8 = some (.inl (E.2.1 1, 2 * cap, .inl g8)) := by rw [eG109, zg_up_ne (nq8_11)]; exact k104
    have k117 : G109 q9 = some (.inl (E.2.1 1, 2 * cap, .inl g9)) := by rw [eG109, zg_up_ne (nq9_11)]; exact k105
    have k118 : G109 q10 = some (.inl (E.2.1 1, 2 * cap, .inl g10)) := by rw [eG109, zg_up_ne (nq10_11)]; exact k106
    have k119 : G109 q11 = some (.inl (E.2.1 5, 2 * cap, .inr (.inr (.inr (.inr (va_up g11 na (some b1))))))) := by rw [eG109]; exact zg_up_self _ _ _
    have k120 : G109 q12 = some (.inl (E.2.1 5, 2 * cap, .inr (.inr (.inr (.inr g12))))) := by rw [eG109, zg_up_ne (Ne.symm nq11_12)]; exact k108
    refine lv_aload_n hx hb d_Mo_add_36 rfl (lv_at hl 0 rfl) ?_
    refine zg_get (ci := 11) (C := "ZoneAnswersModel") (T := T_Mo) (N := 21) hx hb hts zi_Mo hown hK hG k113 rfl 7 (by decide) (hts _ w_1288) (fun _ h9 => h9) rfl d_Mo_add_37 ?_
    refine lv_aload_n hx hb d_Mo_add_40 rfl (lv_at hl 0 rfl) ?_
    refine zg_get (ci := 11) (C := "ZoneAnswersModel") (T := T_Mo) (N := 21) hx hb hts zi_Mo hown hK hG k113 rfl 13 (by decide) (hts _ w_1294) (fun _ h9 => h9) rfl d_Mo_add_41 ?_
    refine lv_iload_n hx hb d_Mo_add_44 rfl (lv_at hl 3 rfl) ?_
    refine zg_iast hx hb hK hG hS 1 k115 rfl (vp_in_nI hlt9 hsm9) d_Mo_add_45 (fun H locs hG hS => ?_)
    rw [zi_n na (by omega)] at hG
    obtain ⟨G121, eG121⟩ : ∃ z : zg_G, z = zg_up G109 q7 (.inl (E.2.1 1, 2 * cap, .inl (upd g7 na tx))) := ⟨_, rfl⟩
    have hG : zP E G121 H := by rw [eG121]; exact hG
    have hx122 : zx (fun q => q = a ∨ q = m6 ∨ q = m7 ∨ q = m8 ∨ q = m9 ∨ q = m10 ∨ q = m11 ∨ q = m12) G G121 := by rw [eG121]; exact hx110.upn nf_q7
    have k123 : G121 b1 = some (.inl (E.2.1 0, n1, .inl f1)) := by rw [eG121, zg_up_ne (ne_b1_q7)]; exact k111
    have k124 : G121 b2 = some (.inl (E.2.1 0, n2, .inl f2)) := by rw [eG121, zg_up_ne (ne_b2_q7)]; exact k112
    have k125 : G121 a = some (.inr (11, [.int th, .ref m1, .int tn, .ref m3, .ref m4, .int m5, .ref q6, .ref q7, .ref q8, .ref q9, .ref q10, .ref q11, .ref q12, .int (nI na), .int m14, .ref m15, .int m16, .int m17, .ref m18, m19, m20])) := by rw [eG121, zg_up_ne (ne_a_q7)]; exact k113
    have k126 : G121 q6 = some (.inl (E.2.1 1, 2 * cap, .inl (upd g6 na sx))) := by rw [eG121, zg_up_ne (nq6_7)]; exact k114
    have k127 : G121 q7 = some (.inl (E.2.1 1, 2 * cap, .inl (upd g7 na tx))) := by rw [eG121]; exact zg_up_self _ _ _
    have k128 : G121 q8 = some (.inl (E.2.1 1, 2 * cap, .inl g8)) := by rw [eG121, zg_up_ne (Ne.symm nq7_8)]; exact k116
    have k129 : G121 q9 = some (.inl (E.2.1 1, 2 * cap, .inl g9)) := by rw [eG121, zg_up_ne (Ne.symm nq7_9)]; exact k117
    have k130 : G121 q10 = some (.inl (E.2.1 1, 2 * cap, .inl g10)) := by rw [eG121, zg_up_ne (Ne.symm nq7_10)]; exact k118
    have k131 : G121 q11 = some (.inl (E.2.1 5, 2 * cap, .inr (.inr (.inr (.inr (va_up g11 na (some b1))))))) := by rw [eG121, zg_up_ne (Ne.symm nq7_11)]; exact k119
    have k132 : G121 q12 = some (.inl (E.2.1 5, 2 * cap, .inr (.inr (.inr (.inr g12))))) := by rw [eG121, zg_up_ne (Ne.symm nq7_12)]; exact k120
    refine lv_aload_n hx hb d_Mo_add_46 rfl (lv_at hl 0 rfl) ?_
    refine zg_get (ci := 11) (C := "ZoneAnswersModel") (T := T_Mo) (N := 21) hx hb hts zi_Mo hown hK hG k125 rfl 8 (by decide) (hts _ w_1289) (fun _ h9 => h9) rfl d_Mo_add_47 ?_
    refine lv_aload_n hx hb d_Mo_add_50 rfl (lv_at hl 0 rfl) ?_
    refine zg_get (ci := 11) (C := "ZoneAnswersModel") (T := T_Mo) (N := 21) hx hb hts zi_Mo hown hK hG k125 rfl 13 (by decide) (hts _ w_1294) (fun _ h9 => h9) rfl d_Mo_add_51 ?_
    refine lv_iload hx hb d_Mo_add_54 (lv_at hl 4 rfl) ?_
    refine zg_iast hx hb hK hG hS 1 k128 rfl (vp_in_nI hlt9 hsm9) d_Mo_add_56 (fun H locs hG hS => ?_)
    rw [zi_n na (by omega)] at hG
    obtain ⟨G133, eG133⟩ : ∃ z : zg_G, z = zg_up G121 q8 (.inl (E.2.1 1, 2 * cap, .inl (upd g8 na ux))) := ⟨_, rfl⟩
    have hG : zP E G133 H := by rw [eG133]; exact hG
    have hx134 : zx (fun q => q = a ∨ q = m6 ∨ q = m7 ∨ q = m8 ∨ q = m9 ∨ q = m10 ∨ q = m11 ∨ q = m12) G G133 := by rw [eG133]; exact hx122.upn nf_q8
    have k135 : G133 b1 = some (.inl (E.2.1 0, n1, .inl f1)) := by rw [eG133, zg_up_ne (ne_b1_q8)]; exact k123
    have k136 : G133 b2 = some (.inl (E.2.1 0, n2, .inl f2)) := by rw [eG133, zg_up_ne (ne_b2_q8)]; exact k124
    have k137 : G133 a = some (.inr (11, [.int th, .ref m1, .int tn, .ref m3, .ref m4, .int m5, .ref q6, .ref q7, .ref q8, .ref q9, .ref q10, .ref q11, .ref q12, .int (nI na), .int m14, .ref m15, .int m16, .int m17, .ref m18, m19, m20])) := by rw [eG133, zg_up_ne (ne_a_q8)]; exact k125
    have k138 : G133 q6 = some (.inl (E.2.1 1, 2 * cap, .inl (upd g6 na sx))) := by rw [eG133, zg_up_ne (nq6_8)]; exact k126
    have k139 : G133 q7 = some (.inl (E.2.1 1, 2 * cap, .inl (upd g7 na tx))) := by rw [eG133, zg_up_ne (nq7_8)]; exact k127
    have k140 : G133 q8 = some (.inl (E.2.1 1, 2 * cap, .inl (upd g8 na ux))) := by rw [eG133]; exact zg_up_self _ _ _
    have k141 : G133 q9 = some (.inl (E.2.1 1, 2 * cap, .inl g9)) := by rw [eG133, zg_up_ne (Ne.symm nq8_9)]; exact k129
    have k142 : G133 q10 = some (.inl (E.2.1 1, 2 * cap, .inl g10)) := by rw [eG133, zg_up_ne (Ne.symm nq8_10)]; exact k130
    have k143 : G133 q11 = some (.inl (E.2.1 5, 2 * cap, .inr (.inr (.inr (.inr (va_up g11 na (some b1))))))) := by rw [eG133, zg_up_ne (Ne.symm nq8_11)]; exact k131
    have k144 : G133 q12 = some (.inl (E.2.1 5, 2 * cap, .inr (.inr (.inr (.inr g12))))) := by rw [eG133, zg_up_ne (Ne.symm nq8_12)]; exact k132
    refine lv_aload_n hx hb d_Mo_add_57 rfl (lv_at hl 0 rfl) ?_
    refine zg_get (ci := 11) (C := "ZoneAnswersModel") (T := T_Mo) (N := 21) hx hb hts zi_Mo hown hK hG k137 rfl 12 (by decide) (hts _ w_1293) (fun _ h9 => h9) rfl d_Mo_add_58 ?_
    refine lv_aload_n hx hb d_Mo_add_61 rfl (lv_at hl 0 rfl) ?_
    refine zg_get (ci := 11) (C := "ZoneAnswersModel") (T := T_Mo) (N := 21) hx hb hts zi_Mo hown hK hG k137 rfl 13 (by decide) (hts _ w_1294) (fun _ h9 => h9) rfl d_Mo_add_62 ?_
    refine lv_aload hx hb d_Mo_add_65 (lv_at hl 5 rfl) ?_
    refine zg_astAO (o := (some b2)) (t := .byte) hx hb hK hG hS 5 k144 rfl (zAt_use hQ.2.2.2.2.2.2.2.2.2.2.2.2) (fun v hv => by cases hv; exact ⟨_, _, k136⟩) (zfB hQ) (vp_in_nI hlt9 hsm9) d_Mo_add_67 (fun H locs hG hS => ?_)
    rw [zi_n na (by omega)] at hG
    obtain ⟨G145, eG145⟩ : ∃ z : zg_G, z = zg_up G133 q12 (.inl (E.2.1 5, 2 * cap, .inr (.inr (.inr (.inr (va_up g12 na (some b2))))))) := ⟨_, rfl⟩
    have hG : zP E G145 H := by rw [eG145]; exact hG
    have hx146 : zx (fun q => q = a ∨ q = m6 ∨ q = m7 ∨ q = m8 ∨ q = m9 ∨ q = m10 ∨ q = m11 ∨ q = m12) G G145 := by rw [eG145]; exact hx134.upn nf_q12
    have k147 : G145 b1 = some (.inl (E.2.1 0, n1, .inl f1)) := by rw [eG145, zg_up_ne (ne_b1_q12)]; exact k135
    have k148 : G145 b2 = some (.inl (E.2.1 0, n2, .inl f2)) := by rw [eG145, zg_up_ne (ne_b2_q12)]; exact k136
    have k149 : G145 a = some (.inr (11, [.int th, .ref m1, .int tn, .ref m3, .ref m4, .int m5, .ref q6, .ref q7, .ref q8, .ref q9, .ref q10, .ref q11, .ref q12, .int (nI na), .int m14, .ref m15, .int m16, .int m17, .ref m18, m19, m20])) := by rw [eG145, zg_up_ne (ne_a_q12)]; exact k137
    have k150 : G145 q6 = some (.inl (E.2.1 1, 2 * cap, .inl (upd g6 na sx))) := by rw [eG145, zg_up_ne (nq6_12)]; exact k138
    have k151 : G145 q7 = some (.inl (E.2.1 1, 2 * cap, .inl (upd g7 na tx))) := by rw [eG145, zg_up_ne (nq7_12)]; exact k139
    have k152 : G145 q8 = some (.inl (E.2.1 1, 2 * cap, .inl (upd g8 na ux))) := by rw [eG145, zg_up_ne (nq8_12)]; exact k140
    have k153 : G145 q9 = some (.inl (E.2.1 1, 2 * cap, .inl g9)) := by rw [eG145, zg_up_ne (nq9_12)]; exact k141
    have k154 : G145 q10 = some (.inl (E.2.1 1, 2 * cap, .inl g10)) := by rw [eG145, zg_up_ne (nq10_12)]; exact k142
    have k155 : G145 q11 = some (.inl (E.2.1 5, 2 * cap, .inr (.inr (.inr (.inr (va_up g11 na (some b1))))))) := by rw [eG145, zg_up_ne (nq11_12)]; exact k143
    have k156 : G145 q12 = some (.inl (E.2.1 5, 2 * cap, .inr (.inr (.inr (.inr (va_up g12 na (some b2))))))) := by rw [eG145]; exact zg_up_self _ _ _
    refine lv_aload_n hx hb d_Mo_add_68 rfl (lv_at hl 0 rfl) ?_
    refine zg_get (ci := 11) (C := "ZoneAnswersModel") (T := T_Mo) (N := 21) hx hb hts zi_Mo hown hK hG k149 rfl 9 (by decide) (hts _ w_1290) (fun _ h9 => h9) rfl d_Mo_add_69 ?_
    refine lv_aload_n hx hb d_Mo_add_72 rfl (lv_at hl 0 rfl) ?_
    refine zg_get (ci := 11) (C := "ZoneAnswersModel") (T := T_Mo) (N := 21) hx hb hts zi_Mo hown hK hG k149 rfl 13 (by decide) (hts _ w_1294) (fun _ h9 => h9) rfl d_Mo_add_73 ?_
    refine lv_iload hx hb d_Mo_add_76 (lv_at hl 6 rfl) ?_
    refine zg_iast hx hb hK hG hS 1 k153 rfl (vp_in_nI hlt9 hsm9) d_Mo_add_78 (fun H locs hG hS => ?_)
    rw [zi_n na (by omega)] at hG
    obtain ⟨G157, eG157⟩ : ∃ z : zg_G, z = zg_up G145 q9 (.inl (E.2.1 1, 2 * cap, .inl (upd g9 na px))) := ⟨_, rfl⟩
    have hG : zP E G157 H := by rw [eG157]; exact hG
    have hx158 : zx (fun q => q = a ∨ q = m6 ∨ q = m7 ∨ q = m8 ∨ q = m9 ∨ q = m10 ∨ q = m11 ∨ q = m12) G G157 := by rw [eG157]; exact hx146.upn nf_q9
    have k159 : G157 b1 = some (.inl (E.2.1 0, n1, .inl f1)) := by rw [eG157, zg_up_ne (ne_b1_q9)]; exact k147
    have k160 : G157 b2 = some (.inl (E.2.1 0, n2, .inl f2)) := by rw [eG157, zg_up_ne (ne_b2_q9)]; exact k148
    have k161 : G157 a = some (.inr (11, [.int th, .ref m1, .int tn, .ref m3, .ref m4, .int m5, .ref q6, .ref q7, .ref q8, .ref q9, .ref q10, .ref q11, .ref q12, .int (nI na), .int m14, .ref m15, .int m16, .int m17, .ref m18, m19, m20])) := by rw [eG157, zg_up_ne (ne_a_q9)]; exact k149
    have k162 : G157 q6 = some (.inl (E.2.1 1, 2 * cap, .inl (upd g6 na sx))) := by rw [eG157, zg_up_ne (nq6_9)]; exact k150
    have k163 : G157 q7 = some (.inl (E.2.1 1, 2 * cap, .inl (upd g7 na tx))) := by rw [eG157, zg_up_ne (nq7_9)]; exact k151
    have k164 : G157 q8 = some (.inl (E.2.1 1, 2 * cap, .inl (upd g8 na ux))) := by rw [eG157, zg_up_ne (nq8_9)]; exact k152
    have k165 : G157 q9 = some (.inl (E.2.1 1, 2 * cap, .inl (upd g9 na px))) := by rw [eG157]; exact zg_up_self _ _ _
    have k166 : G157 q10 = some (.inl (E.2.1 1, 2 * cap, .inl g10)) := by rw [eG157, zg_up_ne (Ne.symm nq9_10)]; exact k154
    have k167 : G157 q11 = some (.inl (E.2.1 5, 2 * cap, .inr (.inr (.inr (.inr (va_up g11 na (some b1))))))) := by rw [eG157, zg_up_ne (Ne.symm nq9_11)]; exact k155
    have k168 : G157 q12 = some (.inl (E.2.1 5, 2 * cap, .inr (.inr (.inr (.inr (va_up g12 na (some b2))))))) := by rw [eG157, zg_up_ne (Ne.symm nq9_12)]; exact k156
    refine lv_aload_n hx hb d_Mo_add_79 rfl (lv_at hl 0 rfl) ?_
    refine zg_get (ci := 11) (C := "ZoneAnswersModel") (T := T_Mo) (N := 21) hx hb hts zi_Mo hown hK hG k161 rfl 10 (by decide) (hts _ w_1291) (fun _ h9 => h9) rfl d_Mo_add_80 ?_
    refine lv_aload_n hx hb d_Mo_add_83 rfl (lv_at hl 0 rfl) ?_
    refine zg_get (ci := 11) (C := "ZoneAnswersModel") (T := T_Mo) (N := 21) hx hb hts zi_Mo hown hK hG k161 rfl 13 (by decide) (hts _ w_1294) (fun _ h9 => h9) rfl d_Mo_add_84 ?_
    refine lv_iload hx hb d_Mo_add_87 (lv_at hl 7 rfl) ?_
    refine zg_iast hx hb hK hG hS 1 k166 rfl (vp_in_nI hlt9 hsm9) d_Mo_add_89 (fun H locs hG hS => ?_)
    rw [zi_n na (by omega)] at hG
    obtain ⟨G169, eG169⟩ : ∃ z : zg_G, z = zg_up G157 q10 (.inl (E.2.1 1, 2 * cap, .inl (upd g10 na zx9))) := ⟨_, rfl⟩
    have hG : zP E G169 H := by rw [eG169]; exact hG
    have hx170 : zx (fun q => q = a ∨ q = m6 ∨ q = m7 ∨ q = m8 ∨ q = m9 ∨ q = m10 ∨ q = m11 ∨ q = m12) G G169 := by rw [eG169]; exact hx158.upn nf_q10
    have k171 : G169 b1 = some (.inl (E.2.1 0, n1, .inl f1)) := by rw [eG169, zg_up_ne (ne_b1_q10)]; exact k159
    have k172 : G169 b2 = some (.inl (E.2.1 0, n2, .inl f2)) := by rw [eG169, zg_up_ne (ne_b2_q10)]; exact k160
    have k173 : G169 a = some (.inr (11, [.int th, .ref m1, .int tn, .ref m3, .ref m4, .int m5, .ref q6, .ref q7, .ref q8, .ref q9, .ref q10, .ref q11, .ref q12, .int (nI na), .int m14, .ref m15, .int m16, .int m17, .ref m18, m19, m20])) := by rw [eG169, zg_up_ne (ne_a_q10)]; exact k161
    have k174 : G169 q6 = some (.inl (E.2.1 1, 2 * cap, .inl (upd g6 na sx))) := by rw [eG169, zg_up_ne (nq6_10)]; exact k162
    have k175 : G169 q7 = some (.inl (E.2.1 1, 2 * cap, .inl (upd g7 na tx))) := by rw [eG169, zg_up_ne (nq7_10)]; exact k163
    have k176 : G169 q8 = some (.inl (E.2.1 1, 2 * cap, .inl (upd g8 na ux))) := by rw [eG169, zg_up_ne (nq8_10)]; exact k164
    have k177 : G169 q9 = some (.inl (E.2.1 1, 2 * cap, .inl (upd g9 na px))) := by rw [eG169, zg_up_ne (nq9_10)]; exact k165
    have k178 : G169 q10 = some (.inl (E.2.1 1, 2 * cap, .inl (upd g10 na zx9))) := by rw [eG169]; exact zg_up_self _ _ _
    have k179 : G169 q11 = some (.inl (E.2.1 5, 2 * cap, .inr (.inr (.inr (.inr (va_up g11 na (some b1))))))) := by rw [eG169, zg_up_ne (Ne.symm nq10_11)]; exact k167
    have k180 : G169 q12 = some (.inl (E.2.1 5, 2 * cap, .inr (.inr (.inr (.inr (va_up g12 na (some b2))))))) := by rw [eG169, zg_up_ne (Ne.symm nq10_12)]; exact k168
    refine lv_aload_n hx hb d_Mo_add_90 rfl (lv_at hl 0 rfl) ?_
    refine lv_dup hx hb d_Mo_add_91 rfl ?_
    refine zg_get (ci := 11) (C := "ZoneAnswersModel") (T := T_Mo) (N := 21) hx hb hts zi_Mo hown hK hG k173 rfl 13 (by decide) (hts _ w_1294) (fun _ h9 => h9) rfl d_Mo_add_92 ?_
    refine lv_iconst (v := 1) hx hb d_Mo_add_95 (by decide) ?_
    refine lv_iadd hx hb d_Mo_add_96 ?_
    refine zi_as (y := nI (na + 1)) (nI_add na 1) ?_
    refine zg_put (ci := 11) (v := .int (nI (na + 1))) (ty := .int) (C := "ZoneAnswersModel") (T := T_Mo) (N := 21) hx hb hts zi_Mo t_Mo t_Mo_ok n_Mo hown hK hG hS k173 rfl 13 (by decide) (hts _ w_1294) (fun _ h9 => h9) rfl (by decide +kernel) rfl rfl (Nat.le_of_ble_eq_true rfl) d_Mo_add_97 (fun H locs hG hS => ?_)
    obtain ⟨G181, eG181⟩ : ∃ z : zg_G, z = zg_up G169 a (.inr (11, [.int th, .ref m1, .int tn, .ref m3, .ref m4, .int m5, .ref q6, .ref q7, .ref q8, .ref q9, .ref q10, .ref q11, .ref q12, .int (nI (na + 1)), .int m14, .ref m15, .int m16, .int m17, .ref m18, m19, m20])) := ⟨_, rfl⟩
    have hG : zP E G181 H := by rw [eG181]; exact hG
    have hx182 : zx (fun q => q = a ∨ q = m6 ∨ q = m7 ∨ q = m8 ∨ q = m9 ∨ q = m10 ∨ q = m11 ∨ q = m12) G G181 := hx170.tr (by rw [eG181]; exact zx.up (Or.inl rfl))
    have k183 : G181 b1 = some (.inl (E.2.1 0, n1, .inl f1)) := by rw [eG181, zg_up_ne (zg_ne k171 k173 (by intro h; simp at h))]; exact k171
    have k184 : G181 b2 = some (.inl (E.2.1 0, n2, .inl f2)) := by rw [eG181, zg_up_ne (zg_ne k172 k173 (by intro h; simp at h))]; exact k172
    have k185 : G181 a = some (.inr (11, [.int th, .ref m1, .int tn, .ref m3, .ref m4, .int m5, .ref q6, .ref q7, .ref q8, .ref q9, .ref q10, .ref q11, .ref q12, .int (nI (na + 1)), .int m14, .ref m15, .int m16, .int m17, .ref m18, m19, m20])) := by rw [eG181]; exact zg_up_self _ _ _
    have k186 : G181 q6 = some (.inl (E.2.1 1, 2 * cap, .inl (upd g6 na sx))) := by rw [eG181, zg_up_ne (Ne.symm ne_a_q6)]; exact k174
    have k187 : G181 q7 = some (.inl (E.2.1 1, 2 * cap, .inl (upd g7 na tx))) := by rw [eG181, zg_up_ne (Ne.symm ne_a_q7)]; exact k175
    have k188 : G181 q8 = some (.inl (E.2.1 1, 2 * cap, .inl (upd g8 na ux))) := by rw [eG181, zg_up_ne (Ne.symm ne_a_q8)]; exact k176
    have k189 : G181 q9 = some (.inl (E.2.1 1, 2 * cap, .inl (upd g9 na px))) := by rw [eG181, zg_up_ne (Ne.symm ne_a_q9)]; exact k177
    have k190 : G181 q10 = some (.inl (E.2.1 1, 2 * cap, .inl (upd g10 na zx9))) := by rw [eG181, zg_up_ne (Ne.symm ne_a_q10)]; exact k178
    have k191 : G181 q11 = some (.inl (E.2.1 5, 2 * cap, .inr (.inr (.inr (.inr (va_up g11 na (some b1))))))) := by rw [eG181, zg_up_ne (Ne.symm ne_a_q11)]; exact k179
    have k192 : G181 q12 = some (.inl (E.2.1 5, 2 * cap, .inr (.inr (.inr (.inr (va_up g12 na (some b2))))))) := by rw [eG181, zg_up_ne (Ne.symm ne_a_q12)]; exact k180
    exact hret _ _ _ _ _ _ _ (⟨q6, q7, q8, q9, q10, q11, q12, 2 * cap, g6, g7, g8, g9, g10, g11, g12, hx182, Or.inr ⟨nf_q6, nf_q7, nf_q8, nf_q9, nf_q10, nf_q11, nf_q12⟩, hndq, k185, ⟨k186, k187, k188, k189, k190, k191, k192⟩, by rw [if_pos (by omega)]; omega, by omega, ⟨fun j hj => hgf6 j (by omega), fun j hj => hgf7 j (by omega), fun j hj => hgf8 j (by omega), fun j hj => hgf9 j (by omega), fun j hj => hgf10 j (by omega)⟩, ⟨fun j hj => by rw [hgf11, if_pos (by omega)], fun j v hv => by rw [hgf11] at hv; split at hv; exact hv; cases hv⟩, ⟨fun j hj => by rw [hgf12, if_pos (by omega)], fun j v hv => by rw [hgf12] at hv; split at hv; exact hv; cases hv⟩⟩) hG hS (by first | omega | (have hh := h9 (by omega); dsimp only; omega)) (by first | omega | (have hh := h9 (by omega); dsimp only; omega)) d_Mo_add_100
abbrev rm_Mo_add_p (c9 s9 : Nat) : Room := { frames := 3, cells := c9, slots := s9, locals := 70 }
set_option maxHeartbeats 4000000 in
set_option maxRecDepth 100000 in
/-- add(..), of the reference -/
theorem t_Mo_add_p (l : Launch) (E : zc_E) (G : zg_G) (na : Nat) (a m1 m3 m4 m6 m7 m8 m9 m10 m11 m12 m15 m18 : Nat) (th tn m5 m14 m16 m17 : Int32) (m19 m20 : Value) (ha : G a = some (.inr (11, [.int th, .ref m1, .int tn, .ref m3, .ref m4, .int m5, .ref m6, .ref m7, .ref m8, .ref m9, .ref m10, .ref m11, .ref m12, .int (nI na), .int m14, .ref m15, .int m16, .int m17, .ref m18, m19, m20]))) (cap : Nat) (hcap : cap ≤ 2 ^ 20) (f6 f7 f8 f9 f10 : Nat → Int32) (f11 f12 : Nat → Option Nat) (hA6 : G m6 = some (.inl (E.2.1 1, cap, .inl f6))) (hA7 : G m7 = some (.inl (E.2.1 1, cap, .inl f7))) (hA8 : G m8 = some (.inl (E.2.1 1, cap, .inl f8))) (hA9 : G m9 = some (.inl (E.2.1 1, cap, .inl f9))) (hA10 : G m10 = some (.inl (E.2.1 1, cap, .inl f10))) (hA11 : G m11 = some (.inl (E.2.1 5, cap, .inr (.inr (.inr (.inr f11)))))) (hA12 : G m12 = some (.inl (E.2.1 5, cap, .inr (.inr (.inr (.inr f12)))))) (hr11 : ∀ j v, f11 j = some v → ∃ (nx : Nat) (fx : Nat → Int32), G v = some (.inl (E.2.1 0, nx, .inl fx))) (hr12 : ∀ j v, f12 j = some v → ∃ (nx : Nat) (fx : Nat → Int32), G v = some (.inl (E.2.1 0, nx, .inl fx))) (hna : na ≤ cap) (hc0 : 0 < cap) (hnd : [m12, m11, m10, m9, m8, m7, m6].Nodup) (b1 n1 : Nat) (f1 : Nat → Int32) (hb1 : G b1 = some (.inl (E.2.1 0, n1, .inl f1))) (hb1n : b1 ∉ [m12, m11, m10, m9, m8, m7, m6]) (sx tx ux px zx9 : Int32) (c9 s9 : Nat) (h9 : cap = na → 7 ≤ c9 ∧ 14 * cap ≤ s9) : zMv l E y_Mo_add c_Mo_add 8 (rm_Mo_add_p c9 s9) [.ref a, .int sx, .ref b1, .int tx, .int ux, .null, .int px, .int zx9] G (fun (G2 : zg_G) => ∃ q6 q7 q8 q9 q10 q11 q12 c2 g6 g7 g8 g9 g10 g11 g12, zx (fun q => q = a ∨ q = m6 ∨ q = m7 ∨ q = m8 ∨ q = m9 ∨ q = m10 ∨ q = m11 ∨ q = m12) G G2 ∧ ((q6 = m6 ∧ q7 = m7 ∧ q8 = m8 ∧ q9 = m9 ∧ q10 = m10 ∧ q11 = m11 ∧ q12 = m12) ∨ (G q6 = none ∧ G q7 = none ∧ G q8 = none ∧ G q9 = none ∧ G q10 = none ∧ G q11 = none ∧ G q12 = none)) ∧ [q12, q11, q10, q9, q8, q7, q6].Nodup ∧ G2 a = some (.inr (11, [.int th, .ref m1, .int tn, .ref m3, .ref m4, .int m5, .ref q6, .ref q7, .ref q8, .ref q9, .ref q10, .ref q11, .ref q12, .int (nI (na + 1)), .int m14, .ref m15, .int m16, .int m17, .ref m18, m19, m20])) ∧ (G2 q6 = some (.inl (E.2.1 1, c2, .inl (upd g6 na sx))) ∧ G2 q7 = some (.inl (E.2.1 1, c2, .inl (upd g7 na tx))) ∧ G2 q8 = some (.inl (E.2.1 1, c2, .inl (upd g8 na ux))) ∧ G2 q9 = some (.inl (E.2.1 1, c2, .inl (upd g9 na px))) ∧ G2 q10 = some (.inl (E.2.1 1, c2, .inl (upd g10 na zx9))) ∧ G2 q11 = some (.inl (E.2.1 5, c2, .inr (.inr (.inr (.inr (va_up g11 na (some b1))))))) ∧ G2 q12 = some (.inl (E.2.1 5, c2, .inr (.inr (.inr (.inr (va_up g12 na none))))))) ∧ c2 = (if cap = na then 2 * na else cap) ∧ na < c2 ∧ ((∀ j, j < na → g6 j = f6 j) ∧ (∀ j, j < na → g7 j = f7 j) ∧ (∀ j, j < na → g8 j = f8 j) ∧ (∀ j, j < na → g9 j = f9 j) ∧ (∀ j, j < na → g10 j = f10 j)) ∧ ((∀ j, j < na → g11 j = f11 j) ∧ ∀ j v, g11 j = some v → f11 j = some v) ∧ ((∀ j, j < na → g12 j = f12 j) ∧ ∀ j v, g12 j = some v → f12 j = some v)) := by
  refine zMv.of (by decide) (Nat.le_of_ble_eq_true rfl) ?_
  intro p e s m args below meth c Q hZ hG hret ls hl
  obtain ⟨hx, hb, hr, hts, hown, hlocks, hml, hnm, hbase, hK, hN, hQ⟩ := hZ
  have hl : lv_has ls 8 [(0, .ref a), (1, .int sx), (2, .ref b1), (3, .int tx), (4, .int ux), (5, .null), (6, .int px), (7, .int zx9)] := hl
  have hS : zg_S (zc_b E) s.heap s.heap [] := va_S.rf
  have nb1_6 : zNe b1 m6 := fun z => hb1n (by rw [z]; simp)
  have nb1_7 : zNe b1 m7 := fun z => hb1n (by rw [z]; simp)
  have nb1_8 : zNe b1 m8 := fun z => hb1n (by rw [z]; simp)
  have nb1_9 : zNe b1 m9 := fun z => hb1n (by rw [z]; simp)
  have nb1_10 : zNe b1 m10 := fun z => hb1n (by rw [z]; simp)
  have nb1_11 : zNe b1 m11 := fun z => hb1n (by rw [z]; simp)
  have nb1_12 : zNe b1 m12 := fun z => hb1n (by rw [z]; simp)
  have nm6_7 : zNe m6 m7 := fun z => by rw [z] at hnd; simp at hnd
  have nm6_8 : zNe m6 m8 := fun z => by rw [z] at hnd; simp at hnd
  have nm6_9 : zNe m6 m9 := fun z => by rw [z] at hnd; simp at hnd
  have nm6_10 : zNe m6 m10 := fun z => by rw [z] at hnd; simp at hnd
  have nm6_11 : zNe m6 m11 := fun z => by rw [z] at hnd; simp at hnd
  have nm6_12 : zNe m6 m12 := fun z => by rw [z] at hnd; simp at hnd
  have nm7_8 : zNe m7 m8 := fun z => by rw [z] at hnd; simp at hnd
  have nm7_9 : zNe m7 m9 := fun z => by rw [z] at hnd; simp at hnd
  have nm7_10 : zNe m7 m10 := fun z => by rw [z] at hnd; simp at hnd
  have nm7_11 : zNe m7 m11 := fun z => by rw [z] at hnd; simp at hnd
  have nm7_12 : zNe m7 m12 := fun z => by rw [z] at hnd; simp at hnd
  have nm8_9 : zNe m8 m9 := fun z => by rw [z] at hnd; simp at hnd
  have nm8_10 : zNe m8 m10 := fun z => by rw [z] at hnd; simp at hnd
  have nm8_11 : zNe m8 m11 := fun z => by rw [z] at hnd; simp at hnd
  have nm8_12 : zNe m8 m12 := fun z => by rw [z] at hnd; simp at hnd
  have nm9_10 : zNe m9 m10 := fun z => by rw [z] at hnd; simp at hnd
  have nm9_11 : zNe m9 m11 := fun z => by rw [z] at hnd; simp at hnd
  have nm9_12 : zNe m9 m12 := fun z => by rw [z] at hnd; simp at hnd
  have nm10_11 : zNe m10 m11 := fun z => by rw [z] at hnd; simp at hnd
  have nm10_12 : zNe m10 m12 := fun z => by rw [z] at hnd; simp at hnd
  have nm11_12 : zNe m11 m12 := fun z => by rw [z] at hnd; simp at hnd
  have hx0 : zx (fun q => q = a ∨ q = m6 ∨ q = m7 ∨ q = m8 ∨ q = m9 ∨ q = m10 ∨ q = m11 ∨ q = m12) G G := zx.rf
  refine lv_aload_n hx hb d_Mo_add_0 rfl (lv_at hl 0 rfl) ?_
  refine zg_get (ci := 11) (C := "ZoneAnswersModel") (T := T_Mo) (N := 21) hx hb hts zi_Mo hown hK hG ha rfl 13 (by decide) (hts _ w_1294) (fun _ h9 => h9) rfl d_Mo_add_1 ?_
  refine lv_aload_n hx hb d_Mo_add_4 rfl (lv_at hl 0 rfl) ?_
  refine zg_get (ci := 11) (C := "ZoneAnswersModel") (T := T_Mo) (N := 21) hx hb hts zi_Mo hown hK hG ha rfl 6 (by decide) (hts _ w_1287) (fun _ h9 => h9) rfl d_Mo_add_5 ?_
  refine zg_alen hx hb hK hG 1 hA6 rfl (v := nI cap) rfl d_Mo_add_8 ?_
  refine lv_icmp_ne (tgt := 16) hx hb d_Mo_add_9 (by decide) (fun c9 => ?_) (fun c9 => ?_)
  · have b9 : ¬ na = cap := fun q => c9 ((nI_eq (a := na) (b := cap) (by omega) (by omega)).mpr q)
    have hlt9 : na < cap := by omega
    have hsm9 : cap < 2 ^ 31 := by omega
    refine lv_aload_n hx hb d_Mo_add_16 rfl (lv_at hl 0 rfl) ?_
    refine zg_get (ci := 11) (C := "ZoneAnswersModel") (T := T_Mo) (N := 21) hx hb hts zi_Mo hown hK hG ha rfl 6 (by decide) (hts _ w_1287) (fun _ h9 => h9) rfl d_Mo_add_17 ?_
    refine lv_aload_n hx hb d_Mo_add_20 rfl (lv_at hl 0 rfl) ?_
    refine zg_get (ci := 11) (C := "ZoneAnswersModel") (T := T_Mo) (N := 21) hx hb hts zi_Mo hown hK hG ha rfl 13 (by decide) (hts _ w_1294) (fun _ h9 => h9) rfl d_Mo_add_21 ?_
    refine lv_iload_n hx hb d_Mo_add_24 rfl (lv_at hl 1 rfl) ?_
    refine zg_iast hx hb hK hG hS 1 hA6 rfl (vp_in_nI hlt9 hsm9) d_Mo_add_25 (fun H locs hG hS => ?_)
    rw [zi_n na (by omega)] at hG
    obtain ⟨G1, eG1⟩ : ∃ z : zg_G, z = zg_up G m6 (.inl (E.2.1 1, cap, .inl (upd f6 na sx))) := ⟨_, rfl⟩
    have hG : zP E G1 H := by rw [eG1]; exact hG
    have hx2 : zx (fun q => q = a ∨ q = m6 ∨ q = m7 ∨ q = m8 ∨ q = m9 ∨ q = m10 ∨ q = m11 ∨ q = m12) G G1 := hx0.tr (by rw [eG1]; exact zx.up (Or.inr (Or.inl rfl)))
    have k3 : G1 a = some (.inr (11, [.int th, .ref m1, .int tn, .ref m3, .ref m4, .int m5, .ref m6, .ref m7, .ref m8, .ref m9, .ref m10, .ref m11, .ref m12, .int (nI na), .int m14, .ref m15, .int m16, .int m17, .ref m18, m19, m20])) := by rw [eG1, zg_up_ne (zg_ne ha hA6 (by intro h; simp at h))]; exact ha
    have k4 : G1 m6 = some (.inl (E.2.1 1, cap, .inl (upd f6 na sx))) := by rw [eG1]; exact zg_up_self _ _ _
    have k5 : G1 m7 = some (.inl (E.2.1 1, cap, .inl f7)) := by rw [eG1, zg_up_ne (Ne.symm nm6_7)]; exact hA7
    have k6 : G1 m8 = some (.inl (E.2.1 1, cap, .inl f8)) := by rw [eG1, zg_up_ne (Ne.symm nm6_8)]; exact hA8
    have k7 : G1 m9 = some (.inl (E.2.1 1, cap, .inl f9)) := by rw [eG1, zg_up_ne (Ne.symm nm6_9)]; exact hA9
    have k8 : G1 m10 = some (.inl (E.2.1 1, cap, .inl f10)) := by rw [eG1, zg_up_ne (Ne.symm nm6_10)]; exact hA10
    have k9 : G1 m11 = some (.inl (E.2.1 5, cap, .inr (.inr (.inr (.inr f11))))) := by rw [eG1, zg_up_ne (Ne.symm nm6_11)]; exact hA11
    have k10 : G1 m12 = some (.inl (E.2.1 5, cap, .inr (.inr (.inr (.inr f12))))) := by rw [eG1, zg_up_ne (Ne.symm nm6_12)]; exact hA12
    have k11 : G1 b1 = some (.inl (E.2.1 0, n1, .inl f1)) := by rw [eG1, zg_up_ne (nb1_6)]; exact hb1
    refine lv_aload_n hx hb d_Mo_add_26 rfl (lv_at hl 0 rfl) ?_
    refine zg_get (ci := 11) (C := "ZoneAnswersModel") (T := T_Mo) (N := 21) hx hb hts zi_Mo hown hK hG k3 rfl 11 (by decide) (hts _ w_1292) (fun _ h9 => h9) rfl d_Mo_add_27 ?_
    refine lv_aload_n hx hb d_Mo_add_30 rfl (lv_at hl 0 rfl) ?_
    refine zg_get (ci := 11) (C := "ZoneAnswersModel") (T := T_Mo) (N := 21) hx hb hts zi_Mo hown hK hG k3 rfl 13 (by decide) (hts _ w_1294) (fun _ h9 => h9) rfl d_Mo_add_31 ?_
    refine lv_aload_n hx hb d_Mo_add_34 rfl (lv_at hl 2 rfl) ?_
    refine zg_astAO (o := (some b1)) (t := .byte) hx hb hK hG hS 5 k9 rfl (zAt_use hQ.2.2.2.2.2.2.2.2.2.2.2.2) (fun v hv => by cases hv; exact ⟨_, _, k11⟩) (zfB hQ) (vp_in_nI hlt9 hsm9) d_Mo_add_35 (fun H locs hG hS => ?_)
    rw [zi_n na (by omega)] at hG
    obtain ⟨G12, eG12⟩ : ∃ z : zg_G, z = zg_up G1 m11 (.inl (E.2.1 5, cap, .inr (.inr (.inr (.inr (va_up f11 na (some b1))))))) := ⟨_, rfl⟩
    have hG : zP E G12 H := by rw [eG12]; exact hG
    have hx13 : zx (fun q => q = a ∨ q = m6 ∨ q = m7 ∨ q = m8 ∨ q = m9 ∨ q = m10 ∨ q = m11 ∨ q = m12) G G12 := hx2.tr (by rw [eG12]; exact zx.up (Or.inr (Or.inr (Or.inr (Or.inr (Or.inr (Or.inr (Or.inl rfl))))))))
    have k14 : G12 a = some (.inr (11, [.int th, .ref m1, .int tn, .ref m3, .ref m4, .int m5, .ref m6, .ref m7, .ref m8, .ref m9, .ref m10, .ref m11, .ref m12, .int (nI na), .int m14, .ref m15, .int m16, .int m17, .ref m18, m19, m20])) := by rw [eG12, zg_up_ne (zg_ne k3 k9 (by intro h; simp at h))]; exact k3
    have k15 : G12 m6 = some (.inl (E.2.1 1, cap, .inl (upd f6 na sx))) := by rw [eG12, zg_up_ne (nm6_11)]; exact k4
    have k16 : G12 m7 = some (.inl (E.2.1 1, cap, .inl f7)) := by rw [eG12, zg_up_ne (nm7_11)]; exact k5
    have k17 : G12 m8 = some (.inl (E.2.1 1, cap, .inl f8)) := by rw [eG12, zg_up_ne (nm8_11)]; exact k6
    have k18 : G12 m9 = some (.inl (E.2.1 1, cap, .inl f9)) := by rw [eG12, zg_up_ne (nm9_11)]; exact k7
    have k19 : G12 m10 = some (.inl (E.2.1 1, cap, .inl f10)) := by rw [eG12, zg_up_ne (nm10_11)]; exact k8
    have k20 : G12 m11 = some (.inl (E.2.1 5, cap, .inr (.inr (.inr (.inr (va_up f11 na (some b1))))))) := by rw [eG12]; exact zg_up_self _ _ _
    have k21 : G12 m12 = some (.inl (E.2.1 5, cap, .inr (.inr (.inr (.inr f12))))) := by rw [eG12, zg_up_ne (Ne.symm nm11_12)]; exact k10
    have k22 : G12 b1 = some (.inl (E.2.1 0, n1, .inl f1)) := by rw [eG12, zg_up_ne (nb1_11)]; exact k11
    refine lv_aload_n hx hb d_Mo_add_36 rfl (lv_at hl 0 rfl) ?_
    refine zg_get (ci := 11) (C := "ZoneAnswersModel") (T := T_Mo) (N := 21) hx hb hts zi_Mo hown hK hG k14 rfl 7 (by decide) (hts _ w_1288) (fun _ h9 => h9) rfl d_Mo_add_37 ?_
    refine lv_aload_n hx hb d_Mo_add_40 rfl (lv_at hl 0 rfl) ?_
    refine zg_get (ci := 11) (C := "ZoneAnswersModel") (T := T_Mo) (N := 21) hx hb hts zi_Mo hown hK hG k14 rfl 13 (by decide) (hts _ w_1294) (fun _ h9 => h9) rfl d_Mo_add_41 ?_
    refine lv_iload_n hx hb d_Mo_add_44 rfl (lv_at hl 3 rfl) ?_
    refine zg_iast hx hb hK hG hS 1 k16 rfl (vp_in_nI hlt9 hsm9) d_Mo_add_45 (fun H locs hG hS => ?_)
    rw [zi_n na (by omega)] at hG
    obtain ⟨G23, eG23⟩ : ∃ z : zg_G, z = zg_up G12 m7 (.inl (E.2.1 1, cap, .inl (upd f7 na tx))) := ⟨_, rfl⟩
    have hG : zP E G23 H := by rw [eG23]; exact hG
    have hx24 : zx (fun q => q = a ∨ q = m6 ∨ q = m7 ∨ q = m8 ∨ q = m9 ∨ q = m10 ∨ q = m11 ∨ q = m12) G G23 := hx13.tr (by rw [eG23]; exact zx.up (Or.inr (Or.inr (Or.inl rfl))))
    have k25 : G23 a = some (.inr (11, [.int th, .ref m1, .int tn, .ref m3, .ref m4, .int m5, .ref m6, .ref m7, .ref m8, .ref m9, .ref m10, .ref m11, .ref m12, .int (nI na), .int m14, .ref m15, .int m16, .int m17, .ref m18, m19, m20])) := by rw [eG23, zg_up_ne (zg_ne k14 k16 (by intro h; simp at h))]; exact k14
    have k26 : G23 m6 = some (.inl (E.2.1 1, cap, .inl (upd f6 na sx))) := by rw [eG23, zg_up_ne (nm6_7)]; exact k15
    have k27 : G23 m7 = some (.inl (E.2.1 1, cap, .inl (upd f7 na tx))) := by rw [eG23]; exact zg_up_self _ _ _
    have k28 : G23 m8 = some (.inl (E.2.1 1, cap, .inl f8)) := by rw [eG23, zg_up_ne (Ne.symm nm7_8)]; exact k17
    have k29 : G23 m9 = some (.inl (E.2.1 1, cap, .inl f9)) := by rw [eG23, zg_up_ne (Ne.symm nm7_9)]; exact k18
    have k30 : G23 m10 = some (.inl (E.2.1 1, cap, .inl f10)) := by rw [eG23, zg_up_ne (Ne.symm nm7_10)]; exact k19
    have k31 : G23 m11 = some (.inl (E.2.1 5, cap, .inr (.inr (.inr (.inr (va_up f11 na (some b1))))))) := by rw [eG23, zg_up_ne (Ne.symm nm7_11)]; exact k20
    have k32 : G23 m12 = some (.inl (E.2.1 5, cap, .inr (.inr (.inr (.inr f12))))) := by rw [eG23, zg_up_ne (Ne.symm nm7_12)]; exact k21
    have k33 : G23 b1 = some (.inl (E.2.1 0, n1, .inl f1)) := by rw [eG23, zg_up_ne (nb1_7)]; exact k22
    refine lv_aload_n hx hb d_Mo_add_46 rfl (lv_at hl 0 rfl) ?_
    refine zg_get (ci := 11) (C := "ZoneAnswersModel") (T := T_Mo) (N := 21) hx hb hts zi_Mo hown hK hG k25 rfl 8 (by decide) (hts _ w_1289) (fun _ h9 => h9) rfl d_Mo_add_47 ?_
    refine lv_aload_n hx hb d_Mo_add_50 rfl (lv_at hl 0 rfl) ?_
    refine zg_get (ci := 11) (C := "ZoneAnswersModel") (T := T_Mo) (N := 21) hx hb hts zi_Mo hown hK hG k25 rfl 13 (by decide) (hts _ w_1294) (fun _ h9 => h9) rfl d_Mo_add_51 ?_
    refine lv_iload hx hb d_Mo_add_54 (lv_at hl 4 rfl) ?_
    refine zg_iast hx hb hK hG hS 1 k28 rfl (vp_in_nI hlt9 hsm9) d_Mo_add_56 (fun H locs hG hS => ?_)
    rw [zi_n na (by omega)] at hG
    obtain ⟨G34, eG34⟩ : ∃ z : zg_G, z = zg_up G23 m8 (.inl (E.2.1 1, cap, .inl (upd f8 na ux))) := ⟨_, rfl⟩
    have hG : zP E G34 H := by rw [eG34]; exact hG
    have hx35 : zx (fun q => q = a ∨ q = m6 ∨ q = m7 ∨ q = m8 ∨ q = m9 ∨ q = m10 ∨ q = m11 ∨ q = m12) G G34 := hx24.tr (by rw [eG34]; exact zx.up (Or.inr (Or.inr (Or.inr (Or.inl rfl)))))
    have k36 : G34 a = some (.inr (11, [.int th, .ref m1, .int tn, .ref m3, .ref m4, .int m5, .ref m6, .ref m7, .ref m8, .ref m9, .ref m10, .ref m11, .ref m12, .int (nI na), .int m14, .ref m15, .int m16, .int m17, .ref m18, m19, m20])) := by rw [eG34, zg_up_ne (zg_ne k25 k28 (by intro h; simp at h))]; exact k25
    have k37 : G34 m6 = some (.inl (E.2.1 1, cap, .inl (upd f6 na sx))) := by rw [eG34, zg_up_ne (nm6_8)]; exact k26
    have k38 : G34 m7 = some (.inl (E.2.1 1, cap, .inl (upd f7 na tx))) := by rw [eG34, zg_up_ne (nm7_8)]; exact k27
    have k39 : G34 m8 = some (.inl (E.2.1 1, cap, .inl (upd f8 na ux))) := by rw [eG34]; exact zg_up_self _ _ _
    have k40 : G34 m9 = some (.inl (E.2.1 1, cap, .inl f9)) := by rw [eG34, zg_up_ne (Ne.symm nm8_9)]; exact k29
    have k41 : G34 m10 = some (.inl (E.2.1 1, cap, .inl f10)) := by rw [eG34, zg_up_ne (Ne.symm nm8_10)]; exact k30
    have k42 : G34 m11 = some (.inl (E.2.1 5, cap, .inr (.inr (.inr (.inr (va_up f11 na (some b1))))))) := by rw [eG34, zg_up_ne (Ne.symm nm8_11)]; exact k31
    have k43 : G34 m12 = some (.inl (E.2.1 5, cap, .inr (.inr (.inr (.inr f12))))) := by rw [eG34, zg_up_ne (Ne.symm nm8_12)]; exact k32
    have k44 : G34 b1 = some (.inl (E.2.1 0, n1, .inl f1)) := by rw [eG34, zg_up_ne (nb1_8)]; exact k33
    refine lv_aload_n hx hb d_Mo_add_57 rfl (lv_at hl 0 rfl) ?_
    refine zg_get (ci := 11) (C := "ZoneAnswersModel") (T := T_Mo) (N := 21) hx hb hts zi_Mo hown hK hG k36 rfl 12 (by decide) (hts _ w_1293) (fun _ h9 => h9) rfl d_Mo_add_58 ?_
    refine lv_aload_n hx hb d_Mo_add_61 rfl (lv_at hl 0 rfl) ?_
    refine zg_get (ci := 11) (C := "ZoneAnswersModel") (T := T_Mo) (N := 21) hx hb hts zi_Mo hown hK hG k36 rfl 13 (by decide) (hts _ w_1294) (fun _ h9 => h9) rfl d_Mo_add_62 ?_
    refine lv_aloadN hx hb d_Mo_add_65 (lv_at hl 5 rfl) ?_
    refine zg_astAO (o := none) (t := .byte) hx hb hK hG hS 5 k43 rfl (zAt_use hQ.2.2.2.2.2.2.2.2.2.2.2.2) (fun v hv => by cases hv) (zfB hQ) (vp_in_nI hlt9 hsm9) d_Mo_add_67 (fun H locs hG hS => ?_)
    rw [zi_n na (by omega)] at hG
    obtain ⟨G45, eG45⟩ : ∃ z : zg_G, z = zg_up G34 m12 (.inl (E.2.1 5, cap, .inr (.inr (.inr (.inr (va_up f12 na none)))))) := ⟨_, rfl⟩
    have hG : zP E G45 H := by rw [eG45]; exact hG
    have hx46 : zx (fun q => q = a ∨ q = m6 ∨ q = m7 ∨ q = m8 ∨ q = m9 ∨ q = m10 ∨ q = m11 ∨ q = m12) G G45 := hx35.tr (by rw [eG45]; exact zx.up (Or.inr (Or.inr (Or.inr (Or.inr (Or.inr (Or.inr (Or.inr (rfl)))))))))
    have k47 : G45 a = some (.inr (11, [.int th, .ref m1, .int tn, .ref m3, .ref m4, .int m5, .ref m6, .ref m7, .ref m8, .ref m9, .ref m10, .ref m11, .ref m12, .int (nI na), .int m14, .ref m15, .int m16, .int m17, .ref m18, m19, m20])) := by rw [eG45, zg_up_ne (zg_ne k36 k43 (by intro h; simp at h))]; exact k36
    have k48 : G45 m6 = some (.inl (E.2.1 1, cap, .inl (upd f6 na sx))) := by rw [eG45, zg_up_ne (nm6_12)]; exact k37
    have k49 : G45 m7 = some (.inl (E.2.1 1, cap, .inl (upd f7 na tx))) := by rw [eG45, zg_up_ne (nm7_12)]; exact k38
    have k50 : G45 m8 = some (.inl (E.2.1 1, cap, .inl (upd f8 na ux))) := by rw [eG45, zg_up_ne (nm8_12)]; exact k39
    have k51 : G45 m9 = some (.inl (E.2.1 1, cap, .inl f9)) := by rw [eG45, zg_up_ne (nm9_12)]; exact k40
    have k52 : G45 m10 = some (.inl (E.2.1 1, cap, .inl f10)) := by rw [eG45, zg_up_ne (nm10_12)]; exact k41
    have k53 : G45 m11 = some (.inl (E.2.1 5, cap, .inr (.inr (.inr (.inr (va_up f11 na (some b1))))))) := by rw [eG45, zg_up_ne (nm11_12)]; exact k42
    have k54 : G45 m12 = some (.inl (E.2.1 5, cap, .inr (.inr (.inr (.inr (va_up f12 na none)))))) := by rw [eG45]; exact zg_up_self _ _ _
    have k55 : G45 b1 = some (.inl (E.2.1 0, n1, .inl f1)) := by rw [eG45, zg_up_ne (nb1_12)]; exact k44
    refine lv_aload_n hx hb d_Mo_add_68 rfl (lv_at hl 0 rfl) ?_
    refine zg_get (ci := 11) (C := "ZoneAnswersModel") (T := T_Mo) (N := 21) hx hb hts zi_Mo hown hK hG k47 rfl 9 (by decide) (hts _ w_1290) (fun _ h9 => h9) rfl d_Mo_add_69 ?_
    refine lv_aload_n hx hb d_Mo_add_72 rfl (lv_at hl 0 rfl) ?_
    refine zg_get (ci := 11) (C := "ZoneAnswersModel") (T := T_Mo) (N := 21) hx hb hts zi_Mo hown hK hG k47 rfl 13 (by decide) (hts _ w_1294) (fun _ h9 => h9) rfl d_Mo_add_73 ?_
    refine lv_iload hx hb d_Mo_add_76 (lv_at hl 6 rfl) ?_
    refine zg_iast hx hb hK hG hS 1 k51 rfl (vp_in_nI hlt9 hsm9) d_Mo_add_78 (fun H locs hG hS => ?_)
    rw [zi_n na (by omega)] at hG
    obtain ⟨G56, eG56⟩ : ∃ z : zg_G, z = zg_up G45 m9 (.inl (E.2.1 1, cap, .inl (upd f9 na px))) := ⟨_, rfl⟩
    have hG : zP E G56 H := by rw [eG56]; exact hG
    have hx57 : zx (fun q => q = a ∨ q = m6 ∨ q = m7 ∨ q = m8 ∨ q = m9 ∨ q = m10 ∨ q = m11 ∨ q = m12) G G56 := hx46.tr (by rw [eG56]; exact zx.up (Or.inr (Or.inr (Or.inr (Or.inr (Or.inl rfl))))))
    have k58 : G56 a = some (.inr (11, [.int th, .ref m1, .int tn, .ref m3, .ref m4, .int m5, .ref m6, .ref m7, .ref m8, .ref m9, .ref m10, .ref m11, .ref m12, .int (nI na), .int m14, .ref m15, .int m16, .int m17, .ref m18, m19, m20])) := by rw [eG56, zg_up_ne (zg_ne k47 k51 (by intro h; simp at h))]; exact k47
    have k59 : G56 m6 = some (.inl (E.2.1 1, cap, .inl (upd f6 na sx))) := by rw [eG56, zg_up_ne (nm6_9)]; exact k48
    have k60 : G56 m7 = some (.inl (E.2.1 1, cap, .inl (upd f7 na tx))) := by rw [eG56, zg_up_ne (nm7_9)]; exact k49
    have k61 : G56 m8 = some (.inl (E.2.1 1, cap, .inl (upd f8 na ux))) := by rw [eG56, zg_up_ne (nm8_9)]; exact k50
    have k62 : G56 m9 = some (.inl (E.2.1 1, cap, .inl (upd f9 na px))) := by rw [eG56]; exact zg_up_self _ _ _
    have k63 : G56 m10 = some (.inl (E.2.1 1, cap, .inl f10)) := by rw [eG56, zg_up_ne (Ne.symm nm9_10)]; exact k52
    have k64 : G56 m11 = some (.inl (E.2.1 5, cap, .inr (.inr (.inr (.inr (va_up f11 na (some b1))))))) := by rw [eG56, zg_up_ne (Ne.symm nm9_11)]; exact k53
    have k65 : G56 m12 = some (.inl (E.2.1 5, cap, .inr (.inr (.inr (.inr (va_up f12 na none)))))) := by rw [eG56, zg_up_ne (Ne.symm nm9_12)]; exact k54
    have k66 : G56 b1 = some (.inl (E.2.1 0, n1, .inl f1)) := by rw [eG56, zg_up_ne (nb1_9)]; exact k55
    refine lv_aload_n hx hb d_Mo_add_79 rfl (lv_at hl 0 rfl) ?_
    refine zg_get (ci := 11) (C := "ZoneAnswersModel") (T := T_Mo) (N := 21) hx hb hts zi_Mo hown hK hG k58 rfl 10 (by decide) (hts _ w_1291) (fun _ h9 => h9) rfl d_Mo_add_80 ?_
    refine lv_aload_n hx hb d_Mo_add_83 rfl (lv_at hl 0 rfl) ?_
    refine zg_get (ci := 11) (C := "ZoneAnswersModel") (T := T_Mo) (N := 21) hx hb hts zi_Mo hown hK hG k58 rfl 13 (by decide) (hts _ w_1294) (fun _ h9 => h9) rfl d_Mo_add_84 ?_
    refine lv_iload hx hb d_Mo_add_87 (lv_at hl 7 rfl) ?_
    refine zg_iast hx hb hK hG hS 1 k63 rfl (vp_in_nI hlt9 hsm9) d_Mo_add_89 (fun H locs hG hS => ?_)
    rw [zi_n na (by omega)] at hG
    obtain ⟨G67, eG67⟩ : ∃ z : zg_G, z = zg_up G56 m10 (.inl (E.2.1 1, cap, .inl (upd f10 na zx9))) := ⟨_, rfl⟩
    have hG : zP E G67 H := by rw [eG67]; exact hG
    have hx68 : zx (fun q => q = a ∨ q = m6 ∨ q = m7 ∨ q = m8 ∨ q = m9 ∨ q = m10 ∨ q = m11 ∨ q = m12) G G67 := hx57.tr (by rw [eG67]; exact zx.up (Or.inr (Or.inr (Or.inr (Or.inr (Or.inr (Or.inl rfl)))))))
    have k69 : G67 a = some (.inr (11, [.int th, .ref m1, .int tn, .ref m3, .ref m4, .int m5, .ref m6, .ref m7, .ref m8, .ref m9, .ref m10, .ref m11, .ref m12, .int (nI na), .int m14, .ref m15, .int m16, .int m17, .ref m18, m19, m20])) := by rw [eG67, zg_up_ne (zg_ne k58 k63 (by intro h; simp at h))]; exact k58
    have k70 : G67 m6 = some (.inl (E.2.1 1, cap, .inl (upd f6 na sx))) := by rw [eG67, zg_up_ne (nm6_10)]; exact k59
    have k71 : G67 m7 = some (.inl (E.2.1 1, cap, .inl (upd f7 na tx))) := by rw [eG67, zg_up_ne (nm7_10)]; exact k60
    have k72 : G67 m8 = some (.inl (E.2.1 1, cap, .inl (upd f8 na ux))) := by rw [eG67, zg_up_ne (nm8_10)]; exact k61
    have k73 : G67 m9 = some (.inl (E.2.1 1, cap, .inl (upd f9 na px))) := by rw [eG67, zg_up_ne (nm9_10)]; exact k62
    have k74 : G67 m10 = some (.inl (E.2.1 1, cap, .inl (upd f10 na zx9))) := by rw [eG67]; exact zg_up_self _ _ _
    have k75 : G67 m11 = some (.inl (E.2.1 5, cap, .inr (.inr (.inr (.inr (va_up f11 na (some b1))))))) := by rw [eG67, zg_up_ne (Ne.symm nm10_11)]; exact k64
    have k76 : G67 m12 = some (.inl (E.2.1 5, cap, .inr (.inr (.inr (.inr (va_up f12 na none)))))) := by rw [eG67, zg_up_ne (Ne.symm nm10_12)]; exact k65
    have k77 : G67 b1 = some (.inl (E.2.1 0, n1, .inl f1)) := by rw [eG67, zg_up_ne (nb1_10)]; exact k66
    refine lv_aload_n hx hb d_Mo_add_90 rfl (lv_at hl 0 rfl) ?_
    refine lv_dup hx hb d_Mo_add_91 rfl ?_
    refine zg_get (ci := 11) (C := "ZoneAnswersModel") (T := T_Mo) (N := 21) hx hb hts zi_Mo hown hK hG k69 rfl 13 (by decide) (hts _ w_1294) (fun _ h9 => h9) rfl d_Mo_add_92 ?_
    refine lv_iconst (v := 1) hx hb d_Mo_add_95 (by decide) ?_
    refine lv_iadd hx hb d_Mo_add_96 ?_
    refine zi_as (y := nI (na + 1)) (nI_add na 1) ?_
    refine zg_put (ci := 11) (v := .int (nI (na + 1))) (ty := .int) (C := "ZoneAnswersModel") (T := T_Mo) (N := 21) hx hb hts zi_Mo t_Mo t_Mo_ok n_Mo hown hK hG hS k69 rfl 13 (by decide) (hts _ w_1294) (fun _ h9 => h9) rfl (by decide +kernel) rfl rfl (Nat.le_of_ble_eq_true rfl) d_Mo_add_97 (fun H locs hG hS => ?_)
    obtain ⟨G78, eG78⟩ : ∃ z : zg_G, z = zg_up G67 a (.inr (11, [.int th, .ref m1, .int tn, .ref m3, .ref m4, .int m5, .ref m6, .ref m7, .ref m8, .ref m9, .ref m10, .ref m11, .ref m12, .int (nI (na + 1)), .int m14, .ref m15, .int m16, .int m17, .ref m18, m19, m20])) := ⟨_, rfl⟩
    have hG : zP E G78 H := by rw [eG78]; exact hG
    have hx79 : zx (fun q => q = a ∨ q = m6 ∨ q = m7 ∨ q = m8 ∨ q = m9 ∨ q = m10 ∨ q = m11 ∨ q = m12) G G78 := hx68.tr (by rw [eG78]; exact zx.up (Or.inl rfl))
    have k80 : G78 a = some (.inr (11, [.int th, .ref m1, .int tn, .ref m3, .ref m4, .int m5, .ref m6, .ref m7, .ref m8, .ref m9, .ref m10, .ref m11, .ref m12, .int (nI (na + 1)), .int m14, .ref m15, .int m16, .int m17, .ref m18, m19, m20])) := by rw [eG78]; exact zg_up_self _ _ _
    have k81 : G78 m6 = some (.inl (E.2.1 1, cap, .inl (upd f6 na sx))) := by rw [eG78, zg_up_ne (zg_ne k70 k69 (by intro h; simp at h))]; exact k70
    have k82 : G78 m7 = some (.inl (E.2.1 1, cap, .inl (upd f7 na tx))) := by rw [eG78, zg_up_ne (zg_ne k71 k69 (by intro h; simp at h))]; exact k71
    have k83 : G78 m8 = some (.inl (E.2.1 1, cap, .inl (upd f8 na ux))) := by rw [eG78, zg_up_ne (zg_ne k72 k69 (by intro h; simp at h))]; exact k72
    have k84 : G78 m9 = some (.inl (E.2.1 1, cap, .inl (upd f9 na px))) := by rw [eG78, zg_up_ne (zg_ne k73 k69 (by intro h; simp at h))]; exact k73
    have k85 : G78 m10 = some (.inl (E.2.1 1, cap, .inl (upd f10 na zx9))) := by rw [eG78, zg_up_ne (zg_ne k74 k69 (by intro h; simp at h))]; exact k74
    have k86 : G78 m11 = some (.inl (E.2.1 5, cap, .inr (.inr (.inr (.inr (va_up f11 na (some b1))))))) := by rw [eG78, zg_up_ne (zg_ne k75 k69 (by intro h; simp at h))]; exact k75
    have k87 : G78 m12 = some (.inl (E.2.1 5, cap, .inr (.inr (.inr (.inr (va_up f12 na none)))))) := by rw [eG78, zg_up_ne (zg_ne k76 k69 (by intro h; simp at h))]; exact k76
    have k88 : G78 b1 = some (.inl (E.2.1 0, n1, .inl f1)) := by rw [eG78, zg_up_ne (zg_ne k77 k69 (by intro h; simp at h))]; exact k77
    exact hret _ _ _ _ _ _ _ (⟨m6, m7, m8, m9, m10, m11, m12, cap, f6, f7, f8, f9, f10, f11, f12, hx79, Or.inl ⟨rfl, rfl, rfl, rfl, rfl, rfl, rfl⟩, hnd, k80, ⟨k81, k82, k83, k84, k85, k86, k87⟩, by rw [if_neg (by omega)], by omega, ⟨fun _ _ => rfl, fun _ _ => rfl, fun _ _ => rfl, fun _ _ => rfl, fun _ _ => rfl⟩, ⟨fun _ _ => rfl, fun _ _ h => h⟩, ⟨fun _ _ => rfl, fun _ _ h => h⟩⟩) hG hS (by first | omega | (have hh := h9 (by omega); dsimp only; omega)) (by first | omega | (have hh := h9 (by omega); dsimp only; omega)) d_Mo_add_100
  · have b9 : na = cap := (nI_eq (a := na) (b := cap) (by omega) (by omega)).mp c9
    have hlt9 : na < 2 * cap := by omega
    have hsm9 : 2 * cap < 2 ^ 31 := by omega
    refine lv_aload_n hx hb d_Mo_add_12 rfl (lv_at hl 0 rfl) ?_
    have hGo13 := hG
    refine zk_v (va_runV (As := []) (rest := []) ⟨hx, hb, hml, hown, hts⟩ (t_Mo_grow l E G a m1 m3 m4 m6 m7 m8 m9 m10 m11 m12 m15 m18 th tn m5 (nI na) m14 m16 m17 m19 m20 ha cap (by omega) f6 f7 f8 f9 f10 f11 f12 hA6 hA7 hA8 hA9 hA10 hA11 hA12 hr11 hr12) (zcV 0 hts w_1483 w_1485 wp_42 w_30 w_1486 (by decide +kernel) ⟨Nat.le_of_ble_eq_true rfl, Nat.le_of_ble_eq_true rfl⟩) (zc_preV hbase hK hN hQ hG hS ha rfl) rfl rfl hl.1 rfl (lv_room (Nat.le_of_ble_eq_true rfl)) d_Mo_add_13 ⟨(by have hh := h9 (by omega); dsimp only; omega), (by have hh := h9 (by omega); dsimp only; omega)⟩) hS (fun G13 H locs hp13 hG hS => ?_)
    obtain ⟨q6, q7, q8, q9, q10, q11, q12, g6, g7, g8, g9, g10, g11, g12, hxg, hndq, ⟨nf_q6, nf_q7, nf_q8, nf_q9, nf_q10, nf_q11, nf_q12⟩, hag, ⟨hB6, hB7, hB8, hB9, hB10, hB11, hB12⟩, hgf6, hgf7, hgf8, hgf9, hgf10, hgf11, hgf12⟩ := hp13
    have nq6_7 : zNe q6 q7 := fun z => by rw [z] at hndq; simp at hndq
    have nq6_8 : zNe q6 q8 := fun z => by rw [z] at hndq; simp at hndq
    have nq6_9 : zNe q6 q9 := fun z => by rw [z] at hndq; simp at hndq
    have nq6_10 : zNe q6 q10 := fun z => by rw [z] at hndq; simp at hndq
    have nq6_11 : zNe q6 q11 := fun z => by rw [z] at hndq; simp at hndq
    have nq6_12 : zNe q6 q12 := fun z => by rw [z] at hndq; simp at hndq
    have nq7_8 : zNe q7 q8 := fun z => by rw [z] at hndq; simp at hndq
    have nq7_9 : zNe q7 q9 := fun z => by rw [z] at hndq; simp at hndq
    have nq7_10 : zNe q7 q10 := fun z => by rw [z] at hndq; simp at hndq
    have nq7_11 : zNe q7 q11 := fun z => by rw [z] at hndq; simp at hndq
    have nq7_12 : zNe q7 q12 := fun z => by rw [z] at hndq; simp at hndq
    have nq8_9 : zNe q8 q9 := fun z => by rw [z] at hndq; simp at hndq
    have nq8_10 : zNe q8 q10 := fun z => by rw [z] at hndq; simp at hndq
    have nq8_11 : zNe q8 q11 := fun z => by rw [z] at hndq; simp at hndq
    have nq8_12 : zNe q8 q12 := fun z => by rw [z] at hndq; simp at hndq
    have nq9_10 : zNe q9 q10 := fun z => by rw [z] at hndq; simp at hndq
    have nq9_11 : zNe q9 q11 := fun z => by rw [z] at hndq; simp at hndq
    have nq9_12 : zNe q9 q12 := fun z => by rw [z] at hndq; simp at hndq
    have nq10_11 : zNe q10 q11 := fun z => by rw [z] at hndq; simp at hndq
    have nq10_12 : zNe q10 q12 := fun z => by rw [z] at hndq; simp at hndq
    have nq11_12 : zNe q11 q12 := fun z => by rw [z] at hndq; simp at hndq
    have hg_b1 : G13 b1 = some (.inl (E.2.1 0, n1, .inl f1)) := hxg _ _ (fun z => by rw [z, ha] at hb1; cases hb1) hb1
    have ne_b1_q6 : zNe b1 q6 := zg_fr nf_q6 hb1
    have ne_b1_q7 : zNe b1 q7 := zg_fr nf_q7 hb1
    have ne_b1_q8 : zNe b1 q8 := zg_fr nf_q8 hb1
    have ne_b1_q9 : zNe b1 q9 := zg_fr nf_q9 hb1
    have ne_b1_q10 : zNe b1 q10 := zg_fr nf_q10 hb1
    have ne_b1_q11 : zNe b1 q11 := zg_fr nf_q11 hb1
    have ne_b1_q12 : zNe b1 q12 := zg_fr nf_q12 hb1
    have ne_a_q6 : zNe a q6 := zg_fr nf_q6 ha
    have ne_a_q7 : zNe a q7 := zg_fr nf_q7 ha
    have ne_a_q8 : zNe a q8 := zg_fr nf_q8 ha
    have ne_a_q9 : zNe a q9 := zg_fr nf_q9 ha
    have ne_a_q10 : zNe a q10 := zg_fr nf_q10 ha
    have ne_a_q11 : zNe a q11 := zg_fr nf_q11 ha
    have ne_a_q12 : zNe a q12 := zg_fr nf_q12 ha
    have hxl : zx (fun q => q = a ∨ q = m6 ∨ q = m7 ∨ q = m8 ∨ q = m9 ∨ q = m10 ∨ q = m11 ∨ q = m12) G G13 := hxg.w (fun _ z => Or.inl z)
    refine lv_aload_n hx hb d_Mo_add_16 rfl (lv_at hl 0 rfl) ?_
    refine zg_get (ci := 11) (C := "ZoneAnswersModel") (T := T_Mo) (N := 21) hx hb hts zi_Mo hown hK hG hag rfl 6 (by decide) (hts _ w_1287) (fun _ h9 => h9) rfl d_Mo_add_17 ?_
    refine lv_aload_n hx hb d_Mo_add_20 rfl (lv_at hl 0 rfl) ?_
    refine zg_get (ci := 11) (C := "ZoneAnswersModel") (T := T_Mo) (N := 21) hx hb hts zi_Mo hown hK hG hag rfl 13 (by decide) (hts _ w_1294) (fun _ h9 => h9) rfl d_Mo_add_21 ?_
    refine lv_iload_n hx hb d_Mo_add_24 rfl (lv_at hl 1 rfl) ?_
    refine zg_iast hx hb hK hG hS 1 hB6 rfl (vp_in_nI hlt9 hsm9) d_Mo_add_25 (fun H locs hG hS => ?_)
    rw [zi_n na (by omega)] at hG
    obtain ⟨G89, eG89⟩ : ∃ z : zg_G, z = zg_up G13 q6 (.inl (E.2.1 1, 2 * cap, .inl (upd g6 na sx))) := ⟨_, rfl⟩
    have hG : zP E G89 H := by rw [eG89]; exact hG
    have hx90 : zx (fun q => q = a ∨ q = m6 ∨ q = m7 ∨ q = m8 ∨ q = m9 ∨ q = m10 ∨ q = m11 ∨ q = m12) G G89 := by rw [eG89]; exact hxl.upn nf_q6
    have k91 : G89 b1 = some (.inl (E.2.1 0, n1, .inl f1)) := by rw [eG89, zg_up_ne (ne_b1_q6)]; exact hg_b1
    have k92 : G89 a = some (.inr (11, [.int th, .ref m1, .int tn, .ref m3, .ref m4, .int m5, .ref q6, .ref q7, .ref q8, .ref q9, .ref q10, .ref q11, .ref q12, .int (nI na), .int m14, .ref m15, .int m16, .int m17, .ref m18, m19, m20])) := by rw [eG89, zg_up_ne (ne_a_q6)]; exact hag
    have k93 : G89 q6 = some (.inl (E.2.1 1, 2 * cap, .inl (upd g6 na sx))) := by rw [eG89]; exact zg_up_self _ _ _
    have k94 : G89 q7 = some (.inl (E.2.1 1, 2 * cap, .inl g7)) := by rw [eG89, zg_up_ne (Ne.symm nq6_7)]; exact hB7
    have k95 : G89 q8 = some (.inl (E.2.1 1, 2 * cap, .inl g8)) := by rw [eG89, zg_up_ne (Ne.symm nq6_8)]; exact hB8
    have k96 : G89 q9 = some (.inl (E.2.1 1, 2 * cap, .inl g9)) := by rw [eG89, zg_up_ne (Ne.symm nq6_9)]; exact hB9
    have k97 : G89 q10 = some (.inl (E.2.1 1, 2 * cap, .inl g10)) := by rw [eG89, zg_up_ne (Ne.symm nq6_10)]; exact hB10
    have k98 : G89 q11 = some (.inl (E.2.1 5, 2 * cap, .inr (.inr (.inr (.inr g11))))) := by rw [eG89, zg_up_ne (Ne.symm nq6_11)]; exact hB11
    have k99 : G89 q12 = some (.inl (E.2.1 5, 2 * cap, .inr (.inr (.inr (.inr g12))))) := by rw [eG89, zg_up_ne (Ne.symm nq6_12)]; exact hB12
    refine lv_aload_n hx hb d_Mo_add_26 rfl (lv_at hl 0 rfl) ?_
    refine zg_get (ci := 11) (C := "ZoneAnswersModel") (T := T_Mo) (N := 21) hx hb hts zi_Mo hown hK hG k92 rfl 11 (by decide) (hts _ w_1292) (fun _ h9 => h9) rfl d_Mo_add_27 ?_
    refine lv_aload_n hx hb d_Mo_add_30 rfl (lv_at hl 0 rfl) ?_
    refine zg_get (ci := 11) (C := "ZoneAnswersModel") (T := T_Mo) (N := 21) hx hb hts zi_Mo hown hK hG k92 rfl 13 (by decide) (hts _ w_1294) (fun _ h9 => h9) rfl d_Mo_add_31 ?_
    refine lv_aload_n hx hb d_Mo_add_34 rfl (lv_at hl 2 rfl) ?_
    refine zg_astAO (o := (some b1)) (t := .byte) hx hb hK hG hS 5 k98 rfl (zAt_use hQ.2.2.2.2.2.2.2.2.2.2.2.2) (fun v hv => by cases hv; exact ⟨_, _, k91⟩) (zfB hQ) (vp_in_nI hlt9 hsm9) d_Mo_add_35 (fun H locs hG hS => ?_)
    rw [zi_n na (by omega)] at hG
    obtain ⟨G100, eG100⟩ : ∃ z : zg_G, z = zg_up G89 q11 (.inl (E.2.1 5, 2 * cap, .inr (.inr (.inr (.inr (va_up g11 na (some b1))))))) := ⟨_, rfl⟩
    have hG : zP E G100 H := by rw [eG100]; exact hG
    have hx101 : zx (fun q => q = a ∨ q = m6 ∨ q = m7 ∨ q = m8 ∨ q = m9 ∨ q = m10 ∨ q = m11 ∨ q = m12) G G100 := by rw [eG100]; exact hx90.upn nf_q11
    have k102 : G100 b1 = some (.inl (E.2.1 0, n1, .inl f1)) := by rw [eG100, zg_up_ne (ne_b1_q11)]; exact k91
    have k103 : G100 a = some (.inr (11, [.int th, .ref m1, .int tn, .ref m3, .ref m4, .int m5, .ref q6, .ref q7, .ref q8, .ref q9, .ref q10, .ref q11, .ref q12, .int (nI na), .int m14, .ref m15, .int m16, .int m17, .ref m18, m19, m20])) := by rw [eG100, zg_up_ne (ne_a_q11)]; exact k92
    have k104 : G100 q6 = some (.inl (E.2.1 1, 2 * cap, .inl (upd g6 na sx))) := by rw [eG100, zg_up_ne (nq6_11)]; exact k93
    have k105 : G100 q7 = some (.inl (E.2.1 1, 2 * cap, .inl g7)) := by rw [eG100, zg_up_ne (nq7_11)]; exact k94
    have k106 : G100 q8 = some (.inl (E.2.1 1, 2 * cap, .inl g8)) := by rw [eG100, zg_up_ne (nq8_11)]; exact k95
    have k107 : G100 q9 = some (.inl (E.2.1 1, 2 * cap, .inl g9)) := by rw [eG100, zg_up_ne (nq9_11)]; exact k96
    have k108 : G100 q10 = some (.inl (E.2.1 1, 2 * cap, .inl g10)) := by rw [eG100, zg_up_ne (nq10_11)]; exact k97
    have k109 : G100 q11 = some (.inl (E.2.1 5, 2 * cap, .inr (.inr (.inr (.inr (va_up g11 na (some b1))))))) := by rw [eG100]; exact zg_up_self _ _ _
    have k110 : G100 q12 = some (.inl (E.2.1 5, 2 * cap, .inr (.inr (.inr (.inr g12))))) := by rw [eG100, zg_up_ne (Ne.symm nq11_12)]; exact k99
    refine lv_aload_n hx hb d_Mo_add_36 rfl (lv_at hl 0 rfl) ?_
    refine zg_get (ci := 11) (C := "ZoneAnswersModel") (T := T_Mo) (N := 21) hx hb hts zi_Mo hown hK hG k103 rfl 7 (by decide) (hts _ w_1288) (fun _ h9 => h9) rfl d_Mo_add_37 ?_
    refine lv_aload_n hx hb d_Mo_add_40 rfl (lv_at hl 0 rfl) ?_
    refine zg_get (ci := 11) (C := "ZoneAnswersModel") (T := T_Mo) (N := 21) hx hb hts zi_Mo hown hK hG k103 rfl 13 (by decide) (hts _ w_1294) (fun _ h9 => h9) rfl d_Mo_add_41 ?_
    refine lv_iload_n hx hb d_Mo_add_44 rfl (lv_at hl 3 rfl) ?_
    refine zg_iast hx hb hK hG hS 1 k105 rfl (vp_in_nI hlt9 hsm9) d_Mo_add_45 (fun H locs hG hS => ?_)
    rw [zi_n na (by omega)] at hG
    obtain ⟨G111, eG111⟩ : ∃ z : zg_G, z = zg_up G100 q7 (.inl (E.2.1 1, 2 * cap, .inl (upd g7 na tx))) := ⟨_, rfl⟩
    have hG : zP E G111 H := by rw [eG111]; exact hG
    have hx112 : zx (fun q => q = a ∨ q = m6 ∨ q = m7 ∨ q = m8 ∨ q = m9 ∨ q = m10 ∨ q = m11 ∨ q = m12) G G111 := by rw [eG111]; exact hx101.upn nf_q7
    have k113 : G111 b1 = some (.inl (E.2.1 0, n1, .inl f1)) := by rw [eG111, zg_up_ne (ne_b1_q7)]; exact k102
    have k114 : G111 a = some (.inr (11, [.int th, .ref m1, .int tn, .ref m3, .ref m4, .int m5, .ref q6, .ref q7, .ref q8, .ref q9, .ref q10, .ref q11, .ref q12, .int (nI na), .int m14, .ref m15, .int m16, .int m17, .ref m18, m19, m20])) := by rw [eG111, zg_up_ne (ne_a_q7)]; exact k103
    have k115 : G111 q6 = some (.inl (E.2.1 1, 2 * cap, .inl (upd g6 na sx))) := by rw [eG111, zg_up_ne (nq6_7)]; exact k104
    have k116 : G111 q7 = some (.inl (E.2.1 1, 2 * cap, .inl (upd g7 na tx))) := by rw [eG111]; exact zg_up_self _ _ _
    have k117 : G111 q8 = some (.inl (E.2.1 1, 2 * cap, .inl g8)) := by rw [eG111, zg_up_ne (Ne.symm nq7_8)]; exact k106
    have k118 : G111 q9 = some (.inl (E.2.1 1, 2 * cap, .inl g9)) := by rw [eG111, zg_up_ne (Ne.symm nq7_9)]; exact k107
    have k119 : G111 q10 = some (.inl (E.2.1 1, 2 * cap, .inl g10)) := by rw [eG111, zg_up_ne (Ne.symm nq7_10)]; exact k108
    have k120 : G111 q11 = some (.inl (E.2.1 5, 2 * cap, .inr (.inr (.inr (.inr (va_up g11 na (some b1))))))) := by rw [eG111, zg_up_ne (Ne.symm nq7_11)]; exact k109
    have k121 : G111 q12 = some (.inl (E.2.1 5, 2 * cap, .inr (.inr (.inr (.inr g12))))) := by rw [eG111, zg_up_ne (Ne.symm nq7_12)]; exact k110
    refine lv_aload_n hx hb d_Mo_add_46 rfl (lv_at hl 0 rfl) ?_
    refine zg_get (ci := 11) (C := "ZoneAnswersModel") (T := T_Mo) (N := 21) hx hb hts zi_Mo hown hK hG k114 rfl 8 (by decide) (hts _ w_1289) (fun _ h9 => h9) rfl d_Mo_add_47 ?_
    refine lv_aload_n hx hb d_Mo_add_50 rfl (lv_at hl 0 rfl) ?_
    refine zg_get (ci := 11) (C := "ZoneAnswersModel") (T := T_Mo) (N := 21) hx hb hts zi_Mo hown hK hG k114 rfl 13 (by decide) (hts _ w_1294) (fun _ h9 => h9) rfl d_Mo_add_51 ?_
    refine lv_iload hx hb d_Mo_add_54 (lv_at hl 4 rfl) ?_
    refine zg_iast hx hb hK hG hS 1 k117 rfl (vp_in_nI hlt9 hsm9) d_Mo_add_56 (fun H locs hG hS => ?_)
    rw [zi_n na (by omega)] at hG
    obtain ⟨G122, eG122⟩ : ∃ z : zg_G, z = zg_up G111 q8 (.inl (E.2.1 1, 2 * cap, .inl (upd g8 na ux))) := ⟨_, rfl⟩
    have hG : zP E G122 H := by rw [eG122]; exact hG
    have hx123 : zx (fun q => q = a ∨ q = m6 ∨ q = m7 ∨ q = m8 ∨ q = m9 ∨ q = m10 ∨ q = m11 ∨ q = m12) G G122 := by rw [eG122]; exact hx112.upn nf_q8
    have k124 : G122 b1 = some (.inl (E.2.1 0, n1, .inl f1)) := by rw [eG122, zg_up_ne (ne_b1_q8)]; exact k113
    have k125 : G122 a = some (.inr (11, [.int th, .ref m1, .int tn, .ref m3, .ref m4, .int m5, .ref q6, .ref q7, .ref q8, .ref q9, .ref q10, .ref q11, .ref q12, .int (nI na), .int m14, .ref m15, .int m16, .int m17, .ref m18, m19, m20])) := by rw [eG122, zg_up_ne (ne_a_q8)]; exact k114
    have k126 : G122 q6 = some (.inl (E.2.1 1, 2 * cap, .inl (upd g6 na sx))) := by rw [eG122, zg_up_ne (nq6_8)]; exact k115
    have k127 : G122 q7 = some (.inl (E.2.1 1, 2 * cap, .inl (upd g7 na tx))) := by rw [eG122, zg_up_ne (nq7_8)]; exact k116
    have k128 : G122 q8 = some (.inl (E.2.1 1, 2 * cap, .inl (upd g8 na ux))) := by rw [eG122]; exact zg_up_self _ _ _
    have k129 : G122 q9 = some (.inl (E.2.1 1, 2 * cap, .inl g9)) := by rw [eG122, zg_up_ne (Ne.symm nq8_9)]; exact k118
    have k130 : G122 q10 = some (.inl (E.2.1 1, 2 * cap, .inl g10)) := by rw [eG122, zg_up_ne (Ne.symm nq8_10)]; exact k119
    have k131 : G122 q11 = some (.inl (E.2.1 5, 2 * cap, .inr (.inr (.inr (.inr (va_up g11 na (some b1))))))) := by rw [eG122, zg_up_ne (Ne.symm nq8_11)]; exact k120
    have k132 : G122 q12 = some (.inl (E.2.1 5, 2 * cap, .inr (.inr (.inr (.inr g12))))) := by rw [eG122, zg_up_ne (Ne.symm nq8_12)]; exact k121
    refine lv_aload_n hx hb d_Mo_add_57 rfl (lv_at hl 0 rfl) ?_
    refine zg_get (ci := 11) (C := "ZoneAnswersModel") (T := T_Mo) (N := 21) hx hb hts zi_Mo hown hK hG k125 rfl 12 (by decide) (hts _ w_1293) (fun _ h9 => h9) rfl d_Mo_add_58 ?_
    refine lv_aload_n hx hb d_Mo_add_61 rfl (lv_at hl 0 rfl) ?_
    refine zg_get (ci := 11) (C := "ZoneAnswersModel") (T := T_Mo) (N := 21) hx hb hts zi_Mo hown hK hG k125 rfl 13 (by decide) (hts _ w_1294) (fun _ h9 => h9) rfl d_Mo_add_62 ?_
    refine lv_aloadN hx hb d_Mo_add_65 (lv_at hl 5 rfl) ?_
    refine zg_astAO (o := none) (t := .byte) hx hb hK hG hS 5 k132 rfl (zAt_use hQ.2.2.2.2.2.2.2.2.2.2.2.2) (fun v hv => by cases hv) (zfB hQ) (vp_in_nI hlt9 hsm9) d_Mo_add_67 (fun H locs hG hS => ?_)
    rw [zi_n na (by omega)] at hG
    obtain ⟨G133, eG133⟩ : ∃ z : zg_G, z = zg_up G122 q12 (.inl (E.2.1 5, 2 * cap, .inr (.inr (.inr (.inr (va_up g12 na none)))))) := ⟨_, rfl⟩
    have hG : zP E G133 H := by rw [eG133]; exact hG
    have hx134 : zx (fun q => q = a ∨ q = m6 ∨ q = m7 ∨ q = m8 ∨ q = m9 ∨ q = m10 ∨ q = m11 ∨ q = m12) G G133 := by rw [eG133]; exact hx123.upn nf_q12
    have k135 : G133 b1 = some (.inl (E.2.1 0, n1, .inl f1)) := by rw [eG133, zg_up_ne (ne_b1_q12)]; exact k124
    have k136 : G133 a = some (.inr (11, [.int th, .ref m1, .int tn, .ref m3, .ref m4, .int m5, .ref q6, .ref q7, .ref q8, .ref q9, .ref q10, .ref q11, .ref q12, .int (nI na), .int m14, .ref m15, .int m16, .int m17, .ref m18, m19, m20])) := by rw [eG133, zg_up_ne (ne_a_q12)]; exact k125
    have k137 : G133 q6 = some (.inl (E.2.1 1, 2 * cap, .inl (upd g6 na sx))) := by rw [eG133, zg_up_ne (nq6_12)]; exact k126
    have k138 : G133 q7 = some (.inl (E.2.1 1, 2 * cap, .inl (upd g7 na tx))) := by rw [eG133, zg_up_ne (nq7_12)]; exact k127
    have k139 : G133 q8 = some (.inl (E.2.1 1, 2 * cap, .inl (upd g8 na ux))) := by rw [eG133, zg_up_ne (nq8_12)]; exact k128
    have k140 : G133 q9 = some (.inl (E.2.1 1, 2 * cap, .inl g9)) := by rw [eG133, zg_up_ne (nq9_12)]; exact k129
    have k141 : G133 q10 = some (.inl (E.2.1 1, 2 * cap, .inl g10)) := by rw [eG133, zg_up_ne (nq10_12)]; exact k130
    have k142 : G133 q11 = some (.inl (E.2.1 5, 2 * cap, .inr (.inr (.inr (.inr (va_up g11 na (some b1))))))) := by rw [eG133, zg_up_ne (nq11_12)]; exact k131
    have k143 : G133 q12 = some (.inl (E.2.1 5, 2 * cap, .inr (.inr (.inr (.inr (va_up g12 na none)))))) := by rw [eG133]; exact zg_up_self _ _ _
    refine lv_aload_n hx hb d_Mo_add_68 rfl (lv_at hl 0 rfl) ?_
    refine zg_get (ci := 11) (C := "ZoneAnswersModel") (T := T_Mo) (N := 21) hx hb hts zi_Mo hown hK hG k136 rfl 9 (by decide) (hts _ w_1290) (fun _ h9 => h9) rfl d_Mo_add_69 ?_
    refine lv_aload_n hx hb d_Mo_add_72 rfl (lv_at hl 0 rfl) ?_
    refine zg_get (ci := 11) (C := "ZoneAnswersModel") (T := T_Mo) (N := 21) hx hb hts zi_Mo hown hK hG k136 rfl 13 (by decide) (hts _ w_1294) (fun _ h9 => h9) rfl d_Mo_add_73 ?_
    refine lv_iload hx hb d_Mo_add_76 (lv_at hl 6 rfl) ?_
    refine zg_iast hx hb hK hG hS 1 k140 rfl (vp_in_nI hlt9 hsm9) d_Mo_add_78 (fun H locs hG hS => ?_)
    rw [zi_n na (by omega)] at hG
    obtain ⟨G144, eG144⟩ : ∃ z : zg_G, z = zg_up G133 q9 (.inl (E.2.1 1, 2 * cap, .inl (upd g9 na px))) := ⟨_, rfl⟩
    have hG : zP E G144 H := by rw [eG144]; exact hG
    have hx145 : zx (fun q => q = a ∨ q = m6 ∨ q = m7 ∨ q = m8 ∨ q = m9 ∨ q = m10 ∨ q = m11 ∨ q = m12) G G144 := by rw [eG144]; exact hx134.upn nf_q9
    have k146 : G144 b1 = some (.inl (E.2.1 0, n1, .inl f1)) := by rw [eG144, zg_up_ne (ne_b1_q9)]; exact k135
    have k147 : G144 a = some (.inr (11, [.int th, .ref m1, .int tn, .ref m3, .ref m4, .int m5, .ref q6, .ref q7, .ref q8, .ref q9, .ref q10, .ref q11, .ref q12, .int (nI na), .int m14, .ref m15, .int m16, .int m17, .ref m18, m19, m20])) := by rw [eG144, zg_up_ne (ne_a_q9)]; exact k136
    have k148 : G144 q6 = some (.inl (E.2.1 1, 2 * cap, .inl (upd g6 na sx))) := by rw [eG144, zg_up_ne (nq6_9)]; exact k137
    have k149 : G144 q7 = some (.inl (E.2.1 1, 2 * cap, .inl (upd g7 na tx))) := by rw [eG144, zg_up_ne (nq7_9)]; exact k138
    have k150 : G144 q8 = some (.inl (E.2.1 1, 2 * cap, .inl (upd g8 na ux))) := by rw [eG144, zg_up_ne (nq8_9)]; exact k139
    have k151 : G144 q9 = some (.inl (E.2.1 1, 2 * cap, .inl (upd g9 na px))) := by rw [eG144]; exact zg_up_self _ _ _
    have k152 : G144 q10 = some (.inl (E.2.1 1, 2 * cap, .inl g10)) := by rw [eG144, zg_up_ne (Ne.symm nq9_10)]; exact k141
    have k153 : G144 q11 = some (.inl (E.2.1 5, 2 * cap, .inr (.inr (.inr (.inr (va_up g11 na (some b1))))))) := by rw [eG144, zg_up_ne (Ne.symm nq9_11)]; exact k142
    have k154 : G144 q12 = some (.inl (E.2.1 5, 2 * cap, .inr (.inr (.inr (.inr (va_up g12 na none)))))) := by rw [eG144, zg_up_ne (Ne.symm nq9_12)]; exact k143
    refine lv_aload_n hx hb d_Mo_add_79 rfl (lv_at hl 0 rfl) ?_
    refine zg_get (ci := 11) (C := "ZoneAnswersModel") (T := T_Mo) (N := 21) hx hb hts zi_Mo hown hK hG k147 rfl 10 (by decide) (hts _ w_1291) (fun _ h9 => h9) rfl d_Mo_add_80 ?_
    refine lv_aload_n hx hb d_Mo_add_83 rfl (lv_at hl 0 rfl) ?_
    refine zg_get (ci := 11) (C := "ZoneAnswersModel") (T := T_Mo) (N := 21) hx hb hts zi_Mo hown hK hG k147 rfl 13 (by decide) (hts _ w_1294) (fun _ h9 => h9) rfl d_Mo_add_84 ?_
    refine lv_iload hx hb d_Mo_add_87 (lv_at hl 7 rfl) ?_
    refine zg_iast hx hb hK hG hS 1 k152 rfl (vp_in_nI hlt9 hsm9) d_Mo_add_89 (fun H locs hG hS => ?_)
    rw [zi_n na (by omega)] at hG
    obtain ⟨G155, eG155⟩ : ∃ z : zg_G, z = zg_up G144 q10 (.inl (E.2.1 1, 2 * cap, .inl (upd g10 na zx9))) := ⟨_, rfl⟩
    have hG : zP E G155 H := by rw [eG155]; exact hG
    have hx156 : zx (fun q => q = a ∨ q = m6 ∨ q = m7 ∨ q = m8 ∨ q = m9 ∨ q = m10 ∨ q = m11 ∨ q = m12) G G155 := by rw [eG155]; exact hx145.upn nf_q10
    have k157 : G155 b1 = some (.inl (E.2.1 0, n1, .inl f1)) := by rw [eG155, zg_up_ne (ne_b1_q10)]; exact k146
    have k158 : G155 a = some (.inr (11, [.int th, .ref m1, .int tn, .ref m3, .ref m4, .int m5, .ref q6, .ref q7, .ref q8, .ref q9, .ref q10, .ref q11, .ref q12, .int (nI na), .int m14, .ref m15, .int m16, .int m17, .ref m18, m19, m20])) := by rw [eG155, zg_up_ne (ne_a_q10)]; exact k147
    have k159 : G155 q6 = some (.inl (E.2.1 1, 2 * cap, .inl (upd g6 na sx))) := by rw [eG155, zg_up_ne (nq6_10)]; exact k148
    have k160 : G155 q7 = some (.inl (E.2.1 1, 2 * cap, .inl (upd g7 na tx))) := by rw [eG155, zg_up_ne (nq7_10)]; exact k149
    have k161 : G155 q8 = some (.inl (E.2.1 1, 2 * cap, .inl (upd g8 na ux))) := by rw [eG155, zg_up_ne (nq8_10)]; exact k150
    have k162 : G155 q9 = some (.inl (E.2.1 1, 2 * cap, .inl (upd g9 na px))) := by rw [eG155, zg_up_ne (nq9_10)]; exact k151
    have k163 : G155 q10 = some (.inl (E.2.1 1, 2 * cap, .inl (upd g10 na zx9))) := by rw [eG155]; exact zg_up_self _ _ _
    have k164 : G155 q11 = some (.inl (E.2.1 5, 2 * cap, .inr (.inr (.inr (.inr (va_up g11 na (some b1))))))) := by rw [eG155, zg_up_ne (Ne.symm nq10_11)]; exact k153
    have k165 : G155 q12 = some (.inl (E.2.1 5, 2 * cap, .inr (.inr (.inr (.inr (va_up g12 na none)))))) := by rw [eG155, zg_up_ne (Ne.symm nq10_12)]; exact k154
    refine lv_aload_n hx hb d_Mo_add_90 rfl (lv_at hl 0 rfl) ?_
    refine lv_dup hx hb d_Mo_add_91 rfl ?_
    refine zg_get (ci := 11) (C := "ZoneAnswersModel") (T := T_Mo) (N := 21) hx hb hts zi_Mo hown hK hG k158 rfl 13 (by decide) (hts _ w_1294) (fun _ h9 => h9) rfl d_Mo_add_92 ?_
    refine lv_iconst (v := 1) hx hb d_Mo_add_95 (by decide) ?_
    refine lv_iadd hx hb d_Mo_add_96 ?_
    refine zi_as (y := nI (na + 1)) (nI_add na 1) ?_
    refine zg_put (ci := 11) (v := .int (nI (na + 1))) (ty := .int) (C := "ZoneAnswersModel") (T := T_Mo) (N := 21) hx hb hts zi_Mo t_Mo t_Mo_ok n_Mo hown hK hG hS k158 rfl 13 (by decide) (hts _ w_1294) (fun _ h9 => h9) rfl (by decide +kernel) rfl rfl (Nat.le_of_ble_eq_true rfl) d_Mo_add_97 (fun H locs hG hS => ?_)
    obtain ⟨G166, eG166⟩ : ∃ z : zg_G, z = zg_up G155 a (.inr (11, [.int th, .ref m1, .int tn, .ref m3, .ref m4, .int m5, .ref q6, .ref q7, .ref q8, .ref q9, .ref q10, .ref q11, .ref q12, .int (nI (na + 1)), .int m14, .ref m15, .int m16, .int m17, .ref m18, m19, m20])) := ⟨_, rfl⟩
    have hG : zP E G166 H := by rw [eG166]; exact hG
    have hx167 : zx (fun q => q = a ∨ q = m6 ∨ q = m7 ∨ q = m8 ∨ q = m9 ∨ q = m10 ∨ q = m11 ∨ q = m12) G G166 := hx156.tr (by rw [eG166]; exact zx.up (Or.inl rfl))
    have k168 : G166 b1 = some (.inl (E.2.1 0, n1, .inl f1)) := by rw [eG166, zg_up_ne (zg_ne k157 k158 (by intro h; simp at h))]; exact k157
    have k169 : G166 a = some (.inr (11, [.int th, .ref m1, .int tn, .ref m3, .ref m4, .int m5, .ref q6, .ref q7, .ref q8, .ref q9, .ref q10, .ref q11, .ref q12, .int (nI (na + 1)), .int m14, .ref m15, .int m16, .int m17, .ref m18, m19, m20])) := by rw [eG166]; exact zg_up_self _ _ _
    have k170 : G166 q6 = some (.inl (E.2.1 1, 2 * cap, .inl (upd g6 na sx))) := by rw [eG166, zg_up_ne (Ne.symm ne_a_q6)]; exact k159
    have k171 : G166 q7 = some (.inl (E.2.1 1, 2 * cap, .inl (upd g7 na tx))) := by rw [eG166, zg_up_ne (Ne.symm ne_a_q7)]; exact k160
    have k172 : G166 q8 = some (.inl (E.2.1 1, 2 * cap, .inl (upd g8 na ux))) := by rw [eG166, zg_up_ne (Ne.symm ne_a_q8)]; exact k161
    have k173 : G166 q9 = some (.inl (E.2.1 1, 2 * cap, .inl (upd g9 na px))) := by rw [eG166, zg_up_ne (Ne.symm ne_a_q9)]; exact k162
    have k174 : G166 q10 = some (.inl (E.2.1 1, 2 * cap, .inl (upd g10 na zx9))) := by rw [eG166, zg_up_ne (Ne.symm ne_a_q10)]; exact k163
    have k175 : G166 q11 = some (.inl (E.2.1 5, 2 * cap, .inr (.inr (.inr (.inr (va_up g11 na (some b1))))))) := by rw [eG166, zg_up_ne (Ne.symm ne_a_q11)]; exact k164
    have k176 : G166 q12 = some (.inl (E.2.1 5, 2 * cap, .inr (.inr (.inr (.inr (va_up g12 na none)))))) := by rw [eG166, zg_up_ne (Ne.symm ne_a_q12)]; exact k165
    exact hret _ _ _ _ _ _ _ (⟨q6, q7, q8, q9, q10, q11, q12, 2 * cap, g6, g7, g8, g9, g10, g11, g12, hx167, Or.inr ⟨nf_q6, nf_q7, nf_q8, nf_q9, nf_q10, nf_q11, nf_q12⟩, hndq, k169, ⟨k170, k171, k172, k173, k174, k175, k176⟩, by rw [if_pos (by omega)]; omega, by omega, ⟨fun j hj => hgf6 j (by omega), fun j hj => hgf7 j (by omega), fun j hj => hgf8 j (by omega), fun j hj => hgf9 j (by omega), fun j hj => hgf10 j (by omega)⟩, ⟨fun j hj => by rw [hgf11, if_pos (by omega)], fun j v hv => by rw [hgf11] at hv; split at hv; exact hv; cases hv⟩, ⟨fun j hj => by rw [hgf12, if_pos (by omega)], fun j v hv => by rw [hgf12] at hv; split at hv; exact hv; cases hv⟩⟩) hG hS (by first | omega | (have hh := h9 (by omega); dsimp only; omega)) (by first | omega | (have hh := h9 (by omega); dsimp only; omega)) d_Mo_add_100
