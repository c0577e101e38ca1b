/-! THE REFERENCE'S ROWS GROW -/
theorem rnd {G : zg_G} {L : List Nat} {q : Nat} (h : L.Nodup) (ha : ∀ x ∈ L, ∃ c, G x = some c) (hq : G q = none) : (q :: L).Nodup := List.nodup_cons.mpr ⟨fun z => (by obtain ⟨c, hc⟩ := ha q z; rw [hq] at hc; cases hc), h⟩
theorem zx.no1 {G G2 : zg_G} {a q : Nat} {v} (h : zx (fun q => q = a) G G2) (ha : G2 a = some v) (hq : G2 q = none) : G q = none := by
  cases e : G q with
  | none => rfl
  | some x =>
    by_cases z : q = a
    · rw [z, ha] at hq; cases hq
    · rw [h q x z e] at hq; cases hq
theorem rall {G G2 : zg_G} {L : List Nat} {q : Nat} {c} (ha : ∀ x ∈ L, ∃ c, G x = some c) (hx : zx z0 G G2) (hq : G2 q = some c) : ∀ x ∈ q :: L, ∃ c, G2 x = some c := fun x hm => by
  rcases List.mem_cons.mp hm with e | e
  · rw [e]; exact ⟨c, hq⟩
  · obtain ⟨d, hd⟩ := ha x e; exact ⟨d, hx _ _ id hd⟩
theorem rall_up {G : zg_G} {L : List Nat} {a : Nat} {v} (ha : ∀ x ∈ L, ∃ c, G x = some c) : ∀ x ∈ L, ∃ c, zg_up G a v x = some c := fun x hm => by
  by_cases z : x = a
  · rw [z]; exact ⟨_, zg_up_self _ _ _⟩
  · rw [zg_up_ne z]; exact ha x hm
/-- the rows' size once n are there, from c -/
def rcp (c : Nat) : Nat → Nat
  | 0 => c
  | n + 1 => if rcp c n = n then 2 * n else rcp c n
theorem rcp_s (c n : Nat) : rcp c (n + 1) = if rcp c n = n then 2 * n else rcp c n := rfl
theorem rcp_ge {c : Nat} (hc : 0 < c) : ∀ n, n ≤ rcp c n ∧ c ≤ rcp c n := by
  intro n
  induction n with
  | zero => exact ⟨Nat.zero_le _, Nat.le_refl _⟩
  | succ n ih => rw [rcp_s]; split <;> omega
theorem rcp_mono {c : Nat} (hc : 0 < c) (n : Nat) : rcp c n ≤ rcp c (n + 1) := by
  have := rcp_ge hc n
  rw [rcp_s]; split <;> omega
theorem rcp_mono2 {c : Nat} (hc : 0 < c) {n k : Nat} (h : n ≤ k) : rcp c n ≤ rcp c k := by
  induction k with
  | zero => rw [show n = 0 by omega]; exact Nat.le_refl _
  | succ k ih =>
    rcases Nat.lt_or_ge n (k + 1) with q | q
    · exact Nat.le_trans (ih (by omega)) (rcp_mono hc k)
    · rw [show n = k + 1 by omega]; exact Nat.le_refl _
theorem rcp_le (c n : Nat) : rcp c n ≤ max c (2 * n) := by
  induction n with
  | zero => exact Nat.le_max_left _ _
  | succ n ih => rw [rcp_s]; split <;> omega
theorem w_1487 : (.methodLink "ZoneAnswersModel" 146 ⟨"ZoneAnswersModel", "twice", "([I)[I"⟩ : Cond) ∈ zw := zw_at 1487 (by decide +kernel) (by decide +kernel)
theorem w_1488 : (.static ⟨"ZoneAnswersModel", "twice", "([I)[I"⟩ : Cond) ∈ zw := zw_at 1488 (by decide +kernel) (by decide +kernel)
theorem w_1489 : (.code ⟨"ZoneAnswersModel", "twice", "([I)[I"⟩ prog_12_method_18_code 3 (some (.array .int)) : Cond) ∈ zw := zw_at 1489 (by decide +kernel) (by decide +kernel)
theorem w_1490 : (.methodLink "ZoneAnswersModel" 150 ⟨"ZoneAnswersModel", "twice", "([[B)[[B"⟩ : Cond) ∈ zw := zw_at 1490 (by decide +kernel) (by decide +kernel)
theorem w_1491 : (.static ⟨"ZoneAnswersModel", "twice", "([[B)[[B"⟩ : Cond) ∈ zw := zw_at 1491 (by decide +kernel) (by decide +kernel)
theorem w_1492 : (.code ⟨"ZoneAnswersModel", "twice", "([[B)[[B"⟩ prog_12_method_19_code 3 (some (.array (.array .byte))) : Cond) ∈ zw := zw_at 1492 (by decide +kernel) (by decide +kernel)
abbrev c_Mo_grow : ByteArray := prog_12_method_20_code
abbrev y_Mo_grow : MethodName := ⟨"ZoneAnswersModel", "grow", "()V"⟩
theorem d_Mo_grow_0 : decode c_Mo_grow 0 = .ok (.aload_n 0, 1) := by decide +kernel
theorem d_Mo_grow_1 : decode c_Mo_grow 1 = .ok (.aload_n 0, 1) := by decide +kernel
theorem d_Mo_grow_2 : decode c_Mo_grow 2 = .ok (.getfield 23, 3) := by decide +kernel
theorem d_Mo_grow_5 : decode c_Mo_grow 5 = .ok (.invokestatic 146, 3) := by decide +kernel
theorem d_Mo_grow_8 : decode c_Mo_grow 8 = .ok (.putfield 23, 3) := by decide +kernel
theorem d_Mo_grow_11 : decode c_Mo_grow 11 = .ok (.aload_n 0, 1) := by decide +kernel
theorem d_Mo_grow_12 : decode c_Mo_grow 12 = .ok (.aload_n 0, 1) := by decide +kernel
theorem d_Mo_grow_13 : decode c_Mo_grow 13 = .ok (.getfield 27, 3) := by decide +kernel
theorem d_Mo_grow_16 : decode c_Mo_grow 16 = .ok (.invokestatic 146, 3) := by decide +kernel
theorem d_Mo_grow_19 : decode c_Mo_grow 19 = .ok (.putfield 27, 3) := by decide +kernel
theorem d_Mo_grow_22 : decode c_Mo_grow 22 = .ok (.aload_n 0, 1) := by decide +kernel
theorem d_Mo_grow_23 : decode c_Mo_grow 23 = .ok (.aload_n 0, 1) := by decide +kernel
theorem d_Mo_grow_24 : decode c_Mo_grow 24 = .ok (.getfield 30, 3) := by decide +kernel
theorem d_Mo_grow_27 : decode c_Mo_grow 27 = .ok (.invokestatic 146, 3) := by decide +kernel
theorem d_Mo_grow_30 : decode c_Mo_grow 30 = .ok (.putfield 30, 3) := by decide +kernel
theorem d_Mo_grow_33 : decode c_Mo_grow 33 = .ok (.aload_n 0, 1) := by decide +kernel
theorem d_Mo_grow_34 : decode c_Mo_grow 34 = .ok (.aload_n 0, 1) := by decide +kernel
theorem d_Mo_grow_35 : decode c_Mo_grow 35 = .ok (.getfield 33, 3) := by decide +kernel
theorem d_Mo_grow_38 : decode c_Mo_grow 38 = .ok (.invokestatic 146, 3) := by decide +kernel
theorem d_Mo_grow_41 : decode c_Mo_grow 41 = .ok (.putfield 33, 3) := by decide +kernel
theorem d_Mo_grow_44 : decode c_Mo_grow 44 = .ok (.aload_n 0, 1) := by decide +kernel
theorem d_Mo_grow_45 : decode c_Mo_grow 45 = .ok (.aload_n 0, 1) := by decide +kernel
theorem d_Mo_grow_46 : decode c_Mo_grow 46 = .ok (.getfield 36, 3) := by decide +kernel
theorem d_Mo_grow_49 : decode c_Mo_grow 49 = .ok (.invokestatic 146, 3) := by decide +kernel
theorem d_Mo_grow_52 : decode c_Mo_grow 52 = .ok (.putfield 36, 3) := by decide +kernel
theorem d_Mo_grow_55 : decode c_Mo_grow 55 = .ok (.aload_n 0, 1) := by decide +kernel
theorem d_Mo_grow_56 : decode c_Mo_grow 56 = .ok (.aload_n 0, 1) := by decide +kernel
theorem d_Mo_grow_57 : decode c_Mo_grow 57 = .ok (.getfield 40, 3) := by decide +kernel
theorem d_Mo_grow_60 : decode c_Mo_grow 60 = .ok (.invokestatic 150, 3) := by decide +kernel
theorem d_Mo_grow_63 : decode c_Mo_grow 63 = .ok (.putfield 40, 3) := by decide +kernel
theorem d_Mo_grow_66 : decode c_Mo_grow 66 = .ok (.aload_n 0, 1) := by decide +kernel
theorem d_Mo_grow_67 : decode c_Mo_grow 67 = .ok (.aload_n 0, 1) := by decide +kernel
theorem d_Mo_grow_68 : decode c_Mo_grow 68 = .ok (.getfield 44, 3) := by decide +kernel
theorem d_Mo_grow_71 : decode c_Mo_grow 71 = .ok (.invokestatic 150, 3) := by decide +kernel
theorem d_Mo_grow_74 : decode c_Mo_grow 74 = .ok (.putfield 44, 3) := by decide +kernel
theorem d_Mo_grow_77 : decode c_Mo_grow 77 = .ok (.return_, 1) := by decide +kernel
abbrev rm_Mo_grow (n0 : Nat) : Room := { frames := 2, cells := 7, slots := 14 * n0, locals := 40 }
set_option maxHeartbeats 4000000 in
set_option maxRecDepth 100000 in
/-- grow(), of the reference -/
theorem t_Mo_grow (l : Launch) (E : zc_E) (G : zg_G) (a m1 m3 m4 m6 m7 m8 m9 m10 m11 m12 m15 m18 : Nat) (th tn m5 m13 m14 m16 m17 : Int32) (m19 m20 : Value) (ha : G a = some (.inr (11, [.int th, .ref m1, .int tn, .ref m3, .ref m4, .int m5, .ref m6, .ref m7, .ref m8, .ref m9, .ref m10, .ref m11, .ref m12, .int m13, .int m14, .ref m15, .int m16, .int m17, .ref m18, m19, m20]))) (cap : Nat) (hcap : cap < 2 ^ 24) (f6 f7 f8 f9 f10 : Nat → Int32) (f11 f12 : Nat → Option Nat) (hA6 : G m6 = some (.inl (E.2.1 1, cap, .inl f6))) (hA7 : G m7 = some (.inl (E.2.1 1, cap, .inl f7))) (hA8 : G m8 = some (.inl (E.2.1 1, cap, .inl f8))) (hA9 : G m9 = some (.inl (E.2.1 1, cap, .inl f9))) (hA10 : G m10 = some (.inl (E.2.1 1, cap, .inl f10))) (hA11 : G m11 = some (.inl (E.2.1 5, cap, .inr (.inr (.inr (.inr f11)))))) (hA12 : G m12 = some (.inl (E.2.1 5, cap, .inr (.inr (.inr (.inr f12)))))) (hr11 : ∀ j v, f11 j = some v → ∃ (nx : Nat) (fx : Nat → Int32), G v = some (.inl (E.2.1 0, nx, .inl fx))) (hr12 : ∀ j v, f12 j = some v → ∃ (nx : Nat) (fx : Nat → Int32), G v = some (.inl (E.2.1 0, nx, .inl fx))) : zMv l E y_Mo_grow c_Mo_grow 1 (rm_Mo_grow cap) [.ref a] G (fun (G2 : zg_G) => ∃ q6 q7 q8 q9 q10 q11 q12 g6 g7 g8 g9 g10 g11 g12, zx (fun q => q = a) G G2 ∧ [q12, q11, q10, q9, q8, q7, q6].Nodup ∧ (G q6 = none ∧ G q7 = none ∧ G q8 = none ∧ G q9 = none ∧ G q10 = none ∧ G q11 = none ∧ G q12 = none) ∧ G2 a = some (.inr (11, [.int th, .ref m1, .int tn, .ref m3, .ref m4, .int m5, .ref q6, .ref q7, .ref q8, .ref q9, .ref q10, .ref q11, .ref q12, .int m13, .int m14, .ref m15, .int m16, .int m17, .ref m18, m19, m20])) ∧ (G2 q6 = some (.inl (E.2.1 1, (2 * cap), .inl g6)) ∧ G2 q7 = some (.inl (E.2.1 1, (2 * cap), .inl g7)) ∧ G2 q8 = some (.inl (E.2.1 1, (2 * cap), .inl g8)) ∧ G2 q9 = some (.inl (E.2.1 1, (2 * cap), .inl g9)) ∧ G2 q10 = some (.inl (E.2.1 1, (2 * cap), .inl g10)) ∧ G2 q11 = some (.inl (E.2.1 5, (2 * cap), .inr (.inr (.inr (.inr g11))))) ∧ G2 q12 = some (.inl (E.2.1 5, (2 * cap), .inr (.inr (.inr (.inr g12)))))) ∧ ((∀ j, j < cap → g6 j = f6 j) ∧ (∀ j, j < cap → g7 j = f7 j) ∧ (∀ j, j < cap → g8 j = f8 j) ∧ (∀ j, j < cap → g9 j = f9 j) ∧ (∀ j, j < cap → g10 j = f10 j) ∧ (∀ j, g11 j = if j < cap then f11 j else none) ∧ (∀ j, g12 j = if j < cap then f12 j else none))) := by
  refine zMv.of (by decide) (Nat.le_of_ble_eq_true rfl) ?_
  intro p e s m args below meth c Q hZ hG hret ls hl
  obtain ⟨hx, hb, hr, hts, hown, hlocks, hml, hnm, hbase, hK, hN, hQ⟩ := hZ
  have hl : lv_has ls 1 [(0, .ref a)] := hl
  have hS : zg_S (zc_b E) s.heap s.heap [] := va_S.rf
  have hx0 : zx (fun q => q = a) G G := zx.rf
  refine lv_aload_n hx hb d_Mo_grow_0 rfl (lv_at hl 0 rfl) ?_
  refine lv_aload_n hx hb d_Mo_grow_1 rfl (lv_at hl 0 rfl) ?_
  refine zg_get (ci := 11) (C := "ZoneAnswersModel") (T := T_Mo) (N := 21) hx hb hts zi_Mo hown hK hG ha rfl 6 (by decide) (hts _ w_1287) (fun _ h9 => h9) rfl d_Mo_grow_2 ?_
  have hGo5 := hG
  refine zk_q (va_runS (As := [.ref m6]) (rest := [.ref a]) ⟨hx, hb, hml, hown, hts⟩ (t_Mo_twice l E G m6 cap f6 hA6 hcap) (zcS 1 hts w_1487 w_1488 w_30 w_1489 (by decide +kernel) ⟨Nat.le_of_ble_eq_true rfl, Nat.le_of_ble_eq_true rfl⟩) (zc_pre hbase hK hN hQ hG hS) rfl rfl hl.1 rfl (lv_room (Nat.le_of_ble_eq_true rfl)) d_Mo_grow_5 ⟨(by dsimp only; omega), (by dsimp only; omega)⟩) hS (fun r5 G5 H locs hp5 hG hS => ?_)
  obtain ⟨q6, g6, er5, nq6, hx5, hq6, hf6⟩ := hp5
  have nd6 : [q6].Nodup := by simp
  have ra60 : ∀ x ∈ [q6], ∃ c, G5 x = some c := rall (L := []) (fun _ z => by cases z) hx5 hq6
  have nf6 : G q6 = none := zx.no1 hx0 ha nq6
  refine zr_some (a := q6) er5 ?_
  have k1 : G5 a = some (.inr (11, [.int th, .ref m1, .int tn, .ref m3, .ref m4, .int m5, .ref m6, .ref m7, .ref m8, .ref m9, .ref m10, .ref m11, .ref m12, .int m13, .int m14, .ref m15, .int m16, .int m17, .ref m18, m19, m20])) := hx5.o ha
  have ne_q6_a : a ≠ q6 := zg_fr nq6 ha
  have k2 : G5 m6 = some (.inl (E.2.1 1, cap, .inl f6)) := hx5.o hA6
  have ne_q6_m6 : m6 ≠ q6 := zg_fr nq6 hA6
  have k3 : G5 m7 = some (.inl (E.2.1 1, cap, .inl f7)) := hx5.o hA7
  have ne_q6_m7 : m7 ≠ q6 := zg_fr nq6 hA7
  have k4 : G5 m8 = some (.inl (E.2.1 1, cap, .inl f8)) := hx5.o hA8
  have ne_q6_m8 : m8 ≠ q6 := zg_fr nq6 hA8
  have k5 : G5 m9 = some (.inl (E.2.1 1, cap, .inl f9)) := hx5.o hA9
  have ne_q6_m9 : m9 ≠ q6 := zg_fr nq6 hA9
  have k6 : G5 m10 = some (.inl (E.2.1 1, cap, .inl f10)) := hx5.o hA10
  have ne_q6_m10 : m10 ≠ q6 := zg_fr nq6 hA10
  have k7 : G5 m11 = some (.inl (E.2.1 5, cap, .inr (.inr (.inr (.inr f11))))) := hx5.o hA11
  have ne_q6_m11 : m11 ≠ q6 := zg_fr nq6 hA11
  have k8 : G5 m12 = some (.inl (E.2.1 5, cap, .inr (.inr (.inr (.inr f12))))) := hx5.o hA12
  have ne_q6_m12 : m12 ≠ q6 := zg_fr nq6 hA12
  have hx9 : zx (fun q => q = a) G G5 := hx0.tr (hx5.w (fun _ z => z.elim))
  refine zg_put (ci := 11) (v := .ref q6) (ty := .array .int) (C := "ZoneAnswersModel") (T := T_Mo) (N := 21) hx hb hts zi_Mo t_Mo t_Mo_ok n_Mo hown hK hG hS k1 rfl 6 (by decide) (hts _ w_1287) (fun _ h9 => h9) rfl (by decide +kernel) rfl rfl (Nat.le_of_ble_eq_true rfl) d_Mo_grow_8 (fun H locs hG hS => ?_)
  obtain ⟨G10, eG10⟩ : ∃ z : zg_G, z = zg_up G5 a (.inr (11, [.int th, .ref m1, .int tn, .ref m3, .ref m4, .int m5, .ref q6, .ref m7, .ref m8, .ref m9, .ref m10, .ref m11, .ref m12, .int m13, .int m14, .ref m15, .int m16, .int m17, .ref m18, m19, m20])) := ⟨_, rfl⟩
  have hG : zP E G10 H := by rw [eG10]; exact hG
  have hx11 : zx (fun q => q = a) G G10 := hx9.tr (by rw [eG10]; exact zx.up (rfl))
  have k12 : G10 a = some (.inr (11, [.int th, .ref m1, .int tn, .ref m3, .ref m4, .int m5, .ref q6, .ref m7, .ref m8, .ref m9, .ref m10, .ref m11, .ref m12, .int m13, .int m14, .ref m15, .int m16, .int m17, .ref m18, m19, m20])) := by rw [eG10]; exact zg_up_self _ _ _
  have k13 : G10 m6 = some (.inl (E.2.1 1, cap, .inl f6)) := by rw [eG10, zg_up_ne (zg_ne k2 k1 (by intro h; simp at h))]; exact k2
  have k14 : G10 m7 = some (.inl (E.2.1 1, cap, .inl f7)) := by rw [eG10, zg_up_ne (zg_ne k3 k1 (by intro h; simp at h))]; exact k3
  have k15 : G10 m8 = some (.inl (E.2.1 1, cap, .inl f8)) := by rw [eG10, zg_up_ne (zg_ne k4 k1 (by intro h; simp at h))]; exact k4
  have k16 : G10 m9 = some (.inl (E.2.1 1, cap, .inl f9)) := by rw [eG10, zg_up_ne (zg_ne k5 k1 (by intro h; simp at h))]; exact k5
  have k17 : G10 m10 = some (.inl (E.2.1 1, cap, .inl f10)) := by rw [eG10, zg_up_ne (zg_ne k6 k1 (by intro h; simp at h))]; exact k6
  have k18 : G10 m11 = some (.inl (E.2.1 5, cap, .inr (.inr (.inr (.inr f11))))) := by rw [eG10, zg_up_ne (zg_ne k7 k1 (by intro h; simp at h))]; exact k7
  have k19 : G10 m12 = some (.inl (E.2.1 5, cap, .inr (.inr (.inr (.inr f12))))) := by rw [eG10, zg_up_ne (zg_ne k8 k1 (by intro h; simp at h))]; exact k8
  have k20 : G10 q6 = some (.inl (E.2.1 1, 2 * cap, .inl g6)) := by rw [eG10, zg_up_ne (Ne.symm ne_q6_a)]; exact hq6
  have ra6 : ∀ x ∈ [q6], ∃ c, G10 x = some c := by rw [eG10]; exact rall_up ra60
  refine lv_aload_n hx hb d_Mo_grow_11 rfl (lv_at hl 0 rfl) ?_
  refine lv_aload_n hx hb d_Mo_grow_12 rfl (lv_at hl 0 rfl) ?_
  refine zg_get (ci := 11) (C := "ZoneAnswersModel") (T := T_Mo) (N := 21) hx hb hts zi_Mo hown hK hG k12 rfl 7 (by decide) (hts _ w_1288) (fun _ h9 => h9) rfl d_Mo_grow_13 ?_
  have hGo16 := hG
  refine zk_q (va_runS (As := [.ref m7]) (rest := [.ref a]) ⟨hx, hb, hml, hown, hts⟩ (t_Mo_twice l E G10 m7 cap f7 k14 hcap) (zcS 1 hts w_1487 w_1488 w_30 w_1489 (by decide +kernel) ⟨Nat.le_of_ble_eq_true rfl, Nat.le_of_ble_eq_true rfl⟩) (zc_pre hbase hK hN hQ hG hS) rfl rfl hl.1 rfl (lv_room (Nat.le_of_ble_eq_true rfl)) d_Mo_grow_16 ⟨(by dsimp only; omega), (by dsimp only; omega)⟩) hS (fun r16 G16 H locs hp16 hG hS => ?_)
  obtain ⟨q7, g7, er16, nq7, hx16, hq7, hf7⟩ := hp16
  have nd7 : [q7, q6].Nodup := rnd nd6 ra6 nq7
  have ra70 : ∀ x ∈ [q7, q6], ∃ c, G16 x = some c := rall ra6 hx16 hq7
  have nf7 : G q7 = none := zx.no1 hx11 k12 nq7
  refine zr_some (a := q7) er16 ?_
  have k21 : G16 a = some (.inr (11, [.int th, .ref m1, .int tn, .ref m3, .ref m4, .int m5, .ref q6, .ref m7, .ref m8, .ref m9, .ref m10, .ref m11, .ref m12, .int m13, .int m14, .ref m15, .int m16, .int m17, .ref m18, m19, m20])) := hx16.o k12
  have ne_q7_a : a ≠ q7 := zg_fr nq7 k12
  have k22 : G16 m6 = some (.inl (E.2.1 1, cap, .inl f6)) := hx16.o k13
  have ne_q7_m6 : m6 ≠ q7 := zg_fr nq7 k13
  have k23 : G16 m7 = some (.inl (E.2.1 1, cap, .inl f7)) := hx16.o k14
  have ne_q7_m7 : m7 ≠ q7 := zg_fr nq7 k14
  have k24 : G16 m8 = some (.inl (E.2.1 1, cap, .inl f8)) := hx16.o k15
  have ne_q7_m8 : m8 ≠ q7 := zg_fr nq7 k15
  have k25 : G16 m9 = some (.inl (E.2.1 1, cap, .inl f9)) := hx16.o k16
  have ne_q7_m9 : m9 ≠ q7 := zg_fr nq7 k16
  have k26 : G16 m10 = some (.inl (E.2.1 1, cap, .inl f10)) := hx16.o k17
  have ne_q7_m10 : m10 ≠ q7 := zg_fr nq7 k17
  have k27 : G16 m11 = some (.inl (E.2.1 5, cap, .inr (.inr (.inr (.inr f11))))) := hx16.o k18
  have ne_q7_m11 : m11 ≠ q7 := zg_fr nq7 k18
  have k28 : G16 m12 = some (.inl (E.2.1 5, cap, .inr (.inr (.inr (.inr f12))))) := hx16.o k19
  have ne_q7_m12 : m12 ≠ q7 := zg_fr nq7 k19
  have k29 : G16 q6 = some (.inl (E.2.1 1, 2 * cap, .inl g6)) := hx16.o k20
  have ne_q7_q6 : q6 ≠ q7 := zg_fr nq7 k20
  have hx30 : zx (fun q => q = a) G G16 := hx11.tr (hx16.w (fun _ z => z.elim))
  refine zg_put (ci := 11) (v := .ref q7) (ty := .array .int) (C := "ZoneAnswersModel") (T := T_Mo) (N := 21) hx hb hts zi_Mo t_Mo t_Mo_ok n_Mo hown hK hG hS k21 rfl 7 (by decide) (hts _ w_1288) (fun _ h9 => h9) rfl (by decide +kernel) rfl rfl (Nat.le_of_ble_eq_true rfl) d_Mo_grow_19 (fun H locs hG hS => ?_)
  obtain ⟨G31, eG31⟩ : ∃ z : zg_G, z = zg_up G16 a (.inr (11, [.int th, .ref m1, .int tn, .ref m3, .ref m4, .int m5, .ref q6, .ref q7, .ref m8, .ref m9, .ref m10, .ref m11, .ref m12, .int m13, .int m14, .ref m15, .int m16, .int m17, .ref m18, m19, m20])) := ⟨_, rfl⟩
  have hG : zP E G31 H := by rw [eG31]; exact hG
  have hx32 : zx (fun q => q = a) G G31 := hx30.tr (by rw [eG31]; exact zx.up (rfl))
  have k33 : G31 a = some (.inr (11, [.int th, .ref m1, .int tn, .ref m3, .ref m4, .int m5, .ref q6, .ref q7, .ref m8, .ref m9, .ref m10, .ref m11, .ref m12, .int m13, .int m14, .ref m15, .int m16, .int m17, .ref m18, m19, m20])) := by rw [eG31]; exact zg_up_self _ _ _
  have k34 : G31 m6 = some (.inl (E.2.1 1, cap, .inl f6)) := by rw [eG31, zg_up_ne (zg_ne k22 k21 (by intro h; simp at h))]; exact k22
  have k35 : G31 m7 = some (.inl (E.2.1 1, cap, .inl f7)) := by rw [eG31, zg_up_ne (zg_ne k23 k21 (by intro h; simp at h))]; exact k23
  have k36 : G31 m8 = some (.inl (E.2.1 1, cap, .inl f8)) := by rw [eG31, zg_up_ne (zg_ne k24 k21 (by intro h; simp at h))]; exact k24
  have k37 : G31 m9 = some (.inl (E.2.1 1, cap, .inl f9)) := by rw [eG31, zg_up_ne (zg_ne k25 k21 (by intro h; simp at h))]; exact k25
  have k38 : G31 m10 = some (.inl (E.2.1 1, cap, .inl f10)) := by rw [eG31, zg_up_ne (zg_ne k26 k21 (by intro h; simp at h))]; exact k26
  have k39 : G31 m11 = some (.inl (E.2.1 5, cap, .inr (.inr (.inr (.inr f11))))) := by rw [eG31, zg_up_ne (zg_ne k27 k21 (by intro h; simp at h))]; exact k27
  have k40 : G31 m12 = some (.inl (E.2.1 5, cap, .inr (.inr (.inr (.inr f12))))) := by rw [eG31, zg_up_ne (zg_ne k28 k21 (by intro h; simp at h))]; exact k28
  have k41 : G31 q6 = some (.inl (E.2.1 1, 2 * cap, .inl g6)) := by rw [eG31, zg_up_ne (Ne.symm ne_q6_a)]; exact k29
  have k42 : G31 q7 = some (.inl (E.2.1 1, 2 * cap, .inl g7)) := by rw [eG31, zg_up_ne (Ne.symm ne_q7_a)]; exact hq7
  have ra7 : ∀ x ∈ [q7, q6], ∃ c, G31 x = some c := by rw [eG31]; exact rall_up ra70
  refine lv_aload_n hx hb d_Mo_grow_22 rfl (lv_at hl 0 rfl) ?_
  refine lv_aload_n hx hb d_Mo_grow_23 rfl (lv_at hl 0 rfl) ?_
  refine zg_get (ci := 11) (C := "ZoneAnswersModel") (T := T_Mo) (N := 21) hx hb hts zi_Mo hown hK hG k33 rfl 8 (by decide) (hts _ w_1289) (fun _ h9 => h9) rfl d_Mo_grow_24 ?_
  have hGo27 := hG
  refine zk_q (va_runS (As := [.ref m8]) (rest := [.ref a]) ⟨hx, hb, hml, hown, hts⟩ (t_Mo_twice l E G31 m8 cap f8 k36 hcap) (zcS 1 hts w_1487 w_1488 w_30 w_1489 (by decide +kernel) ⟨Nat.le_of_ble_eq_true rfl, Nat.le_of_ble_eq_true rfl⟩) (zc_pre hbase hK hN hQ hG hS) rfl rfl hl.1 rfl (lv_room (Nat.le_of_ble_eq_true rfl)) d_Mo_grow_27 ⟨(by dsimp only; omega), (by dsimp only; omega)⟩) hS (fun r27 G27 H locs hp27 hG hS => ?_)
  obtain ⟨q8, g8, er27, nq8, hx27, hq8, hf8⟩ := hp27
  have nd8 : [q8, q7, q6].Nodup := rnd nd7 ra7 nq8
  have ra80 : ∀ x ∈ [q8, q7, q6], ∃ c, G27 x = some c := rall ra7 hx27 hq8
  have nf8 : G q8 = none := zx.no1 hx32 k33 nq8
  refine zr_some (a := q8) er27 ?_
  have k43 : G27 a = some (.inr (11, [.int th, .ref m1, .int tn, .ref m3, .ref m4, .int m5, .ref q6, .ref q7, .ref m8, .ref m9, .ref m10, .ref m11, .ref m12, .int m13, .int m14, .ref m15, .int m16, .int m17, .ref m18, m19, m20])) := hx27.o k33
  have ne_q8_a : a ≠ q8 := zg_fr nq8 k33
  have k44 : G27 m6 = some (.inl (E.2.1 1, cap, .inl f6)) := hx27.o k34
  have ne_q8_m6 : m6 ≠ q8 := zg_fr nq8 k34
  have k45 : G27 m7 = some (.inl (E.2.1 1, cap, .inl f7)) := hx27.o k35
  have ne_q8_m7 : m7 ≠ q8 := zg_fr nq8 k35
  have k46 : G27 m8 = some (.inl (E.2.1 1, cap, .inl f8)) := hx27.o k36
  have ne_q8_m8 : m8 ≠ q8 := zg_fr nq8 k36
  have k47 : G27 m9 = some (.inl (E.2.1 1, cap, .inl f9)) := hx27.o k37
  have ne_q8_m9 : m9 ≠ q8 := zg_fr nq8 k37
  have k48 : G27 m10 = some (.inl (E.2.1 1, cap, .inl f10)) := hx27.o k38
  have ne_q8_m10 : m10 ≠ q8 := zg_fr nq8 k38
  have k49 : G27 m11 = some (.inl (E.2.1 5, cap, .inr (.inr (.inr (.inr f11))))) := hx27.o k39
  have ne_q8_m11 : m11 ≠ q8 := zg_fr nq8 k39
  have k50 : G27 m12 = some (.inl (E.2.1 5, cap, .inr (.inr (.inr (.inr f12))))) := hx27.o k40
  have ne_q8_m12 : m12 ≠ q8 := zg_fr nq8 k40
  have k51 : G27 q6 = some (.inl (E.2.1 1, 2 * cap, .inl g6)) := hx27.o k41
  have ne_q8_q6 : q6 ≠ q8 := zg_fr nq8 k41
  have k52 : G27 q7 = some (.inl (E.2.1 1, 2 * cap, .inl g7)) := hx27.o k42
  have ne_q8_q7 : q7 ≠ q8 := zg_fr nq8 k42
  have hx53 : zx (fun q => q = a) G G27 := hx32.tr (hx27.w (fun _ z => z.elim))
  refine zg_put (ci := 11) (v := .ref q8) (ty := .array .int) (C := "ZoneAnswersModel") (T := T_Mo) (N := 21) hx hb hts zi_Mo t_Mo t_Mo_ok n_Mo hown hK hG hS k43 rfl 8 (by decide) (hts _ w_1289) (fun _ h9 => h9) rfl (by decide +kernel) rfl rfl (Nat.le_of_ble_eq_true rfl) d_Mo_grow_30 (fun H locs hG hS => ?_)
  obtain ⟨G54, eG54⟩ : ∃ z : zg_G, z = zg_up G27 a (.inr (11, [.int th, .ref m1, .int tn, .ref m3, .ref m4, .int m5, .ref q6, .ref q7, .ref q8, .ref m9, .ref m10, .ref m11, .ref m12, .int m13, .int m14, .ref m15, .int m16, .int m17, .ref m18, m19, m20])) := ⟨_, rfl⟩
  have hG : zP E G54 H := by rw [eG54]; exact hG
  have hx55 : zx (fun q => q = a) G G54 := hx53.tr (by rw [eG54]; exact zx.up (rfl))
  have k56 : G54 a = some (.inr (11, [.int th, .ref m1, .int tn, .ref m3, .ref m4, .int m5, .ref q6, .ref q7, .ref q8, .ref m9, .ref m10, .ref m11, .ref m12, .int m13, .int m14, .ref m15, .int m16, .int m17, .ref m18, m19, m20])) := by rw [eG54]; exact zg_up_self _ _ _
  have k57 : G54 m6 = some (.inl (E.2.1 1, cap, .inl f6)) := by rw [eG54, zg_up_ne (zg_ne k44 k43 (by intro h; simp at h))]; exact k44
  have k58 : G54 m7 = some (.inl (E.2.1 1, cap, .inl f7)) := by rw [eG54, zg_up_ne (zg_ne k45 k43 (by intro h; simp at h))]; exact k45
  have k59 : G54 m8 = some (.inl (E.2.1 1, cap, .inl f8)) := by rw [eG54, zg_up_ne (zg_ne k46 k43 (by intro h; simp at h))]; exact k46
  have k60 : G54 m9 = some (.inl (E.2.1 1, cap, .inl f9)) := by rw [eG54, zg_up_ne (zg_ne k47 k43 (by intro h; simp at h))]; exact k47
  have k61 : G54 m10 = some (.inl (E.2.1 1, cap, .inl f10)) := by rw [eG54, zg_up_ne (zg_ne k48 k43 (by intro h; simp at h))]; exact k48
  have k62 : G54 m11 = some (.inl (E.2.1 5, cap, .inr (.inr (.inr (.inr f11))))) := by rw [eG54, zg_up_ne (zg_ne k49 k43 (by intro h; simp at h))]; exact k49
  have k63 : G54 m12 = some (.inl (E.2.1 5, cap, .inr (.inr (.inr (.inr f12))))) := by rw [eG54, zg_up_ne (zg_ne k50 k43 (by intro h; simp at h))]; exact k50
  have k64 : G54 q6 = some (.inl (E.2.1 1, 2 * cap, .inl g6)) := by rw [eG54, zg_up_ne (Ne.symm ne_q6_a)]; exact k51
  have k65 : G54 q7 = some (.inl (E.2.1 1, 2 * cap, .inl g7)) := by rw [eG54, zg_up_ne (Ne.symm ne_q7_a)]; exact k52
  have k66 : G54 q8 = some (.inl (E.2.1 1, 2 * cap, .inl g8)) := by rw [eG54, zg_up_ne (Ne.symm ne_q8_a)]; exact hq8
  have ra8 : ∀ x ∈ [q8, q7, q6], ∃ c, G54 x = some c := by rw [eG54]; exact rall_up ra80
  refine lv_aload_n hx hb d_Mo_grow_33 rfl (lv_at hl 0 rfl) ?_
  refine lv_aload_n hx hb d_Mo_grow_34 rfl (lv_at hl 0 rfl) ?_
  refine zg_get (ci := 11) (C := "ZoneAnswersModel") (T := T_Mo) (N := 21) hx hb hts zi_Mo hown hK hG k56 rfl 9 (by decide) (hts _ w_1290) (fun _ h9 => h9) rfl d_Mo_grow_35 ?_
  have hGo38 := hG
  refine zk_q (va_runS (As := [.ref m9]) (rest := [.ref a]) ⟨hx, hb, hml, hown, hts⟩ (t_Mo_twice l E G54 m9 cap f9 k60 hcap) (zcS 1 hts w_1487 w_1488 w_30 w_1489 (by decide +kernel) ⟨Nat.le_of_ble_eq_true rfl, Nat.le_of_ble_eq_true rfl⟩) (zc_pre hbase hK hN hQ hG hS) rfl rfl hl.1 rfl (lv_room (Nat.le_of_ble_eq_true rfl)) d_Mo_grow_38 ⟨(by dsimp only; omega), (by dsimp only; omega)⟩) hS (fun r38 G38 H locs hp38 hG hS => ?_)
  obtain ⟨q9, g9, er38, nq9, hx38, hq9, hf9⟩ := hp38
  have nd9 : [q9, q8, q7, q6].Nodup := rnd nd8 ra8 nq9
  have ra90 : ∀ x ∈ [q9, q8, q7, q6], ∃ c, G38 x = some c := rall ra8 hx38 hq9
  have nf9 : G q9 = none := zx.no1 hx55 k56 nq9
  refine zr_some (a := q9) er38 ?_
  have k67 : G38 a = some (.inr (11, [.int th, .ref m1, .int tn, .ref m3, .ref m4, .int m5, .ref q6, .ref q7, .ref q8, .ref m9, .ref m10, .ref m11, .ref m12, .int m13, .int m14, .ref m15, .int m16, .int m17, .ref m18, m19, m20])) := hx38.o k56
  have ne_q9_a : a ≠ q9 := zg_fr nq9 k56
  have k68 : G38 m6 = some (.inl (E.2.1 1, cap, .inl f6)) := hx38.o k57
  have ne_q9_m6 : m6 ≠ q9 := zg_fr nq9 k57
  have k69 : G38 m7 = some (.inl (E.2.1 1, cap, .inl f7)) := hx38.o k58
  have ne_q9_m7 : m7 ≠ q9 := zg_fr nq9 k58
  have k70 : G38 m8 = some (.inl (E.2.1 1, cap, .inl f8)) := hx38.o k59
  have ne_q9_m8 : m8 ≠ q9 := zg_fr nq9 k59
  have k71 : G38 m9 = some (.inl (E.2.1 1, cap, .inl f9)) := hx38.o k60
  have ne_q9_m9 : m9 ≠ q9 := zg_fr nq9 k60
  have k72 : G38 m10 = some (.inl (E.2.1 1, cap, .inl f10)) := hx38.o k61
  have ne_q9_m10 : m10 ≠ q9 := zg_fr nq9 k61
  have k73 : G38 m11 = some (.inl (E.2.1 5, cap, .inr (.inr (.inr (.inr f11))))) := hx38.o k62
  have ne_q9_m11 : m11 ≠ q9 := zg_fr nq9 k62
  have k74 : G38 m12 = some (.inl (E.2.1 5, cap, .inr (.inr (.inr (.inr f12))))) := hx38.o k63
  have ne_q9_m12 : m12 ≠ q9 := zg_fr nq9 k63
  have k75 : G38 q6 = some (.inl (E.2.1 1, 2 * cap, .inl g6)) := hx38.o k64
  have ne_q9_q6 : q6 ≠ q9 := zg_fr nq9 k64
  have k76 : G38 q7 = some (.inl (E.2.1 1, 2 * cap, .inl g7)) := hx38.o k65
  have ne_q9_q7 : q7 ≠ q9 := zg_fr nq9 k65
  have k77 : G38 q8 = some (.inl (E.2.1 1, 2 * cap, .inl g8)) := hx38.o k66
  have ne_q9_q8 : q8 ≠ q9 := zg_fr nq9 k66
  have hx78 : zx (fun q => q = a) G G38 := hx55.tr (hx38.w (fun _ z => z.elim))
  refine zg_put (ci := 11) (v := .ref q9) (ty := .array .int) (C := "ZoneAnswersModel") (T := T_Mo) (N := 21) hx hb hts zi_Mo t_Mo t_Mo_ok n_Mo hown hK hG hS k67 rfl 9 (by decide) (hts _ w_1290) (fun _ h9 => h9) rfl (by decide +kernel) rfl rfl (Nat.le_of_ble_eq_true rfl) d_Mo_grow_41 (fun H locs hG hS => ?_)
  obtain ⟨G79, eG79⟩ : ∃ z : zg_G, z = zg_up G38 a (.inr (11, [.int th, .ref m1, .int tn, .ref m3, .ref m4, .int m5, .ref q6, .ref q7, .ref q8, .ref q9, .ref m10, .ref m11, .ref m12, .int m13, .int m14, .ref m15, .int m16, .int m17, .ref m18, m19, m20])) := ⟨_, rfl⟩
  have hG : zP E G79 H := by rw [eG79]; exact hG
  have hx80 : zx (fun q => q = a) G G79 := hx78.tr (by rw [eG79]; exact zx.up (rfl))
  have k81 : G79 a = some (.inr (11, [.int th, .ref m1, .int tn, .ref m3, .ref m4, .int m5, .ref q6, .ref q7, .ref q8, .ref q9, .ref m10, .ref m11, .ref m12, .int m13, .int m14, .ref m15, .int m16, .int m17, .ref m18, m19, m20])) := by rw [eG79]; exact zg_up_self _ _ _
  have k82 : G79 m6 = some (.inl (E.2.1 1, cap, .inl f6)) := by rw [eG79, zg_up_ne (zg_ne k68 k67 (by intro h; simp at h))]; exact k68
  have k83 : G79 m7 = some (.inl (E.2.1 1, cap, .inl f7)) := by rw [eG79, zg_up_ne (zg_ne k69 k67 (by intro h; simp at h))]; exact k69
  have k84 : G79 m8 = some (.inl (E.2.1 1, cap, .inl f8)) := by rw [eG79, zg_up_ne (zg_ne k70 k67 (by intro h; simp at h))]; exact k70
  have k85 : G79 m9 = some (.inl (E.2.1 1, cap, .inl f9)) := by rw [eG79, zg_up_ne (zg_ne k71 k67 (by intro h; simp at h))]; exact k71
  have k86 : G79 m10 = some (.inl (E.2.1 1, cap, .inl f10)) := by rw [eG79, zg_up_ne (zg_ne k72 k67 (by intro h; simp at h))]; exact k72
  have k87 : G79 m11 = some (.inl (E.2.1 5, cap, .inr (.inr (.inr (.inr f11))))) := by rw [eG79, zg_up_ne (zg_ne k73 k67 (by intro h; simp at h))]; exact k73
  have k88 : G79 m12 = some (.inl (E.2.1 5, cap, .inr (.inr (.inr (.inr f12))))) := by rw [eG79, zg_up_ne (zg_ne k74 k67 (by intro h; simp at h))]; exact k74
  have k89 : G79 q6 = some (.inl (E.2.1 1, 2 * cap, .inl g6)) := by rw [eG79, zg_up_ne (Ne.symm ne_q6_a)]; exact k75
  have k90 : G79 q7 = some (.inl (E.2.1 1, 2 * cap, .inl g7)) := by rw [eG79, zg_up_ne (Ne.symm ne_q7_a)]; exact k76
  have k91 : G79 q8 = some (.inl (E.2.1 1, 2 * cap, .inl g8)) := by rw [eG79, zg_up_ne (Ne.symm ne_q8_a)]; exact k77
  have k92 : G79 q9 = some (.inl (E.2.1 1, 2 * cap, .inl g9)) := by rw [eG79, zg_up_ne (Ne.symm ne_q9_a)]; exact hq9
  have ra9 : ∀ x ∈ [q9, q8, q7, q6], ∃ c, G79 x = some c := by rw [eG79]; exact rall_up ra90
  refine lv_aload_n hx hb d_Mo_grow_44 rfl (lv_at hl 0 rfl) ?_
  refine lv_aload_n hx hb d_Mo_grow_45 rfl (lv_at hl 0 rfl) ?_
  refine zg_get (ci := 11) (C := "ZoneAnswersModel") (T := T_Mo) (N := 21) hx hb hts zi_Mo hown hK hG k81 rfl 10 (by decide) (hts _ w_1291) (fun _ h9 => h9) rfl d_Mo_grow_46 ?_
  have hGo49 := hG
  refine zk_q (va_runS (As := [.ref m10]) (rest := [.ref a]) ⟨hx, hb, hml, hown, hts⟩ (t_Mo_twice l E G79 m10 cap f10 k86 hcap) (zcS 1 hts w_1487 w_1488 w_30 w_1489 (by decide +kernel) ⟨Nat.le_of_ble_eq_true rfl, Nat.le_of_ble_eq_true rfl⟩) (zc_pre hbase hK hN hQ hG hS) rfl rfl hl.1 rfl (lv_room (Nat.le_of_ble_eq_true rfl)) d_Mo_grow_49 ⟨(by dsimp only; omega), (by dsimp only; omega)⟩) hS (fun r49 G49 H locs hp49 hG hS => ?_)
  obtain ⟨q10, g10, er49, nq10, hx49, hq10, hf10⟩ := hp49
  have nd10 : [q10, q9, q8, q7, q6].Nodup := rnd nd9 ra9 nq10
  have ra100 : ∀ x ∈ [q10, q9, q8, q7, q6], ∃ c, G49 x = some c := rall ra9 hx49 hq10
  have nf10 : G q10 = none := zx.no1 hx80 k81 nq10
  refine zr_some (a := q10) er49 ?_
  have k93 : G49 a = some (.inr (11, [.int th, .ref m1, .int tn, .ref m3, .ref m4, .int m5, .ref q6, .ref q7, .ref q8, .ref q9, .ref m10, .ref m11, .ref m12, .int m13, .int m14, .ref m15, .int m16, .int m17, .ref m18, m19, m20])) := hx49.o k81
  have ne_q10_a : a ≠ q10 := zg_fr nq10 k81
  have k94 : G49 m6 = some (.inl (E.2.1 1, cap, .inl f6)) := hx49.o k82
  have ne_q10_m6 : m6 ≠ q10 := zg_fr nq10 k82
  have k95 : G49 m7 = some (.inl (E.2.1 1, cap, .inl f7)) := hx49.o k83
  have ne_q10_m7 : m7 ≠ q10 := zg_fr nq10 k83
  have k96 : G49 m8 = some (.inl (E.2.1 1, cap, .inl f8)) := hx49.o k84
  have ne_q10_m8 : m8 ≠ q10 := zg_fr nq10 k84
  have k97 : G49 m9 = some (.inl (E.2.1 1, cap, .inl f9)) := hx49.o k85
  have ne_q10_m9 : m9 ≠ q10 := zg_fr nq10 k85
  have k98 : G49 m10 = some (.inl (E.2.1 1, cap, .inl f10)) := hx49.o k86
  have ne_q10_m10 : m10 ≠ q10 := zg_fr nq10 k86
  have k99 : G49 m11 = some (.inl (E.2.1 5, cap, .inr (.inr (.inr (.inr f11))))) := hx49.o k87
  have ne_q10_m11 : m11 ≠ q10 := zg_fr nq10 k87
  have k100 : G49 m12 = some (.inl (E.2.1 5, cap, .inr (.inr (.inr (.inr f12))))) := hx49.o k88
  have ne_q10_m12 : m12 ≠ q10 := zg_fr nq10 k88
  have k101 : G49 q6 = some (.inl (E.2.1 1, 2 * cap, .inl g6)) := hx49.o k89
  have ne_q10_q6 : q6 ≠ q10 := zg_fr nq10 k89
  have k102 : G49 q7 = some (.inl (E.2.1 1, 2 * cap, .inl g7)) := hx49.o k90
  have ne_q10_q7 : q7 ≠ q10 := zg_fr nq10 k90
  have k103 : G49 q8 = some (.inl (E.2.1 1, 2 * cap, .inl g8)) := hx49.o k91
  have ne_q10_q8 : q8 ≠ q10 := zg_fr nq10 k91
  have k104 : G49 q9 = some (.inl (E.2.1 1, 2 * cap, .inl g9)) := hx49.o k92
  have ne_q10_q9 : q9 ≠ q10 := zg_fr nq10 k92
  have hx105 : zx (fun q => q = a) G G49 := hx80.tr (hx49.w (fun _ z => z.elim))
  refine zg_put (ci := 11) (v := .ref q10) (ty := .array .int) (C := "ZoneAnswersModel") (T := T_Mo) (N := 21) hx hb hts zi_Mo t_Mo t_Mo_ok n_Mo hown hK hG hS k93 rfl 10 (by decide) (hts _ w_1291) (fun _ h9 => h9) rfl (by decide +kernel) rfl rfl (Nat.le_of_ble_eq_true rfl) d_Mo_grow_52 (fun H locs hG hS => ?_)
  obtain ⟨G106, eG106⟩ : ∃ z : zg_G, z = zg_up G49 a (.inr (11, [.int th, .ref m1, .int tn, .ref m3, .ref m4, .int m5, .ref q6, .ref q7, .ref q8, .ref q9, .ref q10, .ref m11, .ref m12, .int m13, .int m14, .ref m15, .int m16, .int m17, .ref m18, m19, m20])) := ⟨_, rfl⟩
  have hG : zP E G106 H := by rw [eG106]; exact hG
  have hx107 : zx (fun q => q = a) G G106 := hx105.tr (by rw [eG106]; exact zx.up (rfl))
  have k108 : G106 a = some (.inr (11, [.int th, .ref m1, .int tn, .ref m3, .ref m4, .int m5, .ref q6, .ref q7, .ref q8, .ref q9, .ref q10, .ref m11, .ref m12, .int m13, .int m14, .ref m15, .int m16, .int m17, .ref m18, m19, m20])) := by rw [eG106]; exact zg_up_self _ _ _
  have k109 : G106 m6 = some (.inl (E.2.1 1, cap, .inl f6)) := by rw [eG106, zg_up_ne (zg_ne k94 k93 (by intro h; simp at h))]; exact k94
  have k110 : G106 m7 = some (.inl (E.2.1 1, cap, .inl f7)) := by rw [eG106, zg_up_ne (zg_ne k95 k93 (by intro h; simp at h))]; exact k95
  have k111 : G106 m8 = some (.inl (E.2.1 1, cap, .inl f8)) := by rw [eG106, zg_up_ne (zg_ne k96 k93 (by intro h; simp at h))]; exact k96
  have k112 : G106 m9 = some (.inl (E.2.1 1, cap, .inl f9)) := by rw [eG106, zg_up_ne (zg_ne k97 k93 (by intro h; simp at h))]; exact k97
  have k113 : G106 m10 = some (.inl (E.2.1 1, cap, .inl f10)) := by rw [eG106, zg_up_ne (zg_ne k98 k93 (by intro h; simp at h))]; exact k98
  have k114 : G106 m11 = some (.inl (E.2.1 5, cap, .inr (.inr (.inr (.inr f11))))) := by rw [eG106, zg_up_ne (zg_ne k99 k93 (by intro h; simp at h))]; exact k99
  have k115 : G106 m12 = some (.inl (E.2.1 5, cap, .inr (.inr (.inr (.inr f12))))) := by rw [eG106, zg_up_ne (zg_ne k100 k93 (by intro h; simp at h))]; exact k100
  have k116 : G106 q6 = some (.inl (E.2.1 1, 2 * cap, .inl g6)) := by rw [eG106, zg_up_ne (Ne.symm ne_q6_a)]; exact k101
  have k117 : G106 q7 = some (.inl (E.2.1 1, 2 * cap, .inl g7)) := by rw [eG106, zg_up_ne (Ne.symm ne_q7_a)]; exact k102
  have k118 : G106 q8 = some (.inl (E.2.1 1, 2 * cap, .inl g8)) := by rw [eG106, zg_up_ne (Ne.symm ne_q8_a)]; exact k103
  have k119 : G106 q9 = some (.inl (E.2.1 1, 2 * cap, .inl g9)) := by rw [eG106, zg_up_ne (Ne.symm ne_q9_a)]; exact k104
  have k120 : G106 q10 = some (.inl (E.2.1 1, 2 * cap, .inl g10)) := by rw [eG106, zg_up_ne (Ne.symm ne_q10_a)]; exact hq10
  have ra10 : ∀ x ∈ [q10, q9, q8, q7, q6], ∃ c, G106 x = some c := by rw [eG106]; exact rall_up ra100
  refine lv_aload_n hx hb d_Mo_grow_55 rfl (lv_at hl 0 rfl) ?_
  refine lv_aload_n hx hb d_Mo_grow_56 rfl (lv_at hl 0 rfl) ?_
  refine zg_get (ci := 11) (C := "ZoneAnswersModel") (T := T_Mo) (N := 21) hx hb hts zi_Mo hown hK hG k108 rfl 11 (by decide) (hts _ w_1292) (fun _ h9 => h9) rfl d_Mo_grow_57 ?_
  have hGo60 := hG
  refine zk_q (va_runS (As := [.ref m11]) (rest := [.ref a]) ⟨hx, hb, hml, hown, hts⟩ (t_Mo_twice_2 l E G106 m11 cap f11 k114 hcap (fun j v hv => by obtain ⟨nx, fx, hq⟩ := hr11 j v hv; exact ⟨nx, fx, hx107 _ _ (fun z => by rw [z, ha] at hq; cases hq) hq⟩)) (zcS 1 hts w_1490 w_1491 w_30 w_1492 (by decide +kernel) ⟨Nat.le_of_ble_eq_true rfl, Nat.le_of_ble_eq_true rfl⟩) (zc_pre hbase hK hN hQ hG hS) rfl rfl hl.1 rfl (lv_room (Nat.le_of_ble_eq_true rfl)) d_Mo_grow_60 ⟨(by dsimp only; omega), (by dsimp only; omega)⟩) hS (fun r60 G60 H locs hp60 hG hS => ?_)
  obtain ⟨q11, g11, er60, nq11, hx60, hq11, hf11⟩ := hp60
  have nd11 : [q11, q10, q9, q8, q7, q6].Nodup := rnd nd10 ra10 nq11
  have ra110 : ∀ x ∈ [q11, q10, q9, q8, q7, q6], ∃ c, G60 x = some c := rall ra10 hx60 hq11
  have nf11 : G q11 = none := zx.no1 hx107 k108 nq11
  refine zr_some (a := q11) er60 ?_
  have k121 : G60 a = some (.inr (11, [.int th, .ref m1, .int tn, .ref m3, .ref m4, .int m5, .ref q6, .ref q7, .ref q8, .ref q9, .ref q10, .ref m11, .ref m12, .int m13, .int m14, .ref m15, .int m16, .int m17, .ref m18, m19, m20])) := hx60.o k108
  have ne_q11_a : a ≠ q11 := zg_fr nq11 k108
  have k122 : G60 m6 = some (.inl (E.2.1 1, cap, .inl f6)) := hx60.o k109
  have ne_q11_m6 : m6 ≠ q11 := zg_fr nq11 k109
  have k123 : G60 m7 = some (.inl (E.2.1 1, cap, .inl f7)) := hx60.o k110
  have ne_q11_m7 : m7 ≠ q11 := zg_fr nq11 k110
  have k124 : G60 m8 = some (.inl (E.2.1 1, cap, .inl f8)) := hx60.o k111
  have ne_q11_m8 : m8 ≠ q11 := zg_fr nq11 k111
  have k125 : G60 m9 = some (.inl (E.2.1 1, cap, .inl f9)) := hx60.o k112
  have ne_q11_m9 : m9 ≠ q11 := zg_fr nq11 k112
  have k126 : G60 m10 = some (.inl (E.2.1 1, cap, .inl f10)) := hx60.o k113
  have ne_q11_m10 : m10 ≠ q11 := zg_fr nq11 k113
  have k127 : G60 m11 = some (.inl (E.2.1 5, cap, .inr (.inr (.inr (.inr f11))))) := hx60.o k114
  have ne_q11_m11 : m11 ≠ q11 := zg_fr nq11 k114
  have k128 : G60 m12 = some (.inl (E.2.1 5, cap, .inr (.inr (.inr (.inr f12))))) := hx60.o k115
  have ne_q11_m12 : m12 ≠ q11 := zg_fr nq11 k115
  have k129 : G60 q6 = some (.inl (E.2.1 1, 2 * cap, .inl g6)) := hx60.o k116
  have ne_q11_q6 : q6 ≠ q11 := zg_fr nq11 k116
  have k130 : G60 q7 = some (.inl (E.2.1 1, 2 * cap, .inl g7)) := hx60.o k117
  have ne_q11_q7 : q7 ≠ q11 := zg_fr nq11 k117
  have k131 : G60 q8 = some (.inl (E.2.1 1, 2 * cap, .inl g8)) := hx60.o k118
  have ne_q11_q8 : q8 ≠ q11 := zg_fr nq11 k118
  have k132 : G60 q9 = some (.inl (E.2.1 1, 2 * cap, .inl g9)) := hx60.o k119
  have ne_q11_q9 : q9 ≠ q11 := zg_fr nq11 k119
  have k133 : G60 q10 = some (.inl (E.2.1 1, 2 * cap, .inl g10)) := hx60.o k120
  have ne_q11_q10 : q10 ≠ q11 := zg_fr nq11 k120
  have hx134 : zx (fun q => q = a) G G60 := hx107.tr (hx60.w (fun _ z => z.elim))
  refine zg_put (ci := 11) (v := .ref q11) (ty := .array (.array .byte)) (C := "ZoneAnswersModel") (T := T_Mo) (N := 21) hx hb hts zi_Mo t_Mo t_Mo_ok n_Mo hown hK hG hS k121 rfl 11 (by decide) (hts _ w_1292) (fun _ h9 => h9) rfl (by decide +kernel) rfl rfl (Nat.le_of_ble_eq_true rfl) d_Mo_grow_63 (fun H locs hG hS => ?_)
  obtain ⟨G135, eG135⟩ : ∃ z : zg_G, z = zg_up G60 a (.inr (11, [.int th, .ref m1, .int tn, .ref m3, .ref m4, .int m5, .ref q6, .ref q7, .ref q8, .ref q9, .ref q10, .ref q11, .ref m12, .int m13, .int m14, .ref m15, .int m16, .int m17, .ref m18, m19, m20])) := ⟨_, rfl⟩
  have hG : zP E G135 H := by rw [eG135]; exact hG
  have hx136 : zx (fun q => q = a) G G135 := hx134.tr (by rw [eG135]; exact zx.up (rfl))
  have k137 : G135 a = some (.inr (11, [.int th, .ref m1, .int tn, .ref m3, .ref m4, .int m5, .ref q6, .ref q7, .ref q8, .ref q9, .ref q10, .ref q11, .ref m12, .int m13, .int m14, .ref m15, .int m16, .int m17, .ref m18, m19, m20])) := by rw [eG135]; exact zg_up_self _ _ _
  have k138 : G135 m6 = some (.inl (E.2.1 1, cap, .inl f6)) := by rw [eG135, zg_up_ne (zg_ne k122 k121 (by intro h; simp at h))]; exact k122
  have k139 : G135 m7 = some (.inl (E.2.1 1, cap, .inl f7)) := by rw [eG135, zg_up_ne (zg_ne k123 k121 (by intro h; simp at h))]; exact k123
  have k140 : G135 m8 = some (.inl (E.2.1 1, cap, .inl f8)) := by rw [eG135, zg_up_ne (zg_ne k124 k121 (by intro h; simp at h))]; exact k124
  have k141 : G135 m9 = some (.inl (E.2.1 1, cap, .inl f9)) := by rw [eG135, zg_up_ne (zg_ne k125 k121 (by intro h; simp at h))]; exact k125
  have k142 : G135 m10 = some (.inl (E.2.1 1, cap, .inl f10)) := by rw [eG135, zg_up_ne (zg_ne k126 k121 (by intro h; simp at h))]; exact k126
  have k143 : G135 m11 = some (.inl (E.2.1 5, cap, .inr (.inr (.inr (.inr f11))))) := by rw [eG135, zg_up_ne (zg_ne k127 k121 (by intro h; simp at h))]; exact k127
  have k144 : G135 m12 = some (.inl (E.2.1 5, cap, .inr (.inr (.inr (.inr f12))))) := by rw [eG135, zg_up_ne (zg_ne k128 k121 (by intro h; simp at h))]; exact k128
  have k145 : G135 q6 = some (.inl (E.2.1 1, 2 * cap, .inl g6)) := by rw [eG135, zg_up_ne (Ne.symm ne_q6_a)]; exact k129
  have k146 : G135 q7 = some (.inl (E.2.1 1, 2 * cap, .inl g7)) := by rw [eG135, zg_up_ne (Ne.symm ne_q7_a)]; exact k130
  have k147 : G135 q8 = some (.inl (E.2.1 1, 2 * cap, .inl g8)) := by rw [eG135, zg_up_ne (Ne.symm ne_q8_a)]; exact k131
  have k148 : G135 q9 = some (.inl (E.2.1 1, 2 * cap, .inl g9)) := by rw [eG135, zg_up_ne (Ne.symm ne_q9_a)]; exact k132
  have k149 : G135 q10 = some (.inl (E.2.1 1, 2 * cap, .inl g10)) := by rw [eG135, zg_up_ne (Ne.symm ne_q10_a)]; exact k133
  have k150 : G135 q11 = some (.inl (E.2.1 5, 2 * cap, .inr (.inr (.inr (.inr g11))))) := by rw [eG135, zg_up_ne (Ne.symm ne_q11_a)]; exact hq11
  have ra11 : ∀ x ∈ [q11, q10, q9, q8, q7, q6], ∃ c, G135 x = some c := by rw [eG135]; exact rall_up ra110
  refine lv_aload_n hx hb d_Mo_grow_66 rfl (lv_at hl 0 rfl) ?_
  refine lv_aload_n hx hb d_Mo_grow_67 rfl (lv_at hl 0 rfl) ?_
  refine zg_get (ci := 11) (C := "ZoneAnswersModel") (T := T_Mo) (N := 21) hx hb hts zi_Mo hown hK hG k137 rfl 12 (by decide) (hts _ w_1293) (fun _ h9 => h9) rfl d_Mo_grow_68 ?_
  have hGo71 := hG
  refine zk_q (va_runS (As := [.ref m12]) (rest := [.ref a]) ⟨hx, hb, hml, hown, hts⟩ (t_Mo_twice_2 l E G135 m12 cap f12 k144 hcap (fun j v hv => by obtain ⟨nx, fx, hq⟩ := hr12 j v hv; exact ⟨nx, fx, hx136 _ _ (fun z => by rw [z, ha] at hq; cases hq) hq⟩)) (zcS 1 hts w_1490 w_1491 w_30 w_1492 (by decide +kernel) ⟨Nat.le_of_ble_eq_true rfl, Nat.le_of_ble_eq_true rfl⟩) (zc_pre hbase hK hN hQ hG hS) rfl rfl hl.1 rfl (lv_room (Nat.le_of_ble_eq_true rfl)) d_Mo_grow_71 ⟨(by dsimp only; omega), (by dsimp only; omega)⟩) hS (fun r71 G71 H locs hp71 hG hS => ?_)
  obtain ⟨q12, g12, er71, nq12, hx71, hq12, hf12⟩ := hp71
  have nd12 : [q12, q11, q10, q9, q8, q7, q6].Nodup := rnd nd11 ra11 nq12
  have ra120 : ∀ x ∈ [q12, q11, q10, q9, q8, q7, q6], ∃ c, G71 x = some c := rall ra11 hx71 hq12
  have nf12 : G q12 = none := zx.no1 hx136 k137 nq12
  refine zr_some (a := q12) er71 ?_
  have k151 : G71 a = some (.inr (11, [.int th, .ref m1, .int tn, .ref m3, .ref m4, .int m5, .ref q6, .ref q7, .ref q8, .ref q9, .ref q10, .ref q11, .ref m12, .int m13, .int m14, .ref m15, .int m16, .int m17, .ref m18, m19, m20])) := hx71.o k137
  have ne_q12_a : a ≠ q12 := zg_fr nq12 k137
  have k152 : G71 m6 = some (.inl (E.2.1 1, cap, .inl f6)) := hx71.o k138
  have ne_q12_m6 : m6 ≠ q12 := zg_fr nq12 k138
  have k153 : G71 m7 = some (.inl (E.2.1 1, cap, .inl f7)) := hx71.o k139
  have ne_q12_m7 : m7 ≠ q12 := zg_fr nq12 k139
  have k154 : G71 m8 = some (.inl (E.2.1 1, cap, .inl f8)) := hx71.o k140
  have ne_q12_m8 : m8 ≠ q12 := zg_fr nq12 k140
  have k155 : G71 m9 = some (.inl (E.2.1 1, cap, .inl f9)) := hx71.o k141
  have ne_q12_m9 : m9 ≠ q12 := zg_fr nq12 k141
  have k156 : G71 m10 = some (.inl (E.2.1 1, cap, .inl f10)) := hx71.o k142
  have ne_q12_m10 : m10 ≠ q12 := zg_fr nq12 k142
  have k157 : G71 m11 = some (.inl (E.2.1 5, cap, .inr (.inr (.inr (.inr f11))))) := hx71.o k143
  have ne_q12_m11 : m11 ≠ q12 := zg_fr nq12 k143
  have k158 : G71 m12 = some (.inl (E.2.1 5, cap, .inr (.inr (.inr (.inr f12))))) := hx71.o k144
  have ne_q12_m12 : m12 ≠ q12 := zg_fr nq12 k144
  have k159 : G71 q6 = some (.inl (E.2.1 1, 2 * cap, .inl g6)) := hx71.o k145
  have ne_q12_q6 : q6 ≠ q12 := zg_fr nq12 k145
  have k160 : G71 q7 = some (.inl (E.2.1 1, 2 * cap, .inl g7)) := hx71.o k146
  have ne_q12_q7 : q7 ≠ q12 := zg_fr nq12 k146
  have k161 : G71 q8 = some (.inl (E.2.1 1, 2 * cap, .inl g8)) := hx71.o k147
  have ne_q12_q8 : q8 ≠ q12 := zg_fr nq12 k147
  have k162 : G71 q9 = some (.inl (E.2.1 1, 2 * cap, .inl g9)) := hx71.o k148
  have ne_q12_q9 : q9 ≠ q12 := zg_fr nq12 k148
  have k163 : G71 q10 = some (.inl (E.2.1 1, 2 * cap, .inl g10)) := hx71.o k149
  have ne_q12_q10 : q10 ≠ q12 := zg_fr nq12 k149
  have k164 : G71 q11 = some (.inl (E.2.1 5, 2 * cap, .inr (.inr (.inr (.inr g11))))) := hx71.o k150
  have ne_q12_q11 : q11 ≠ q12 := zg_fr nq12 k150
  have hx165 : zx (fun q => q = a) G G71 := hx136.tr (hx71.w (fun _ z => z.elim))
  refine zg_put (ci := 11) (v := .ref q12) (ty := .array (.array .byte)) (C := "ZoneAnswersModel") (T := T_Mo) (N := 21) hx hb hts zi_Mo t_Mo t_Mo_ok n_Mo hown hK hG hS k151 rfl 12 (by decide) (hts _ w_1293) (fun _ h9 => h9) rfl (by decide +kernel) rfl rfl (Nat.le_of_ble_eq_true rfl) d_Mo_grow_74 (fun H locs hG hS => ?_)
  obtain ⟨G166, eG166⟩ : ∃ z : zg_G, z = zg_up G71 a (.inr (11, [.int th, .ref m1, .int tn, .ref m3, .ref m4, .int m5, .ref q6, .ref q7, .ref q8, .ref q9, .ref q10, .ref q11, .ref q12, .int m13, .int m14, .ref m15, .int m16, .int m17, .ref m18, m19, m20])) := ⟨_, rfl⟩
  have hG : zP E G166 H := by rw [eG166]; exact hG
  have hx167 : zx (fun q => q = a) G G166 := hx165.tr (by rw [eG166]; exact zx.up (rfl))
  have k168 : G166 a = some (.inr (11, [.int th, .ref m1, .int tn, .ref m3, .ref m4, .int m5, .ref q6, .ref q7, .ref q8, .ref q9, .ref q10, .ref q11, .ref q12, .int m13, .int m14, .ref m15, .int m16, .int m17, .ref m18, m19, m20])) := by rw [eG166]; exact zg_up_self _ _ _
  have k169 : G166 m6 = some (.inl (E.2.1 1, cap, .inl f6)) := by rw [eG166, zg_up_ne (zg_ne k152 k151 (by intro h; simp at h))]; exact k152
  have k170 : G166 m7 = some (.inl (E.2.1 1, cap, .inl f7)) := by rw [eG166, zg_up_ne (zg_ne k153 k151 (by intro h; simp at h))]; exact k153
  have k171 : G166 m8 = some (.inl (E.2.1 1, cap, .inl f8)) := by rw [eG166, zg_up_ne (zg_ne k154 k151 (by intro h; simp at h))]; exact k154
  have k172 : G166 m9 = some (.inl (E.2.1 1, cap, .inl f9)) := by rw [eG166, zg_up_ne (zg_ne k155 k151 (by intro h; simp at h))]; exact k155
  have k173 : G166 m10 = some (.inl (E.2.1 1, cap, .inl f10)) := by rw [eG166, zg_up_ne (zg_ne k156 k151 (by intro h; simp at h))]; exact k156
  have k174 : G166 m11 = some (.inl (E.2.1 5, cap, .inr (.inr (.inr (.inr f11))))) := by rw [eG166, zg_up_ne (zg_ne k157 k151 (by intro h; simp at h))]; exact k157
  have k175 : G166 m12 = some (.inl (E.2.1 5, cap, .inr (.inr (.inr (.inr f12))))) := by rw [eG166, zg_up_ne (zg_ne k158 k151 (by intro h; simp at h))]; exact k158
  have k176 : G166 q6 = some (.inl (E.2.1 1, 2 * cap, .inl g6)) := by rw [eG166, zg_up_ne (Ne.symm ne_q6_a)]; exact k159
  have k177 : G166 q7 = some (.inl (E.2.1 1, 2 * cap, .inl g7)) := by rw [eG166, zg_up_ne (Ne.symm ne_q7_a)]; exact k160
  have k178 : G166 q8 = some (.inl (E.2.1 1, 2 * cap, .inl g8)) := by rw [eG166, zg_up_ne (Ne.symm ne_q8_a)]; exact k161
  have k179 : G166 q9 = some (.inl (E.2.1 1, 2 * cap, .inl g9)) := by rw [eG166, zg_up_ne (Ne.symm ne_q9_a)]; exact k162
  have k180 : G166 q10 = some (.inl (E.2.1 1, 2 * cap, .inl g10)) := by rw [eG166, zg_up_ne (Ne.symm ne_q10_a)]; exact k163
  have k181 : G166 q11 = some (.inl (E.2.1 5, 2 * cap, .inr (.inr (.inr (.inr g11))))) := by rw [eG166, zg_up_ne (Ne.symm ne_q11_a)]; exact k164
  have k182 : G166 q12 = some (.inl (E.2.1 5, 2 * cap, .inr (.inr (.inr (.inr g12))))) := by rw [eG166, zg_up_ne (Ne.symm ne_q12_a)]; exact hq12
  have ra12 : ∀ x ∈ [q12, q11, q10, q9, q8, q7, q6], ∃ c, G166 x = some c := by rw [eG166]; exact rall_up ra120
  exact hret _ _ _ _ _ _ _ (⟨q6, q7, q8, q9, q10, q11, q12, g6, g7, g8, g9, g10, g11, g12, hx167, nd12, ⟨nf6, nf7, nf8, nf9, nf10, nf11, nf12⟩, k168, ⟨k176, k177, k178, k179, k180, k181, k182⟩, hf6, hf7, hf8, hf9, hf10, hf11, hf12⟩) hG hS (by dsimp only; omega) (by dsimp only; omega) d_Mo_grow_77
