/-- a number's four bytes -/
def zby (x : Int32) : List Int32 := [(x >>> (24 &&& 31)).toInt8.toInt32, (x >>> (16 &&& 31)).toInt8.toInt32, (x >>> (8 &&& 31)).toInt8.toInt32, x.toInt8.toInt32]
theorem zby_len (x : Int32) : (zby x).length = 4 := rfl
/-- the class's tape at a, its bytes at b -/
def zTp (E : zc_E) (G : zg_G) (a b : Nat) (tp : List Int32) : Prop := G a = some (.inr (7, [.ref b, .int (nI tp.length)])) ∧ ∃ (n : Nat) (f : Nat → Int32), G b = some (.inl (E.2.1 0, n, .inl f)) ∧ tp.length ≤ n ∧ 256 ≤ n ∧ n ≤ 131072 ∧ (∀ j, j < tp.length → f j = tp.getD j 0) ∧ sb_Fit f
theorem zw4_tp {f : Nat → Int32} {tp : List Int32} {x : Int32} (h : ∀ j, j < tp.length → f j = tp.getD j 0) : ∀ j, j < (tp ++ zby x).length → zw4 f tp.length x j = (tp ++ zby x).getD j 0 := by
  intro j hj
  rw [List.length_append, zby_len] at hj
  unfold zw4 upd
  rw [List.getD_eq_getElem?_getD]
  by_cases h0 : j < tp.length
  · rw [if_neg (by omega), if_neg (by omega), if_neg (by omega), if_neg (by omega), h j h0, List.getElem?_append_left h0, List.getD_eq_getElem?_getD]
  · rw [List.getElem?_append_right (by omega)]
    rcases (show j = tp.length ∨ j = tp.length + 1 ∨ j = tp.length + 2 ∨ j = tp.length + 3 by omega) with rfl | rfl | rfl | rfl
    · rw [if_neg (by omega), if_neg (by omega), if_neg (by omega), if_pos rfl, pk_vb]; simp [zby]
    · rw [if_neg (by omega), if_neg (by omega), if_pos rfl, pk_vb, show tp.length + 1 - tp.length = 1 by omega]; rfl
    · rw [if_neg (by omega), if_pos rfl, pk_vb, show tp.length + 2 - tp.length = 2 by omega]; rfl
    · rw [if_pos rfl, pk_vb, show tp.length + 3 - tp.length = 3 by omega]; rfl
theorem zw4_fit {f : Nat → Int32} {k : Nat} {x : Int32} (h : sb_Fit f) : sb_Fit (zw4 f k x) := zf_fitu (zf_fitu (zf_fitu (zf_fitu h)))
theorem zx.go {G G1 G2 : zg_G} {a b b1 : Nat} (h1 : zx (fun q => q = a ∨ q = b) G G1) (hb : b1 = b ∨ G b1 = none) (h2 : zx (fun q => q = a ∨ q = b1) G1 G2) : zx (fun q => q = a ∨ q = b) G G2 := by
  intro q x hq hg
  refine h2 q x ?_ (h1 q x hq hg)
  rintro (z | z)
  · exact hq (Or.inl z)
  · rcases hb with e | e
    · exact hq (Or.inr (z.trans e))
    · rw [z, e] at hg; cases hg
theorem zx.bb {G G1 : zg_G} {a b b1 b2 : Nat} {x : va_E} (h1 : zx (fun q => q = a ∨ q = b) G G1) (hb : b1 = b ∨ G b1 = none) (ha : G1 a = some x) (h2 : b2 = b1 ∨ G1 b2 = none) : b2 = b ∨ G b2 = none := by
  rcases h2 with e | e
  · rw [e]; exact hb
  · exact zL.d3 (Or.inr e) h1 ha
theorem pk_mul_lit {n : Nat} : nI n * 2 = nI (n * 2) := pk_mul n 2
theorem w_1 : (.initialized "ZoneAnswers" : Cond) ∈ zw := zw_at 1 (by decide +kernel) (by decide +kernel)
theorem w_2 : (.initialized "ZoneAnswers$Tape" : Cond) ∈ zw := zw_at 2 (by decide +kernel) (by decide +kernel)
theorem w_26 : (.initialized "java/lang/IllegalArgumentException" : Cond) ∈ zw := zw_at 26 (by decide +kernel) (by decide +kernel)
theorem w_338 : (.static ⟨"java/util/Arrays", "copyOf", "([BI)[B"⟩ : Cond) ∈ zw := zw_at 338 (by decide +kernel) (by decide +kernel)
theorem w_339 : (.code ⟨"java/util/Arrays", "copyOf", "([BI)[B"⟩ prog_36_method_121_code 3 (some (.array .byte)) : Cond) ∈ zw := zw_at 339 (by decide +kernel) (by decide +kernel)
theorem w_488 : (.instantiable "java/lang/IllegalArgumentException" 6 : Cond) ∈ zw := zw_at 488 (by decide +kernel) (by decide +kernel)
theorem w_664 : (.static ⟨"ZoneAnswers", "writeNumber", "([BII)V"⟩ : Cond) ∈ zw := zw_at 664 (by decide +kernel) (by decide +kernel)
theorem w_665 : (.code ⟨"ZoneAnswers", "writeNumber", "([BII)V"⟩ prog_1_method_21_code 3 none : Cond) ∈ zw := zw_at 665 (by decide +kernel) (by decide +kernel)
theorem w_703 : (.fieldLink "ZoneAnswers" 10 "ZoneAnswers" "tape" "LZoneAnswers$Tape;" : Cond) ∈ zw := zw_at 703 (by decide +kernel) (by decide +kernel)
theorem w_729 : (.methodLink "ZoneAnswers" 52 ⟨"ZoneAnswers$Tape", "length", "()I"⟩ : Cond) ∈ zw := zw_at 729 (by decide +kernel) (by decide +kernel)
theorem w_730 : (.instanceMethod ⟨"ZoneAnswers$Tape", "length", "()I"⟩ : Cond) ∈ zw := zw_at 730 (by decide +kernel) (by decide +kernel)
theorem w_731 : (.selects "ZoneAnswers$Tape" ⟨"ZoneAnswers$Tape", "length", "()I"⟩ ⟨"ZoneAnswers$Tape", "length", "()I"⟩ : Cond) ∈ zw := zw_at 731 (by decide +kernel) (by decide +kernel)
theorem w_732 : (.code ⟨"ZoneAnswers$Tape", "length", "()I"⟩ prog_8_method_2_code 1 (some .int) : Cond) ∈ zw := zw_at 732 (by decide +kernel) (by decide +kernel)
theorem w_803 : (.methodLink "ZoneAnswers$Tape" 20 ⟨"java/util/Arrays", "copyOf", "([BI)[B"⟩ : Cond) ∈ zw := zw_at 803 (by decide +kernel) (by decide +kernel)
theorem w_813 : (.classLink "ZoneAnswers" 56 "java/lang/IllegalArgumentException" : Cond) ∈ zw := zw_at 813 (by decide +kernel) (by decide +kernel)
theorem w_818 : (.methodLink "ZoneAnswers" 59 ⟨"ZoneAnswers$Tape", "cutTo", "(I)V"⟩ : Cond) ∈ zw := zw_at 818 (by decide +kernel) (by decide +kernel)
theorem w_819 : (.instanceMethod ⟨"ZoneAnswers$Tape", "cutTo", "(I)V"⟩ : Cond) ∈ zw := zw_at 819 (by decide +kernel) (by decide +kernel)
theorem w_820 : (.selects "ZoneAnswers$Tape" ⟨"ZoneAnswers$Tape", "cutTo", "(I)V"⟩ ⟨"ZoneAnswers$Tape", "cutTo", "(I)V"⟩ : Cond) ∈ zw := zw_at 820 (by decide +kernel) (by decide +kernel)
theorem w_821 : (.code ⟨"ZoneAnswers$Tape", "cutTo", "(I)V"⟩ prog_8_method_5_code 2 none : Cond) ∈ zw := zw_at 821 (by decide +kernel) (by decide +kernel)
abbrev c_Ta_append : ByteArray := prog_8_method_4_code
abbrev y_Ta_append : MethodName := ⟨"ZoneAnswers$Tape", "append", "(I)V"⟩
theorem d_Ta_append_0 : decode c_Ta_append 0 = .ok (.aload_n 0, 1) := by decide +kernel
theorem d_Ta_append_1 : decode c_Ta_append 1 = .ok (.getfield 11, 3) := by decide +kernel
theorem d_Ta_append_4 : decode c_Ta_append 4 = .ok (.arraylength, 1) := by decide +kernel
theorem d_Ta_append_5 : decode c_Ta_append 5 = .ok (.aload_n 0, 1) := by decide +kernel
theorem d_Ta_append_6 : decode c_Ta_append 6 = .ok (.getfield 15, 3) := by decide +kernel
theorem d_Ta_append_9 : decode c_Ta_append 9 = .ok (.isub, 1) := by decide +kernel
theorem d_Ta_append_10 : decode c_Ta_append 10 = .ok (.iconst 4, 1) := by decide +kernel
theorem d_Ta_append_11 : decode c_Ta_append 11 = .ok (.if_icmp .ge 21, 3) := by decide +kernel
theorem d_Ta_append_14 : decode c_Ta_append 14 = .ok (.aload_n 0, 1) := by decide +kernel
theorem d_Ta_append_15 : decode c_Ta_append 15 = .ok (.aload_n 0, 1) := by decide +kernel
theorem d_Ta_append_16 : decode c_Ta_append 16 = .ok (.getfield 11, 3) := by decide +kernel
theorem d_Ta_append_19 : decode c_Ta_append 19 = .ok (.aload_n 0, 1) := by decide +kernel
theorem d_Ta_append_20 : decode c_Ta_append 20 = .ok (.getfield 11, 3) := by decide +kernel
theorem d_Ta_append_23 : decode c_Ta_append 23 = .ok (.arraylength, 1) := by decide +kernel
theorem d_Ta_append_24 : decode c_Ta_append 24 = .ok (.iconst 2, 1) := by decide +kernel
theorem d_Ta_append_25 : decode c_Ta_append 25 = .ok (.imul, 1) := by decide +kernel
theorem d_Ta_append_26 : decode c_Ta_append 26 = .ok (.invokestatic 20, 3) := by decide +kernel
theorem d_Ta_append_29 : decode c_Ta_append 29 = .ok (.putfield 11, 3) := by decide +kernel
theorem d_Ta_append_32 : decode c_Ta_append 32 = .ok (.aload_n 0, 1) := by decide +kernel
theorem d_Ta_append_33 : decode c_Ta_append 33 = .ok (.getfield 11, 3) := by decide +kernel
theorem d_Ta_append_36 : decode c_Ta_append 36 = .ok (.aload_n 0, 1) := by decide +kernel
theorem d_Ta_append_37 : decode c_Ta_append 37 = .ok (.getfield 15, 3) := by decide +kernel
theorem d_Ta_append_40 : decode c_Ta_append 40 = .ok (.iload_n 1, 1) := by decide +kernel
theorem d_Ta_append_41 : decode c_Ta_append 41 = .ok (.invokestatic 26, 3) := by decide +kernel
theorem d_Ta_append_44 : decode c_Ta_append 44 = .ok (.aload_n 0, 1) := by decide +kernel
theorem d_Ta_append_45 : decode c_Ta_append 45 = .ok (.dup, 1) := by decide +kernel
theorem d_Ta_append_46 : decode c_Ta_append 46 = .ok (.getfield 15, 3) := by decide +kernel
theorem d_Ta_append_49 : decode c_Ta_append 49 = .ok (.iconst 4, 1) := by decide +kernel
theorem d_Ta_append_50 : decode c_Ta_append 50 = .ok (.iadd, 1) := by decide +kernel
theorem d_Ta_append_51 : decode c_Ta_append 51 = .ok (.putfield 15, 3) := by decide +kernel
theorem d_Ta_append_54 : decode c_Ta_append 54 = .ok (.return_, 1) := by decide +kernel
abbrev c_ZA_end : ByteArray := prog_1_method_3_code
abbrev y_ZA_end : MethodName := ⟨"ZoneAnswers", "end", "(I)I"⟩
theorem d_ZA_end_0 : decode c_ZA_end 0 = .ok (.iload_n 1, 1) := by decide +kernel
theorem d_ZA_end_1 : decode c_ZA_end 1 = .ok (.ifCond .lt 14, 3) := by decide +kernel
theorem d_ZA_end_4 : decode c_ZA_end 4 = .ok (.iload_n 1, 1) := by decide +kernel
theorem d_ZA_end_5 : decode c_ZA_end 5 = .ok (.aload_n 0, 1) := by decide +kernel
theorem d_ZA_end_6 : decode c_ZA_end 6 = .ok (.getfield 10, 3) := by decide +kernel
theorem d_ZA_end_9 : decode c_ZA_end 9 = .ok (.invokevirtual 52, 3) := by decide +kernel
theorem d_ZA_end_12 : decode c_ZA_end 12 = .ok (.if_icmp .le 11, 3) := by decide +kernel
theorem d_ZA_end_15 : decode c_ZA_end 15 = .ok (.new 56, 3) := by decide +kernel
theorem d_ZA_end_18 : decode c_ZA_end 18 = .ok (.dup, 1) := by decide +kernel
theorem d_ZA_end_19 : decode c_ZA_end 19 = .ok (.invokespecial 58, 3) := by decide +kernel
theorem d_ZA_end_22 : decode c_ZA_end 22 = .ok (.athrow, 1) := by decide +kernel
theorem d_ZA_end_23 : decode c_ZA_end 23 = .ok (.aload_n 0, 1) := by decide +kernel
theorem d_ZA_end_24 : decode c_ZA_end 24 = .ok (.getfield 10, 3) := by decide +kernel
theorem d_ZA_end_27 : decode c_ZA_end 27 = .ok (.iload_n 1, 1) := by decide +kernel
theorem d_ZA_end_28 : decode c_ZA_end 28 = .ok (.invokevirtual 59, 3) := by decide +kernel
theorem d_ZA_end_31 : decode c_ZA_end 31 = .ok (.iload_n 1, 1) := by decide +kernel
theorem d_ZA_end_32 : decode c_ZA_end 32 = .ok (.ireturn, 1) := by decide +kernel
abbrev rm_Ta_append (B : Nat) : Room := { frames := 2, cells := 1, slots := B, locals := 70 }
set_option maxHeartbeats 4000000 in
set_option maxRecDepth 100000 in
/-- Tape.append(x) -/
theorem t_Ta_append (l : Launch) (E : zc_E) (G : zg_G) (a b : Nat) (tp : List Int32) (hT : zTp E G a b tp) (x : Int32) (hlen : tp.length + 4 ≤ 65536) (B : Nat) (hB : 2 * tp.length + 8 ≤ B) : zMv l E y_Ta_append c_Ta_append 2 (rm_Ta_append B) [.ref a, .int x] G (fun (G2 : zg_G) => ∃ b2, zTp E G2 a b2 (tp ++ zby x) ∧ (b2 = b ∨ G b2 = none) ∧ zx (fun q => q = a ∨ q = b) G G2) := by
  refine zMv.of (by decide) (Nat.le_of_ble_eq_true rfl) ?_
  intro p e s m args below meth c Q hZ hG hret ls hl
  obtain ⟨hx, hb, hr, hts, hown, hlocks, hml, hnm, hbase, hK, hN, hQ⟩ := hZ
  have hl : lv_has ls 2 [(0, .ref a), (1, .int x)] := hl
  have hS : zg_S (zc_b E) s.heap s.heap [] := va_S.rf
  obtain ⟨ha, n, f, hb0, hn1, hn2, hn3, hf, hft⟩ := id hT
  have hne : a ≠ b := zg_ne ha hb0 (by intro h; cases h)
  have hx0 : zx (fun q => q = a ∨ q = b) G G := zx.rf
  refine lv_aload_n hx hb d_Ta_append_0 rfl (lv_at hl 0 rfl) ?_
  refine zg_get (ci := 7) (C := "ZoneAnswers$Tape") (T := T_Ta) (N := 2) hx hb hts zi_Ta hown hK hG ha rfl 0 (by decide) (hts _ w_51) (fun _ h9 => h9) rfl d_Ta_append_1 ?_
  refine zg_alen hx hb hK hG 0 hb0 rfl (v := nI n) rfl d_Ta_append_4 ?_
  refine lv_aload_n hx hb d_Ta_append_5 rfl (lv_at hl 0 rfl) ?_
  refine zg_get (ci := 7) (C := "ZoneAnswers$Tape") (T := T_Ta) (N := 2) hx hb hts zi_Ta hown hK hG ha rfl 1 (by decide) (hts _ w_52) (fun _ h9 => h9) rfl d_Ta_append_6 ?_
  refine lv_isub hx hb d_Ta_append_9 ?_
  refine zi_as (y := nI (n - tp.length)) (zi_sub (a := n) (b := tp.length) (by omega)) ?_
  refine lv_iconst (v := 4) hx hb d_Ta_append_10 (by decide) ?_
  refine lv_icmp_ge (tgt := 32) hx hb d_Ta_append_11 (by decide) (fun c11 => ?_) (fun c11 => ?_)
  · have b11 : 4 ≤ (n - tp.length) := (nI_leI (a := 4) (b := (n - tp.length)) (by omega) (by omega)).mp c11
    refine lv_aload_n hx hb d_Ta_append_32 rfl (lv_at hl 0 rfl) ?_
    refine zg_get (ci := 7) (C := "ZoneAnswers$Tape") (T := T_Ta) (N := 2) hx hb hts zi_Ta hown hK hG ha rfl 0 (by decide) (hts _ w_51) (fun _ h9 => h9) rfl d_Ta_append_33 ?_
    refine lv_aload_n hx hb d_Ta_append_36 rfl (lv_at hl 0 rfl) ?_
    refine zg_get (ci := 7) (C := "ZoneAnswers$Tape") (T := T_Ta) (N := 2) hx hb hts zi_Ta hown hK hG ha rfl 1 (by decide) (hts _ w_52) (fun _ h9 => h9) rfl d_Ta_append_37 ?_
    refine lv_iload_n hx hb d_Ta_append_40 rfl (lv_at hl 1 rfl) ?_
    have hGo41 := hG
    refine zk_v (va_runSN (As := [.ref b, .int (nI tp.length), .int x]) (rest := []) ⟨hx, hb, hml, hown, hts⟩ (t_ZA_writeNumber l E G b n f hb0 hft (by omega) tp.length (by omega) x) ⟨va_cnB 3 hts (zw_good w_665) rfl rfl rfl (zN.at hN (w := .methodLinkNest "ZoneAnswers$Tape" 26 ⟨"ZoneAnswers", "writeNumber", "([BII)V"⟩ "ZoneAnswers") (by decide +kernel)) (hts _ w_1) (by decide +kernel) ⟨Nat.le_of_ble_eq_true rfl, Nat.le_of_ble_eq_true rfl⟩, hts _ w_664, trivial⟩ (zc_pre hbase hK hN hQ hG hS) rfl rfl hl.1 rfl (lv_room (Nat.le_of_ble_eq_true rfl)) d_Ta_append_41 ⟨(by dsimp only; omega), (by dsimp only; omega)⟩) hS (fun G41 H locs hp41 hG hS => ?_)
    have hx1 : zx (fun q => q = a ∨ q = b) G G41 := hx0.tr (by rw [hp41]; exact zx.up (Or.inr rfl))
    have k2 : G41 a = some (.inr (7, [.ref b, .int (nI tp.length)])) := by rw [hp41, zg_up_ne (hne)]; exact ha
    have k3 : G41 b = some (.inl (E.2.1 0, n, .inl (zw4 f tp.length x))) := by rw [hp41]; exact zg_up_self _ _ _
    refine lv_aload_n hx hb d_Ta_append_44 rfl (lv_at hl 0 rfl) ?_
    refine lv_dup hx hb d_Ta_append_45 rfl ?_
    refine zg_get (ci := 7) (C := "ZoneAnswers$Tape") (T := T_Ta) (N := 2) hx hb hts zi_Ta hown hK hG k2 rfl 1 (by decide) (hts _ w_52) (fun _ h9 => h9) rfl d_Ta_append_46 ?_
    refine lv_iconst (v := 4) hx hb d_Ta_append_49 (by decide) ?_
    refine lv_iadd hx hb d_Ta_append_50 ?_
    refine zi_as (y := nI (tp.length + 4)) (nI_add tp.length 4) ?_
    refine zg_put (ci := 7) (v := .int (nI (tp.length + 4))) (ty := .int) (C := "ZoneAnswers$Tape") (T := T_Ta) (N := 2) hx hb hts zi_Ta t_Ta t_Ta_ok n_Ta hown hK hG hS k2 rfl 1 (by decide) (hts _ w_52) (fun _ h9 => h9) rfl (by decide +kernel) rfl rfl (Nat.le_of_ble_eq_true rfl) d_Ta_append_51 (fun H locs hG hS => ?_)
    obtain ⟨G4, eG4⟩ : ∃ z : zg_G, z = zg_up G41 a (.inr (7, [.ref b, .int (nI (tp.length + 4))])) := ⟨_, rfl⟩
    have hG : zP E G4 H := by rw [eG4]; exact hG
    have hx5 : zx (fun q => q = a ∨ q = b) G G4 := hx1.tr (by rw [eG4]; exact zx.up (Or.inl rfl))
    have k6 : G4 a = some (.inr (7, [.ref b, .int (nI (tp.length + 4))])) := by rw [eG4]; exact zg_up_self _ _ _
    have k7 : G4 b = some (.inl (E.2.1 0, n, .inl (zw4 f tp.length x))) := by rw [eG4, zg_up_ne (Ne.symm hne)]; exact k3
    exact hret _ _ _ _ _ _ _ (⟨b, ⟨by rw [List.length_append]; exact k6, n, _, k7, by rw [List.length_append, zby_len]; omega, by omega, by omega, zw4_tp hf, zw4_fit hft⟩, Or.inl rfl, hx5⟩) hG hS (by dsimp only; omega) (by dsimp only; omega) d_Ta_append_54
  · have b11 : ¬ 4 ≤ (n - tp.length) := fun q => c11 ((nI_leI (a := 4) (b := (n - tp.length)) (by omega) (by omega)).mpr q)
    refine lv_aload_n hx hb d_Ta_append_14 rfl (lv_at hl 0 rfl) ?_
    refine lv_aload_n hx hb d_Ta_append_15 rfl (lv_at hl 0 rfl) ?_
    refine zg_get (ci := 7) (C := "ZoneAnswers$Tape") (T := T_Ta) (N := 2) hx hb hts zi_Ta hown hK hG ha rfl 0 (by decide) (hts _ w_51) (fun _ h9 => h9) rfl d_Ta_append_16 ?_
    refine lv_aload_n hx hb d_Ta_append_19 rfl (lv_at hl 0 rfl) ?_
    refine zg_get (ci := 7) (C := "ZoneAnswers$Tape") (T := T_Ta) (N := 2) hx hb hts zi_Ta hown hK hG ha rfl 0 (by decide) (hts _ w_51) (fun _ h9 => h9) rfl d_Ta_append_20 ?_
    refine zg_alen hx hb hK hG 0 hb0 rfl (v := nI n) rfl d_Ta_append_23 ?_
    refine lv_iconst (v := 2) hx hb d_Ta_append_24 (by decide) ?_
    refine lv_imul hx hb d_Ta_append_25 ?_
    refine zi_as (y := nI (2 * n)) (by rw [pk_mul_lit]; congr 1; omega) ?_
    have hGo26 := hG
    refine zk_q (va_runS (As := [.ref b, .int (nI (2 * n))]) (rest := [.ref a]) ⟨hx, hb, hml, hown, hts⟩ (t_Ar_copyOf l E G b n f hb0 hft (by omega) (2 * n) (by omega) (by omega)) (zcS 2 hts w_803 w_338 w_22 w_339 (by decide +kernel) ⟨Nat.le_of_ble_eq_true rfl, Nat.le_of_ble_eq_true rfl⟩) (zc_pre hbase hK hN hQ hG hS) rfl rfl hl.1 rfl (lv_room (Nat.le_of_ble_eq_true rfl)) d_Ta_append_26 ⟨(by dsimp only; omega), (by dsimp only; omega)⟩) hS (fun r26 G26 H locs hp26 hG hS => ?_)
    obtain ⟨q26, f26, er26, nq26, hx26, hq26, hft26, hlo26, hhi26⟩ := hp26
    refine zr_some (a := q26) er26 ?_
    have k8 : G26 a = some (.inr (7, [.ref b, .int (nI tp.length)])) := hx26.o ha
    have ne_q26_a : a ≠ q26 := zg_fr nq26 ha
    have k9 : G26 b = some (.inl (E.2.1 0, n, .inl f)) := hx26.o hb0
    have ne_q26_b : b ≠ q26 := zg_fr nq26 hb0
    have hx10 : zx (fun q => q = a ∨ q = b) G G26 := hx0.tr (hx26.w (fun _ z => z.elim))
    refine zg_put (ci := 7) (v := .ref q26) (ty := .array .byte) (C := "ZoneAnswers$Tape") (T := T_Ta) (N := 2) hx hb hts zi_Ta t_Ta t_Ta_ok n_Ta hown hK hG hS k8 rfl 0 (by decide) (hts _ w_51) (fun _ h9 => h9) rfl (by decide +kernel) rfl rfl (Nat.le_of_ble_eq_true rfl) d_Ta_append_29 (fun H locs hG hS => ?_)
    obtain ⟨G11, eG11⟩ : ∃ z : zg_G, z = zg_up G26 a (.inr (7, [.ref q26, .int (nI tp.length)])) := ⟨_, rfl⟩
    have hG : zP E G11 H := by rw [eG11]; exact hG
    have hx12 : zx (fun q => q = a ∨ q = b) G G11 := hx10.tr (by rw [eG11]; exact zx.up (Or.inl rfl))
    have k13 : G11 a = some (.inr (7, [.ref q26, .int (nI tp.length)])) := by rw [eG11]; exact zg_up_self _ _ _
    have k14 : G11 b = some (.inl (E.2.1 0, n, .inl f)) := by rw [eG11, zg_up_ne (Ne.symm hne)]; exact k9
    have k15 : G11 q26 = some (.inl (E.2.1 0, 2 * n, .inl f26)) := by rw [eG11, zg_up_ne (Ne.symm ne_q26_a)]; exact hq26
    refine lv_aload_n hx hb d_Ta_append_32 rfl (lv_at hl 0 rfl) ?_
    refine zg_get (ci := 7) (C := "ZoneAnswers$Tape") (T := T_Ta) (N := 2) hx hb hts zi_Ta hown hK hG k13 rfl 0 (by decide) (hts _ w_51) (fun _ h9 => h9) rfl d_Ta_append_33 ?_
    refine lv_aload_n hx hb d_Ta_append_36 rfl (lv_at hl 0 rfl) ?_
    refine zg_get (ci := 7) (C := "ZoneAnswers$Tape") (T := T_Ta) (N := 2) hx hb hts zi_Ta hown hK hG k13 rfl 1 (by decide) (hts _ w_52) (fun _ h9 => h9) rfl d_Ta_append_37 ?_
    refine lv_iload_n hx hb d_Ta_append_40 rfl (lv_at hl 1 rfl) ?_
    have hGo41 := hG
    refine zk_v (va_runSN (As := [.ref q26, .int (nI tp.length), .int x]) (rest := []) ⟨hx, hb, hml, hown, hts⟩ (t_ZA_writeNumber l E G11 q26 (2 * n) f26 k15 hft26 (by omega) tp.length (by omega) x) ⟨va_cnB 3 hts (zw_good w_665) rfl rfl rfl (zN.at hN (w := .methodLinkNest "ZoneAnswers$Tape" 26 ⟨"ZoneAnswers", "writeNumber", "([BII)V"⟩ "ZoneAnswers") (by decide +kernel)) (hts _ w_1) (by decide +kernel) ⟨Nat.le_of_ble_eq_true rfl, Nat.le_of_ble_eq_true rfl⟩, hts _ w_664, trivial⟩ (zc_pre hbase hK hN hQ hG hS) rfl rfl hl.1 rfl (lv_room (Nat.le_of_ble_eq_true rfl)) d_Ta_append_41 ⟨(by dsimp only; omega), (by dsimp only; omega)⟩) hS (fun G41 H locs hp41 hG hS => ?_)
    have hx16 : zx (fun q => q = a ∨ q = b) G G41 := by rw [hp41]; exact hx12.upn nq26
    have k17 : G41 a = some (.inr (7, [.ref q26, .int (nI tp.length)])) := by rw [hp41, zg_up_ne (ne_q26_a)]; exact k13
    have k18 : G41 b = some (.inl (E.2.1 0, n, .inl f)) := by rw [hp41, zg_up_ne (ne_q26_b)]; exact k14
    have k19 : G41 q26 = some (.inl (E.2.1 0, 2 * n, .inl (zw4 f26 tp.length x))) := by rw [hp41]; exact zg_up_self _ _ _
    refine lv_aload_n hx hb d_Ta_append_44 rfl (lv_at hl 0 rfl) ?_
    refine lv_dup hx hb d_Ta_append_45 rfl ?_
    refine zg_get (ci := 7) (C := "ZoneAnswers$Tape") (T := T_Ta) (N := 2) hx hb hts zi_Ta hown hK hG k17 rfl 1 (by decide) (hts _ w_52) (fun _ h9 => h9) rfl d_Ta_append_46 ?_
    refine lv_iconst (v := 4) hx hb d_Ta_append_49 (by decide) ?_
    refine lv_iadd hx hb d_Ta_append_50 ?_
    refine zi_as (y := nI (tp.length + 4)) (nI_add tp.length 4) ?_
    refine zg_put (ci := 7) (v := .int (nI (tp.length + 4))) (ty := .int) (C := "ZoneAnswers$Tape") (T := T_Ta) (N := 2) hx hb hts zi_Ta t_Ta t_Ta_ok n_Ta hown hK hG hS k17 rfl 1 (by decide) (hts _ w_52) (fun _ h9 => h9) rfl (by decide +kernel) rfl rfl (Nat.le_of_ble_eq_true rfl) d_Ta_append_51 (fun H locs hG hS => ?_)
    obtain ⟨G20, eG20⟩ : ∃ z : zg_G, z = zg_up G41 a (.inr (7, [.ref q26, .int (nI (tp.length + 4))])) := ⟨_, rfl⟩
    have hG : zP E G20 H := by rw [eG20]; exact hG
    have hx21 : zx (fun q => q = a ∨ q = b) G G20 := hx16.tr (by rw [eG20]; exact zx.up (Or.inl rfl))
    have k22 : G20 a = some (.inr (7, [.ref q26, .int (nI (tp.length + 4))])) := by rw [eG20]; exact zg_up_self _ _ _
    have k23 : G20 b = some (.inl (E.2.1 0, n, .inl f)) := by rw [eG20, zg_up_ne (Ne.symm hne)]; exact k18
    have k24 : G20 q26 = some (.inl (E.2.1 0, 2 * n, .inl (zw4 f26 tp.length x))) := by rw [eG20, zg_up_ne (Ne.symm ne_q26_a)]; exact k19
    exact hret _ _ _ _ _ _ _ (⟨q26, ⟨by rw [List.length_append]; exact k22, 2 * n, _, k24, by rw [List.length_append, zby_len]; omega, by omega, by omega, zw4_tp (fun j hj => by rw [hlo26 j (by omega)]; exact hf j hj), zw4_fit hft26⟩, Or.inr nq26, hx21⟩) hG hS (by dsimp only; omega) (by dsimp only; omega) d_Ta_append_54
abbrev rm_ZA_end : Room := { frames := 6, cells := 1, slots := 6, locals := 100 }
set_option maxHeartbeats 4000000 in
set_option maxRecDepth 100000 in
/-- ZoneAnswers.end(k) -/
theorem t_ZA_end (l : Launch) (hoff : zl_off l) (E : zc_E) (G : zg_G) (xo ta zo an b : Nat) (tp : List Int32) (hX : G xo = some (.inr (10, [.ref ta, .ref zo, .ref an]))) (hT : zTp E G ta b tp) (hlen : tp.length ≤ 65536) (k : Int32) : zT l E y_ZA_end c_ZA_end 2 (some .int) rm_ZA_end [.ref xo, .int k] G (fun (v : Option Value) (G2 : zg_G) => v = some (.int k) ∧ ¬ k < 0 ∧ ¬ nI tp.length < k ∧ G2 = zg_up G ta (.inr (7, [.ref b, .int k]))) (fun cls => cls = "java/lang/IllegalArgumentException" ∧ (k < 0 ∨ nI tp.length < k)) := by
  refine zT.of (by decide) (Nat.le_of_ble_eq_true rfl) ?_
  intro p e s m args below meth c hZ hex hG ls hl
  obtain ⟨hx, hb, hr, hts, hown, hlocks, hml, hnm, hbase, hK, hN, hQ⟩ := hZ
  have hl : lv_has ls 2 [(0, .ref xo), (1, .int k)] := hl
  have hS : zg_S (zc_b E) s.heap s.heap [] := va_S.rf
  refine lv_iload_n hx hb d_ZA_end_0 rfl (lv_at hl 1 rfl) ?_
  refine lv_if_lt (tgt := 15) hx hb d_ZA_end_1 (by decide) (fun c1 => ?_) (fun c1 => ?_)
  · exact zt_row (names := zt_up) (ic := 58) hoff hx hb (hml.trans hl.1.symm) hown hts hQ hex hlocks (zt_words hts hN hQ zt_iae) (by decide) (by decide) w_813 w_488 w_26 (⟨rfl, by first | exact Or.inl c1 | exact Or.inr (Int32.not_le.mp c12)⟩) hG hS hbase (by decide) (by decide) (Nat.le_of_ble_eq_true rfl) (Nat.le_of_ble_eq_true rfl) d_ZA_end_15 d_ZA_end_18 d_ZA_end_19 d_ZA_end_22
  · refine lv_iload_n hx hb d_ZA_end_4 rfl (lv_at hl 1 rfl) ?_
    refine lv_aload_n hx hb d_ZA_end_5 rfl (lv_at hl 0 rfl) ?_
    refine zg_get (ci := 10) (C := "ZoneAnswers") (T := T_ZA) (N := 3) hx hb hts zi_ZA hown hK hG hX rfl 0 (by decide) (hts _ w_703) (fun _ h9 => h9) rfl d_ZA_end_6 ?_
    refine zk_i (va_runV (As := []) (rest := [.int k]) ⟨hx, hb, hml, hown, hts⟩ (t_Ta_length l E G ta b (nI tp.length) hT.1) (zcV 0 hts w_729 w_730 w_731 w_2 w_732 (by decide +kernel) ⟨Nat.le_of_ble_eq_true rfl, Nat.le_of_ble_eq_true rfl⟩) (zc_preV hbase hK hN hQ hG hS hT.1 rfl) rfl rfl hl.1 rfl (lv_room (Nat.le_of_ble_eq_true rfl)) d_ZA_end_9 ⟨(by decide), (by decide)⟩) hS (fun r9 G9 H locs hp9 hG hS => ?_)
    have hG : zP E G H := hp9.2 ▸ hG
    refine zi_as (y := nI tp.length) hp9.1 ?_
    refine lv_icmp_le (tgt := 23) hx hb d_ZA_end_12 (by decide) (fun c12 => ?_) (fun c12 => ?_)
    · refine lv_aload_n hx hb d_ZA_end_23 rfl (lv_at hl 0 rfl) ?_
      refine zg_get (ci := 10) (C := "ZoneAnswers") (T := T_ZA) (N := 3) hx hb hts zi_ZA hown hK hG hX rfl 0 (by decide) (hts _ w_703) (fun _ h9 => h9) rfl d_ZA_end_24 ?_
      refine lv_iload_n hx hb d_ZA_end_27 rfl (lv_at hl 1 rfl) ?_
      have hGo28 := hG
      refine zk_v (va_runV (As := [.int k]) (rest := []) ⟨hx, hb, hml, hown, hts⟩ (t_Ta_cutTo l E G ta b (nI tp.length) hT.1 k) (zcV 1 hts w_818 w_819 w_820 w_2 w_821 (by decide +kernel) ⟨Nat.le_of_ble_eq_true rfl, Nat.le_of_ble_eq_true rfl⟩) (zc_preV hbase hK hN hQ hG hS hT.1 rfl) rfl rfl hl.1 rfl (lv_room (Nat.le_of_ble_eq_true rfl)) d_ZA_end_28 ⟨(by decide), (by decide)⟩) hS (fun G28 H locs hp28 hG hS => ?_)
      have k1 : G28 xo = some (.inr (10, [.ref ta, .ref zo, .ref an])) := by rw [hp28, zg_up_ne (zg_ne hX hT.1 (by intro h; simp at h))]; exact hX
      have k2 : G28 ta = some (.inr (7, [.ref b, .int k])) := by rw [hp28]; exact zg_up_self _ _ _
      refine lv_iload_n hx hb d_ZA_end_31 rfl (lv_at hl 1 rfl) ?_
      exact zt_iret hx hb hr hlocks (rfl) (⟨rfl, c1, fun q => absurd c12 (Int32.not_le.mpr q), hp28⟩) hG hS (by decide) (by decide) d_ZA_end_32
    · exact zt_row (names := zt_up) (ic := 58) hoff hx hb (hml.trans hl.1.symm) hown hts hQ hex hlocks (zt_words hts hN hQ zt_iae) (by decide) (by decide) w_813 w_488 w_26 (⟨rfl, by first | exact Or.inl c1 | exact Or.inr (Int32.not_le.mp c12)⟩) hG hS hbase (by decide) (by decide) (Nat.le_of_ble_eq_true rfl) (Nat.le_of_ble_eq_true rfl) d_ZA_end_15 d_ZA_end_18 d_ZA_end_19 d_ZA_end_22
