/-- a name in lower case -/
def np_low (ls : np_N) : np_N := ls.map (fun l => l.map zlow)
theorem zlow_len {n : Nat} (h : n ≤ 63) : zlow (nI n) = nI n := by
  unfold zlow
  rw [if_neg]
  rintro ⟨q, -⟩
  have := (nI_leI (a := 65) (b := n) (by omega) (by omega)).mp q
  omega
theorem np_low_enc {ls : np_N} (h : np_ok ls) : np_enc (np_low ls) = (np_enc ls).map zlow := by
  induction ls with
  | nil => rfl
  | cons l r ih =>
    have hl := h l List.mem_cons_self
    show nI (l.map zlow).length :: (l.map zlow ++ np_enc (np_low r)) = (nI l.length :: (l ++ np_enc r)).map zlow
    rw [ih (fun x hx => h x (List.mem_cons_of_mem _ hx)), List.map_cons, List.map_append, List.length_map, zlow_len hl.2]
theorem np_low_len {ls : np_N} (h : np_ok ls) : np_len (np_low ls) = np_len ls := by
  rw [← np_enc_len, np_low_enc h, List.length_map, np_enc_len]
theorem np_low_g {ls : np_N} (h : np_g ls) : np_g (np_low ls) := by
  refine ⟨fun l hl => ?_, by rw [np_low_len h.1]; exact h.2⟩
  obtain ⟨x, hx, rfl⟩ := List.mem_map.mp hl
  have := h.1 x hx
  exact ⟨by rw [List.length_map]; exact this.1, by rw [List.length_map]; exact this.2⟩
theorem np_low_f {ls : np_N} {F f : Nat → Int32} (h : np_ok ls) (hF : np_f ls F) (hf : ∀ j, j < np_len ls → f j = zlow (F j)) : np_f (np_low ls) f := by
  intro j hj
  rw [np_low_len h] at hj
  have hj2 : j < (np_enc ls).length := by rw [np_enc_len]; exact hj
  rw [hf j hj, hF j hj, np_low_enc h, List.getD_eq_getElem?_getD, List.getD_eq_getElem?_getD, List.getElem?_map, List.getElem?_eq_getElem hj2]
  rfl
/-- a Name at q -/
def zNa (E : zc_E) (G : zg_G) (q : Nat) (ls : np_N) : Prop := ∃ b f, G q = some (.inr (3, [.ref b, .int (nI ls.length)])) ∧ G b = some (.inl (E.2.1 0, np_len ls, .inl f)) ∧ np_f ls f ∧ np_g ls ∧ sb_Fit f
theorem zTp.x {E : zc_E} {G G2 : zg_G} {a b : Nat} {tp : List Int32} (h : zTp E G a b tp) (hx : zx z0 G G2) : zTp E G2 a b tp := by
  obtain ⟨h1, n, f, h2, h3⟩ := h
  exact ⟨hx.o h1, n, f, hx.o h2, h3⟩
/-- the tape is a name and nothing else -/
def zTn (tp : List Int32) (ls : np_N) : Prop := zNm (fun j => tp.getD (0 + j) 0) (tp.length - 0) ls ∧ np_len ls = tp.length
theorem zE_len {tp : List Int32} {r : Int32} (h : zE (fun j => tp.getD (0 + j) 0) (tp.length - 0) 0 r) (hl : tp.length ≤ 65536) (e : r = nI tp.length) : ∃ ls, zTn tp ls := by
  rcases h with ⟨ls, q, q2⟩ | ⟨-, q⟩
  · have := q.1.2
    have z := (nI_eq (by omega) (by omega)).mp (q2.symm.trans e)
    exact ⟨ls, q, by omega⟩
  · rw [q] at e; exact absurd (show nI tp.length < 0 by rw [← e]; decide) (nI_pos (by omega))
theorem zE_no {tp : List Int32} {r : Int32} (h : zE (fun j => tp.getD (0 + j) 0) (tp.length - 0) 0 r) (hl : tp.length ≤ 65536) (e : r < 0 ∨ ¬ r = nI tp.length) : ¬ ∃ ls, zTn tp ls := by
  rintro ⟨ls2, z, z2⟩
  rcases h with ⟨ls, q, q2⟩ | ⟨q, -⟩
  · rw [zNm_un q z, Nat.zero_add, z2] at q2
    rcases e with e | e
    · rw [q2] at e; exact nI_pos (by omega) e
    · exact e q2
  · exact q ⟨ls2, z⟩
theorem w_107 : (.classLink "ZoneAnswers" 23 "ZoneAnswers$Name" : Cond) ∈ zw := zw_at 107 (by decide +kernel) (by decide +kernel)
theorem w_108 : (.instantiable "ZoneAnswers$Name" 2 : Cond) ∈ zw := zw_at 108 (by decide +kernel) (by decide +kernel)
theorem w_109 : (.methodLink "ZoneAnswers" 25 ⟨"ZoneAnswers$Name", "<init>", "([B)V"⟩ : Cond) ∈ zw := zw_at 109 (by decide +kernel) (by decide +kernel)
theorem w_110 : (.instanceMethod ⟨"ZoneAnswers$Name", "<init>", "([B)V"⟩ : Cond) ∈ zw := zw_at 110 (by decide +kernel) (by decide +kernel)
theorem w_111 : (.code ⟨"ZoneAnswers$Name", "<init>", "([B)V"⟩ prog_4_method_1_code 4 none : Cond) ∈ zw := zw_at 111 (by decide +kernel) (by decide +kernel)
theorem w_829 : (.methodLink "ZoneAnswers" 62 ⟨"ZoneAnswers$Tape", "nameEnd", "(I)I"⟩ : Cond) ∈ zw := zw_at 829 (by decide +kernel) (by decide +kernel)
theorem w_833 : (.methodLink "ZoneAnswers" 66 ⟨"ZoneAnswers$Tape", "lowered", "(II)[B"⟩ : Cond) ∈ zw := zw_at 833 (by decide +kernel) (by decide +kernel)
theorem w_834 : (.instanceMethod ⟨"ZoneAnswers$Tape", "lowered", "(II)[B"⟩ : Cond) ∈ zw := zw_at 834 (by decide +kernel) (by decide +kernel)
theorem w_835 : (.selects "ZoneAnswers$Tape" ⟨"ZoneAnswers$Tape", "lowered", "(II)[B"⟩ ⟨"ZoneAnswers$Tape", "lowered", "(II)[B"⟩ : Cond) ∈ zw := zw_at 835 (by decide +kernel) (by decide +kernel)
theorem w_836 : (.code ⟨"ZoneAnswers$Tape", "lowered", "(II)[B"⟩ prog_8_method_9_code 4 (some (.array .byte)) : Cond) ∈ zw := zw_at 836 (by decide +kernel) (by decide +kernel)
abbrev c_ZA_tapeName : ByteArray := prog_1_method_15_code
abbrev y_ZA_tapeName : MethodName := ⟨"ZoneAnswers", "tapeName", "()LZoneAnswers$Name;"⟩
theorem d_ZA_tapeName_0 : decode c_ZA_tapeName 0 = .ok (.aload_n 0, 1) := by decide +kernel
theorem d_ZA_tapeName_1 : decode c_ZA_tapeName 1 = .ok (.getfield 10, 3) := by decide +kernel
theorem d_ZA_tapeName_4 : decode c_ZA_tapeName 4 = .ok (.iconst 0, 1) := by decide +kernel
theorem d_ZA_tapeName_5 : decode c_ZA_tapeName 5 = .ok (.invokevirtual 62, 3) := by decide +kernel
theorem d_ZA_tapeName_8 : decode c_ZA_tapeName 8 = .ok (.istore_n 1, 1) := by decide +kernel
theorem d_ZA_tapeName_9 : decode c_ZA_tapeName 9 = .ok (.iload_n 1, 1) := by decide +kernel
theorem d_ZA_tapeName_10 : decode c_ZA_tapeName 10 = .ok (.ifCond .lt 33, 3) := by decide +kernel
theorem d_ZA_tapeName_13 : decode c_ZA_tapeName 13 = .ok (.iload_n 1, 1) := by decide +kernel
theorem d_ZA_tapeName_14 : decode c_ZA_tapeName 14 = .ok (.aload_n 0, 1) := by decide +kernel
theorem d_ZA_tapeName_15 : decode c_ZA_tapeName 15 = .ok (.getfield 10, 3) := by decide +kernel
theorem d_ZA_tapeName_18 : decode c_ZA_tapeName 18 = .ok (.invokevirtual 52, 3) := by decide +kernel
theorem d_ZA_tapeName_21 : decode c_ZA_tapeName 21 = .ok (.if_icmp .ne 22, 3) := by decide +kernel
theorem d_ZA_tapeName_24 : decode c_ZA_tapeName 24 = .ok (.new 23, 3) := by decide +kernel
theorem d_ZA_tapeName_27 : decode c_ZA_tapeName 27 = .ok (.dup, 1) := by decide +kernel
theorem d_ZA_tapeName_28 : decode c_ZA_tapeName 28 = .ok (.aload_n 0, 1) := by decide +kernel
theorem d_ZA_tapeName_29 : decode c_ZA_tapeName 29 = .ok (.getfield 10, 3) := by decide +kernel
theorem d_ZA_tapeName_32 : decode c_ZA_tapeName 32 = .ok (.iconst 0, 1) := by decide +kernel
theorem d_ZA_tapeName_33 : decode c_ZA_tapeName 33 = .ok (.iload_n 1, 1) := by decide +kernel
theorem d_ZA_tapeName_34 : decode c_ZA_tapeName 34 = .ok (.invokevirtual 66, 3) := by decide +kernel
theorem d_ZA_tapeName_37 : decode c_ZA_tapeName 37 = .ok (.invokespecial 25, 3) := by decide +kernel
theorem d_ZA_tapeName_40 : decode c_ZA_tapeName 40 = .ok (.goto 4, 3) := by decide +kernel
theorem d_ZA_tapeName_43 : decode c_ZA_tapeName 43 = .ok (.aconst_null, 1) := by decide +kernel
theorem d_ZA_tapeName_44 : decode c_ZA_tapeName 44 = .ok (.areturn, 1) := by decide +kernel
abbrev c_Da_length : ByteArray := prog_3_method_2_code
abbrev y_Da_length : MethodName := ⟨"ZoneAnswers$Datum", "length", "()I"⟩
theorem d_Da_length_0 : decode c_Da_length 0 = .ok (.aload_n 0, 1) := by decide +kernel
theorem d_Da_length_1 : decode c_Da_length 1 = .ok (.getfield 7, 3) := by decide +kernel
theorem d_Da_length_4 : decode c_Da_length 4 = .ok (.arraylength, 1) := by decide +kernel
theorem d_Da_length_5 : decode c_Da_length 5 = .ok (.ireturn, 1) := by decide +kernel
abbrev rm_ZA_tapeName (B : Nat) : Room := { frames := 4, cells := 2, slots := B, locals := 130 }
set_option maxHeartbeats 4000000 in
set_option maxRecDepth 100000 in
/-- tapeName() -/
theorem t_ZA_tapeName (l : Launch) (E : zc_E) (G : zg_G) (xo ta zo an b : Nat) (tp : List Int32) (hX : G xo = some (.inr (10, [.ref ta, .ref zo, .ref an]))) (hT : zTp E G ta b tp) (hlen : tp.length ≤ 65536) (B : Nat) (hB : tp.length + 2 ≤ B) : zMq l E y_ZA_tapeName c_ZA_tapeName 2 (some (.object "ZoneAnswers$Name")) (rm_ZA_tapeName B) [.ref xo] G (fun (r : Option Nat) (G2 : zg_G) => (∃ ls q, zTn tp ls ∧ r = some q ∧ G q = none ∧ zx z0 G G2 ∧ zNa E G2 q (np_low ls)) ∨ (r = none ∧ G2 = G ∧ ¬ ∃ ls, zTn tp ls)) := by
  refine zMq.of (by decide) (Nat.le_of_ble_eq_true rfl) ?_
  intro p e s m args below meth c Q hZ hG hret ls hl
  obtain ⟨hx, hb, hr, hts, hown, hlocks, hml, hnm, hbase, hK, hN, hQ⟩ := hZ
  have hl : lv_has ls 2 [(0, .ref xo)] := hl
  have hS : zg_S (zc_b E) s.heap s.heap [] := va_S.rf
  have hx0 : zx z0 G G := zx.rf
  refine lv_aload_n hx hb d_ZA_tapeName_0 rfl (lv_at hl 0 rfl) ?_
  refine zg_get (ci := 10) (C := "ZoneAnswers") (T := T_ZA) (N := 3) hx hb hts zi_ZA hown hK hG hX rfl 0 (by decide) (hts _ w_703) (fun _ h9 => h9) rfl d_ZA_tapeName_1 ?_
  refine lv_iconst (v := 0) hx hb d_ZA_tapeName_4 (by decide) ?_
  refine zi_as (y := nI 0) (nI_0.symm) ?_
  refine zk_i (va_runV (As := [.int (nI 0)]) (rest := []) ⟨hx, hb, hml, hown, hts⟩ (t_Ta_nameEnd l E G ta b tp hT hlen 0 (by omega)) (zcV 1 hts w_829 w_830 w_831 w_2 w_832 (by decide +kernel) ⟨Nat.le_of_ble_eq_true rfl, Nat.le_of_ble_eq_true rfl⟩) (zc_preV hbase hK hN hQ hG hS hT.1 rfl) rfl rfl hl.1 rfl (lv_room (Nat.le_of_ble_eq_true rfl)) d_ZA_tapeName_5 ⟨(by dsimp only; omega), (by dsimp only; omega)⟩) hS (fun r5 G5 H locs hp5 hG hS => ?_)
  have hG : zP E G H := hp5.2 ▸ hG
  refine lv_istore_n (lv' := [(1, .int r5), (0, .ref xo)]) hx hb d_ZA_tapeName_8 rfl hl (by decide) rfl (fun ls hl => ?_)
  refine lv_iload_n hx hb d_ZA_tapeName_9 rfl (lv_at hl 0 rfl) ?_
  refine lv_if_lt (tgt := 43) hx hb d_ZA_tapeName_10 (by decide) (fun c10 => ?_) (fun c10 => ?_)
  · refine lv_null hx hb d_ZA_tapeName_43 ?_
    exact hret none _ _ _ _ _ _ _ _ hr (Or.inl ⟨_, rfl⟩) (Or.inr ⟨rfl, rfl, zE_no hp5.1 hlen (by first | exact Or.inl c10 | exact Or.inr c21)⟩) hG hS (by dsimp only; omega) (by dsimp only; omega) d_ZA_tapeName_44
  · refine lv_iload_n hx hb d_ZA_tapeName_13 rfl (lv_at hl 0 rfl) ?_
    refine lv_aload_n hx hb d_ZA_tapeName_14 rfl (lv_at hl 1 rfl) ?_
    refine zg_get (ci := 10) (C := "ZoneAnswers") (T := T_ZA) (N := 3) hx hb hts zi_ZA hown hK hG hX rfl 0 (by decide) (hts _ w_703) (fun _ h9 => h9) rfl d_ZA_tapeName_15 ?_
    refine zk_i (va_runV (As := []) (rest := [.int r5]) ⟨hx, hb, hml, hown, hts⟩ (t_Ta_length l E G ta b (nI tp.length) hT.1) (zcV 0 hts w_729 w_730 w_731 w_2 w_732 (by decide +kernel) ⟨Nat.le_of_ble_eq_true rfl, Nat.le_of_ble_eq_true rfl⟩) (zc_preV hbase hK hN hQ hG hS hT.1 rfl) rfl rfl hl.1 rfl (lv_room (Nat.le_of_ble_eq_true rfl)) d_ZA_tapeName_18 ⟨(by dsimp only; omega), (by dsimp only; omega)⟩) hS (fun r18 G18 H locs hp18 hG hS => ?_)
    have hG : zP E G H := hp18.2 ▸ hG
    refine zi_as (y := nI tp.length) hp18.1 ?_
    refine lv_icmp_ne (tgt := 43) hx hb d_ZA_tapeName_21 (by decide) (fun c21 => ?_) (fun c21 => ?_)
    · refine lv_null hx hb d_ZA_tapeName_43 ?_
      exact hret none _ _ _ _ _ _ _ _ hr (Or.inl ⟨_, rfl⟩) (Or.inr ⟨rfl, rfl, zE_no hp5.1 hlen (by first | exact Or.inl c10 | exact Or.inr c21)⟩) hG hS (by dsimp only; omega) (by dsimp only; omega) d_ZA_tapeName_44
    · subst c21
      obtain ⟨ls9, hls9⟩ := zE_len hp5.1 hlen rfl
      have hl9 := hls9.2
      have hok9 := hls9.1.1
      refine zg_new (ci := 3) (fs := [.null, .int 0]) (C := "ZoneAnswers$Name") (T := T_Na) (N := 2) hx hb hts zi_Na t_Na t_Na_ok hown (hts _ w_107) (hts _ w_108) (hts _ w_7) hK hG hS hbase rfl (fun j hj => by rcases (show j = 0 ∨ j = 1 by omega) with rfl | rfl <;> rfl) (by dsimp only; omega) (by dsimp only; omega) d_ZA_tapeName_24 (fun q24 H n24 hG hS => ?_)
      obtain ⟨G1, eG1⟩ : ∃ z : zg_G, z = zg_up G q24 (.inr (3, [.null, .int 0])) := ⟨_, rfl⟩
      have hG : zP E G1 H := by rw [eG1]; exact hG
      have hx2 : zx z0 G G1 := hx0.tr (by rw [eG1]; exact zx.nw n24)
      have ne24_xo : xo ≠ q24 := zg_fr n24 hX
      have k3 : G1 xo = some (.inr (10, [.ref ta, .ref zo, .ref an])) := by rw [eG1, zg_up_ne (zg_fr n24 hX)]; exact hX
      have ne24_ta : ta ≠ q24 := zg_fr n24 hT.1
      have k4 : G1 ta = some (.inr (7, [.ref b, .int (nI tp.length)])) := by rw [eG1, zg_up_ne (zg_fr n24 hT.1)]; exact hT.1
      have k5 : G1 q24 = some (.inr (3, [.null, .int 0])) := by rw [eG1]; exact zg_up_self _ _ _
      refine lv_dup hx hb d_ZA_tapeName_27 rfl ?_
      refine lv_aload_n hx hb d_ZA_tapeName_28 rfl (lv_at hl 1 rfl) ?_
      refine zg_get (ci := 10) (C := "ZoneAnswers") (T := T_ZA) (N := 3) hx hb hts zi_ZA hown hK hG k3 rfl 0 (by decide) (hts _ w_703) (fun _ h9 => h9) rfl d_ZA_tapeName_29 ?_
      refine lv_iconst (v := 0) hx hb d_ZA_tapeName_32 (by decide) ?_
      refine zi_as (y := nI 0) (nI_0.symm) ?_
      refine lv_iload_n hx hb d_ZA_tapeName_33 rfl (lv_at hl 0 rfl) ?_
      have hGo34 := hG
      refine zk_q (va_runV (As := [.int (nI 0), .int (nI tp.length)]) (rest := [.ref q24, .ref q24]) ⟨hx, hb, hml, hown, hts⟩ (t_Ta_lowered l E G1 ta b tp (hT.x hx2) 0 tp.length (Nat.zero_le _) (Nat.le_refl _)) (zcV 2 hts w_833 w_834 w_835 w_2 w_836 (by decide +kernel) ⟨Nat.le_of_ble_eq_true rfl, Nat.le_of_ble_eq_true rfl⟩) (zc_preV hbase hK hN hQ hG hS k4 rfl) rfl rfl hl.1 rfl (lv_room (Nat.le_of_ble_eq_true rfl)) d_ZA_tapeName_34 ⟨(by dsimp only; omega), (by dsimp only; omega)⟩) hS (fun r34 G34 H locs hp34 hG hS => ?_)
      obtain ⟨q34, f34, er34, nq34, hx34, hq34, hft34, hlo34⟩ := hp34
      refine zr_some (a := q34) er34 ?_
      have k6 : G34 xo = some (.inr (10, [.ref ta, .ref zo, .ref an])) := hx34.o k3
      have ne_q34_xo : xo ≠ q34 := zg_fr nq34 k3
      have k7 : G34 ta = some (.inr (7, [.ref b, .int (nI tp.length)])) := hx34.o k4
      have ne_q34_ta : ta ≠ q34 := zg_fr nq34 k4
      have k8 : G34 q24 = some (.inr (3, [.null, .int 0])) := hx34.o k5
      have ne_q34_q24 : q24 ≠ q34 := zg_fr nq34 k5
      have hx9 : zx z0 G G34 := hx2.tr (hx34.w (fun _ z => z.elim))
      have hb34 : G34 q34 = some (.inl (E.2.1 0, np_len (np_low ls9), .inl f34)) := by rw [np_low_len hok9.1, hl9]; exact hq34
      have hf34 : np_f (np_low ls9) f34 := np_low_f hok9.1 hls9.1.2.2 (fun j hj => hlo34 j (by omega))
      have hGo37 := hG
      refine zk_v (va_runI (As := [.ref q34]) (rest := [.ref q24]) ⟨hx, hb, hml, hown, hts⟩ (t_Na_init l E G34 q24 q34 (np_low ls9) f34 hb34 hf34 (np_low_g hok9) k8) (zcI 1 hts w_109 w_110 w_7 w_111 rfl (by decide +kernel) ⟨Nat.le_of_ble_eq_true rfl, Nat.le_of_ble_eq_true rfl⟩) (zc_pre hbase hK hN hQ hG hS) rfl rfl hl.1 rfl (lv_room (Nat.le_of_ble_eq_true rfl)) d_ZA_tapeName_37 ⟨(by dsimp only; omega), (by dsimp only; omega)⟩) hS (fun G37 H locs hp37 hG hS => ?_)
      have hx10 : zx z0 G G37 := by rw [hp37]; exact hx9.upn n24
      have k11 : G37 xo = some (.inr (10, [.ref ta, .ref zo, .ref an])) := by rw [hp37, zg_up_ne (ne24_xo)]; exact k6
      have k12 : G37 ta = some (.inr (7, [.ref b, .int (nI tp.length)])) := by rw [hp37, zg_up_ne (ne24_ta)]; exact k7
      have k13 : G37 q24 = some (.inr (3, [.ref q34, .int (nI (np_low ls9).length)])) := by rw [hp37]; exact zg_up_self _ _ _
      have k14 : G37 q34 = some (.inl (E.2.1 0, np_len (np_low ls9), .inl f34)) := by rw [hp37, zg_up_ne (Ne.symm ne_q34_q24)]; exact hb34
      refine lv_goto (tgt := 44) hx hb d_ZA_tapeName_40 (by decide) ?_
      exact hret (some q24) _ _ _ _ _ _ _ _ hr (Or.inl ⟨_, rfl⟩) (Or.inl ⟨ls9, q24, hls9, rfl, n24, hx10, q34, f34, k13, k14, hf34, np_low_g hok9, hft34⟩) hG hS (by dsimp only; omega) (by dsimp only; omega) d_ZA_tapeName_44
abbrev rm_Da_length : Room := { frames := 0, cells := 0, slots := 0, locals := 0 }
set_option maxHeartbeats 4000000 in
set_option maxRecDepth 100000 in
/-- Datum.length() -/
theorem t_Da_length (l : Launch) (E : zc_E) (G : zg_G) (a : Nat) (tv : Value) (b0 n0 : Nat) (f0 : Nat → Int32) (h0 : G b0 = some (.inl (E.2.1 0, n0, .inl f0))) (hft : sb_Fit f0) (hn0 : n0 < 2 ^ 24) (ha : G a = some (.inr (2, [.ref b0, tv]))) : zMi l E y_Da_length c_Da_length 1 (some .int) rm_Da_length [.ref a] G (fun (r : Int32) (G2 : zg_G) => r = nI n0 ∧ G2 = G) := by
  refine zMi.of (by decide) (Nat.le_of_ble_eq_true rfl) ?_
  intro p e s m args below meth c Q hZ hG hret ls hl
  obtain ⟨hx, hb, hr, hts, hown, hlocks, hml, hnm, hbase, hK, hN, hQ⟩ := hZ
  have hl : lv_has ls 1 [(0, .ref a)] := hl
  have hS : zg_S (zc_b E) s.heap s.heap [] := va_S.rf
  refine lv_aload_n hx hb d_Da_length_0 rfl (lv_at hl 0 rfl) ?_
  refine zg_get (ci := 2) (C := "ZoneAnswers$Datum") (T := T_Da) (N := 2) hx hb hts zi_Da hown hK hG ha rfl 0 (by decide) (hts _ w_139) (fun _ h9 => h9) rfl d_Da_length_1 ?_
  refine zg_alen hx hb hK hG 0 h0 rfl (v := nI n0) rfl d_Da_length_4 ?_
  exact hret _ _ _ _ _ _ _ _ _ hr (rfl) (⟨rfl, rfl⟩) hG hS (Nat.le_refl _) (Nat.le_refl _) d_Da_length_5
