/-- the data on the tape from x on, as data of that type -/
def zdb (tp : List Int32) (t : Int32) (x : Nat) : List Int32 := (List.range (tp.length - x)).map (fun j => if zoff t < 0 ∨ j < (zoff t).toNatClampNeg then tp.getD (x + j) 0 else zlow (tp.getD (x + j) 0))
theorem zdb_len (tp : List Int32) (t : Int32) (x : Nat) : (zdb tp t x).length = tp.length - x := by unfold zdb; rw [List.length_map, List.length_range]
theorem zdb_at {tp : List Int32} {t : Int32} {x j : Nat} (h : j < tp.length - x) : (zdb tp t x).getD j 0 = if zoff t < 0 ∨ j < (zoff t).toNatClampNeg then tp.getD (x + j) 0 else zlow (tp.getD (x + j) 0) := by
  unfold zdb
  rw [List.getD_eq_getElem?_getD, List.getElem?_map, List.getElem?_range h]; rfl
theorem ext_getD {x y : List Int32} (h : x.length = y.length) (h2 : ∀ j, j < x.length → x.getD j 0 = y.getD j 0) : x = y := by
  refine List.ext_getElem h (fun j h3 h4 => ?_)
  have := h2 j h3
  rw [List.getD_eq_getElem?_getD, List.getD_eq_getElem?_getD, List.getElem?_eq_getElem h3, List.getElem?_eq_getElem h4] at this
  exact this
theorem zoff_n {t : Int32} (h : t = 2 ∨ t = 5 ∨ t = 12 ∨ t = 15 ∨ t = 33) : zoff t = nI (voff t) ∧ voff t ≤ 6 := by
  rcases h with rfl | rfl | rfl | rfl | rfl <;> decide
theorem zoff_o {t : Int32} (h : ¬ (t = 2 ∨ t = 5 ∨ t = 12 ∨ t = 15 ∨ t = 33)) : zoff t = -1 := by
  unfold zoff
  rw [if_neg (fun z => h (by rcases z with z | z | z; exact Or.inl z; exact Or.inr (Or.inl z); exact Or.inr (Or.inr (Or.inl z)))), if_neg (fun z => h (Or.inr (Or.inr (Or.inr (Or.inl z))))), if_neg (fun z => h (Or.inr (Or.inr (Or.inr (Or.inr z)))))]
theorem zsame_db {tp : List Int32} {t : Int32} {x : Nat} {d : zDt} (hA : zdA t d.2) (hB : zdB t d.2) : zsame tp x (zpl d) d.2.1 ↔ d.2.1 = zdb tp t x := by
  have hpl : d.2.1.length = tp.length - x → ∀ j, j < d.2.1.length → (j < zpl d ↔ (zoff t < 0 ∨ j < (zoff t).toNatClampNeg)) := by
    intro hl j hj
    by_cases z : t = 2 ∨ t = 5 ∨ t = 12 ∨ t = 15 ∨ t = 33
    · obtain ⟨ls, e1, e2, e3⟩ := hA z
      obtain ⟨q1, q2⟩ := zoff_n z
      have h1 := congrArg List.length e2
      rw [np_enc_len, List.length_drop] at h1
      have hp : zpl d = d.2.1.length - np_len ls := by unfold zpl; rw [e1]
      have hpos : 0 < np_len ls := Nat.succ_pos _
      rw [q1, zi_n _ (by omega), hp]
      constructor
      · intro w; exact Or.inr (by omega)
      · rintro (w | w)
        · exact absurd w (nI_pos (by omega))
        · omega
    · have hp : zpl d = d.2.1.length := by unfold zpl; rw [hB z]
      rw [hp, zoff_o z]
      exact ⟨fun _ => Or.inl (by decide), fun _ => hj⟩
  unfold zsame
  constructor
  · rintro ⟨h1, h2⟩
    refine ext_getD (by rw [zdb_len]; exact h1.symm) (fun j hj => ?_)
    rw [zdb_at (by omega), ← h2 j hj]
    by_cases w : j < zpl d
    · rw [if_pos w, if_pos ((hpl h1.symm j hj).mp w)]
    · rw [if_neg w, if_neg (fun q => w ((hpl h1.symm j hj).mpr q))]
  · intro e
    have hl : d.2.1.length = tp.length - x := by rw [e, zdb_len]
    refine ⟨hl.symm, fun j hj => ?_⟩
    have q := zdb_at (tp := tp) (t := t) (x := x) (j := j) (by omega)
    rw [← e] at q
    rw [q]
    by_cases w : j < zpl d
    · rw [if_pos w, if_pos ((hpl hl j hj).mp w)]
    · rw [if_neg w, if_neg (fun q => w ((hpl hl j hj).mpr q))]
/-- a new Datum -/
def zDnew (E : zc_E) (G G2 : zg_G) (d : zDt) : Prop := zx z0 G G2 ∧ ∀ ro : zRo, ∃ ro2, zro G ro ro2 ∧ zDR E G2 ro2 d
theorem np_low_db {tp : List Int32} {t : Int32} {x o : Nat} {ls : np_N} (ho : zoff t = nI o) (h6 : o ≤ 6) (hn : zNm (fun j => tp.getD (x + o + j) 0) (tp.length - (x + o)) ls) (hl : x + o + np_len ls = tp.length) : np_enc (np_low ls) = (zdb tp t x).drop o := by
  have hg : np_g ls := hn.1
  rw [np_low_enc hg.1]
  refine ext_getD ?_ (fun j hj => ?_)
  · rw [List.length_map, np_enc_len, List.length_drop, zdb_len]; omega
  · rw [List.length_map, np_enc_len] at hj
    rw [List.getD_eq_getElem?_getD, List.getElem?_map, List.getD_eq_getElem?_getD, List.getElem?_drop, ← List.getD_eq_getElem?_getD, zdb_at (by omega), ho, zi_n _ (by omega), if_neg (by rintro (w | w); exact absurd w (nI_pos (by omega)); omega)]
    have q := hn.2.2 j hj
    have hj2 : j < (np_enc ls).length := by rw [np_enc_len]; exact hj
    rw [List.getElem?_eq_getElem hj2]
    rw [List.getD_eq_getElem?_getD, List.getElem?_eq_getElem hj2] at q
    rw [show x + (o + j) = x + o + j by omega]
    exact congrArg zlow q.symm
theorem zrn_all4 (ro : zRo) (a b c d q : Nat) (h : q = a ∨ q = b ∨ q = c ∨ q = d) : zrn (zrn (zrn (zrn ro a (0, 0)) b (0, 0)) c (0, 0)) d (0, 0) q = (0, 0) := by
  unfold zrn
  split
  · rfl
  · split
    · rfl
    · split
      · rfl
      · split
        · rfl
        · rename_i h1 h2 h3 h4
          rcases h with z | z | z | z
          · exact absurd z h4
          · exact absurd z h3
          · exact absurd z h2
          · exact absurd z h1
theorem zdb_f {tp : List Int32} {fd fb : Nat → Int32} {x j o : Nat} (hj : j < tp.length - x) (h1 : ∀ j, j < tp.length - x → fd j = fb (x + j)) (h2 : ∀ i, i < tp.length → fb i = tp.getD i 0) (ho : o < 2 ^ 31) : (if o ≤ j ∧ j < tp.length - x then zlow (fd j) else fd j) = if nI o < 0 ∨ j < o then tp.getD (x + j) 0 else zlow (tp.getD (x + j) 0) := by
  rw [h1 j hj, h2 (x + j) (by omega)]
  by_cases z : j < o
  · rw [if_neg (by omega), if_pos (Or.inr z)]
  · rw [if_pos ⟨by omega, hj⟩, if_neg (by rintro (w | w); exact absurd w (nI_pos ho); exact z w)]
theorem w_927 : (.classLink "ZoneAnswers$Tape" 49 "ZoneAnswers$Datum" : Cond) ∈ zw := zw_at 927 (by decide +kernel) (by decide +kernel)
theorem w_928 : (.methodLink "ZoneAnswers$Tape" 51 ⟨"ZoneAnswers$Datum", "<init>", "([BLZoneAnswers$Name;)V"⟩ : Cond) ∈ zw := zw_at 928 (by decide +kernel) (by decide +kernel)
theorem w_929 : (.classLink "ZoneAnswers$Tape" 54 "ZoneAnswers$Name" : Cond) ∈ zw := zw_at 929 (by decide +kernel) (by decide +kernel)
theorem w_930 : (.methodLink "ZoneAnswers$Tape" 56 ⟨"ZoneAnswers$Name", "<init>", "([B)V"⟩ : Cond) ∈ zw := zw_at 930 (by decide +kernel) (by decide +kernel)
abbrev c_Ta_datum : ByteArray := prog_8_method_10_code
abbrev y_Ta_datum : MethodName := ⟨"ZoneAnswers$Tape", "datum", "(II)LZoneAnswers$Datum;"⟩
theorem d_Ta_datum_0 : decode c_Ta_datum 0 = .ok (.aload_n 0, 1) := by decide +kernel
theorem d_Ta_datum_1 : decode c_Ta_datum 1 = .ok (.getfield 11, 3) := by decide +kernel
theorem d_Ta_datum_4 : decode c_Ta_datum 4 = .ok (.iload_n 2, 1) := by decide +kernel
theorem d_Ta_datum_5 : decode c_Ta_datum 5 = .ok (.aload_n 0, 1) := by decide +kernel
theorem d_Ta_datum_6 : decode c_Ta_datum 6 = .ok (.getfield 15, 3) := by decide +kernel
theorem d_Ta_datum_9 : decode c_Ta_datum 9 = .ok (.invokestatic 41, 3) := by decide +kernel
theorem d_Ta_datum_12 : decode c_Ta_datum 12 = .ok (.astore_n 3, 1) := by decide +kernel
theorem d_Ta_datum_13 : decode c_Ta_datum 13 = .ok (.iload_n 1, 1) := by decide +kernel
theorem d_Ta_datum_14 : decode c_Ta_datum 14 = .ok (.invokestatic 34, 3) := by decide +kernel
theorem d_Ta_datum_17 : decode c_Ta_datum 17 = .ok (.istore 4, 2) := by decide +kernel
theorem d_Ta_datum_19 : decode c_Ta_datum 19 = .ok (.iload 4, 2) := by decide +kernel
theorem d_Ta_datum_21 : decode c_Ta_datum 21 = .ok (.ifCond .lt 10, 3) := by decide +kernel
theorem d_Ta_datum_24 : decode c_Ta_datum 24 = .ok (.iload 4, 2) := by decide +kernel
theorem d_Ta_datum_26 : decode c_Ta_datum 26 = .ok (.aload_n 3, 1) := by decide +kernel
theorem d_Ta_datum_27 : decode c_Ta_datum 27 = .ok (.arraylength, 1) := by decide +kernel
theorem d_Ta_datum_28 : decode c_Ta_datum 28 = .ok (.if_icmp .le 13, 3) := by decide +kernel
theorem d_Ta_datum_31 : decode c_Ta_datum 31 = .ok (.new 49, 3) := by decide +kernel
theorem d_Ta_datum_34 : decode c_Ta_datum 34 = .ok (.dup, 1) := by decide +kernel
theorem d_Ta_datum_35 : decode c_Ta_datum 35 = .ok (.aload_n 3, 1) := by decide +kernel
theorem d_Ta_datum_36 : decode c_Ta_datum 36 = .ok (.aconst_null, 1) := by decide +kernel
theorem d_Ta_datum_37 : decode c_Ta_datum 37 = .ok (.invokespecial 51, 3) := by decide +kernel
theorem d_Ta_datum_40 : decode c_Ta_datum 40 = .ok (.areturn, 1) := by decide +kernel
theorem d_Ta_datum_41 : decode c_Ta_datum 41 = .ok (.aload_n 3, 1) := by decide +kernel
theorem d_Ta_datum_42 : decode c_Ta_datum 42 = .ok (.iload 4, 2) := by decide +kernel
theorem d_Ta_datum_44 : decode c_Ta_datum 44 = .ok (.invokestatic 45, 3) := by decide +kernel
theorem d_Ta_datum_47 : decode c_Ta_datum 47 = .ok (.new 49, 3) := by decide +kernel
theorem d_Ta_datum_50 : decode c_Ta_datum 50 = .ok (.dup, 1) := by decide +kernel
theorem d_Ta_datum_51 : decode c_Ta_datum 51 = .ok (.aload_n 3, 1) := by decide +kernel
theorem d_Ta_datum_52 : decode c_Ta_datum 52 = .ok (.new 54, 3) := by decide +kernel
theorem d_Ta_datum_55 : decode c_Ta_datum 55 = .ok (.dup, 1) := by decide +kernel
theorem d_Ta_datum_56 : decode c_Ta_datum 56 = .ok (.aload_n 3, 1) := by decide +kernel
theorem d_Ta_datum_57 : decode c_Ta_datum 57 = .ok (.iload 4, 2) := by decide +kernel
theorem d_Ta_datum_59 : decode c_Ta_datum 59 = .ok (.aload_n 3, 1) := by decide +kernel
theorem d_Ta_datum_60 : decode c_Ta_datum 60 = .ok (.arraylength, 1) := by decide +kernel
theorem d_Ta_datum_61 : decode c_Ta_datum 61 = .ok (.invokestatic 41, 3) := by decide +kernel
theorem d_Ta_datum_64 : decode c_Ta_datum 64 = .ok (.invokespecial 56, 3) := by decide +kernel
theorem d_Ta_datum_67 : decode c_Ta_datum 67 = .ok (.invokespecial 51, 3) := by decide +kernel
theorem d_Ta_datum_70 : decode c_Ta_datum 70 = .ok (.areturn, 1) := by decide +kernel
abbrev rm_Ta_datum_n (n0 : Nat) : Room := { frames := 4, cells := 4, slots := 2 * n0 + 8, locals := 130 }
set_option maxHeartbeats 4000000 in
set_option maxRecDepth 100000 in
/-- Tape.datum(type, from), with no name -/
theorem t_Ta_datum_n (l : Launch) (E : zc_E) (G : zg_G) (ta b : Nat) (tp : List Int32) (hT : zTp E G ta b tp) (hlen : tp.length ≤ 65536) (t : Int32) (x : Nat) (hx9 : x ≤ tp.length) (hof : zoff t < 0) : zMq l E y_Ta_datum c_Ta_datum 5 (some (.object "ZoneAnswers$Datum")) (rm_Ta_datum_n tp.length) [.ref ta, .int t, .int (nI x)] G (fun (r : Option Nat) (G2 : zg_G) => ∃ q, r = some q ∧ zDnew E G G2 (q, zdb tp t x, none)) := by
  refine zMq.of (by decide) (Nat.le_of_ble_eq_true rfl) ?_
  intro p e s m args below meth c Q hZ hG hret ls hl
  obtain ⟨hx, hb, hr, hts, hown, hlocks, hml, hnm, hbase, hK, hN, hQ⟩ := hZ
  have hl : lv_has ls 5 [(0, .ref ta), (1, .int t), (2, .int (nI x))] := hl
  have hS : zg_S (zc_b E) s.heap s.heap [] := va_S.rf
  obtain ⟨hT1, nb, fb, hT2, hT3, hT4, hT5, hT6, hT7⟩ := id hT
  have hx0 : zx z0 G G := zx.rf
  refine lv_aload_n hx hb d_Ta_datum_0 rfl (lv_at hl 0 rfl) ?_
  refine zg_get (ci := 7) (C := "ZoneAnswers$Tape") (T := T_Ta) (N := 2) hx hb hts zi_Ta hown hK hG hT1 rfl 0 (by decide) (hts _ w_51) (fun _ h9 => h9) rfl d_Ta_datum_1 ?_
  refine lv_iload_n hx hb d_Ta_datum_4 rfl (lv_at hl 2 rfl) ?_
  refine lv_aload_n hx hb d_Ta_datum_5 rfl (lv_at hl 0 rfl) ?_
  refine zg_get (ci := 7) (C := "ZoneAnswers$Tape") (T := T_Ta) (N := 2) hx hb hts zi_Ta hown hK hG hT1 rfl 1 (by decide) (hts _ w_52) (fun _ h9 => h9) rfl d_Ta_datum_6 ?_
  have hGo9 := hG
  refine zk_q (va_runS (As := [.ref b, .int (nI x), .int (nI tp.length)]) (rest := []) ⟨hx, hb, hml, hown, hts⟩ (t_Ar_copyOfRange l E G b nb fb hT2 hT7 (by omega) x tp.length hx9 hT3) (zcS 3 hts w_837 w_479 w_22 w_480 (by decide +kernel) ⟨Nat.le_of_ble_eq_true rfl, Nat.le_of_ble_eq_true rfl⟩) (zc_pre hbase hK hN hQ hG hS) rfl rfl hl.1 rfl (lv_room (Nat.le_of_ble_eq_true rfl)) d_Ta_datum_9 ⟨(by dsimp only; omega), (by dsimp only; omega)⟩) hS (fun r9 G9 H locs hp9 hG hS => ?_)
  obtain ⟨qd, fd9, er9, nqd, hx9, hqd, hfd1, hfd2⟩ := hp9
  refine zr_some (a := qd) er9 ?_
  have k1 : G9 ta = some (.inr (7, [.ref b, .int (nI tp.length)])) := hx9.o hT1
  have ne_qd_ta : ta ≠ qd := zg_fr nqd hT1
  have k2 : G9 b = some (.inl (E.2.1 0, nb, .inl fb)) := hx9.o hT2
  have ne_qd_b : b ≠ qd := zg_fr nqd hT2
  have hx3 : zx z0 G G9 := hx0.tr (hx9.w (fun _ z => z.elim))
  refine lv_astore_n (lv' := [(3, .ref qd), (0, .ref ta), (1, .int t), (2, .int (nI x))]) hx hb d_Ta_datum_12 rfl hl (by decide) rfl (fun ls hl => ?_)
  refine lv_iload_n hx hb d_Ta_datum_13 rfl (lv_at hl 2 rfl) ?_
  refine zk_i (va_runSN (As := [.int t]) (rest := []) ⟨hx, hb, hml, hown, hts⟩ (t_ZA_nameOffset l E G9 t) ⟨va_cnB 1 hts (zw_good w_872) rfl rfl rfl (zN.at hN (w := .methodLinkNest "ZoneAnswers$Tape" 34 ⟨"ZoneAnswers", "nameOffset", "(I)I"⟩ "ZoneAnswers") (by decide +kernel)) (hts _ w_1) (by decide +kernel) ⟨Nat.le_of_ble_eq_true rfl, Nat.le_of_ble_eq_true rfl⟩, hts _ w_871, trivial⟩ (zc_pre hbase hK hN hQ hG hS) rfl rfl hl.1 rfl (lv_room (Nat.le_of_ble_eq_true rfl)) d_Ta_datum_14 ⟨(by dsimp only; omega), (by dsimp only; omega)⟩) hS (fun r14 G14 H locs hp14 hG hS => ?_)
  have hG : zP E G9 H := hp14.2 ▸ hG
  refine zi_as (y := zoff t) hp14.1 ?_
  refine lv_istore (lv' := [(4, .int (zoff t)), (3, .ref qd), (0, .ref ta), (1, .int t), (2, .int (nI x))]) hx hb d_Ta_datum_17 hl (by decide) rfl (fun ls hl => ?_)
  refine lv_iload hx hb d_Ta_datum_19 (lv_at hl 0 rfl) ?_
  refine lv_if_lt (tgt := 31) hx hb d_Ta_datum_21 (by decide) (fun c21 => ?_) (fun c21 => ?_)
  · refine zg_new (ci := 2) (fs := [.null, .null]) (C := "ZoneAnswers$Datum") (T := T_Da) (N := 2) hx hb hts zi_Da t_Da t_Da_ok hown (hts _ w_927) (hts _ w_134) (hts _ w_8) hK hG hS hbase rfl (fun j hj => by rcases (show j = 0 ∨ j = 1 by omega) with rfl | rfl <;> rfl) (by dsimp only; omega) (by dsimp only; omega) d_Ta_datum_31 (fun q31 H n31 hG hS => ?_)
    obtain ⟨G4, eG4⟩ : ∃ z : zg_G, z = zg_up G9 q31 (.inr (2, [.null, .null])) := ⟨_, rfl⟩
    have hG : zP E G4 H := by rw [eG4]; exact hG
    have nf31 : G q31 = none := zx.fr hx3 n31 (fun h => h)
    have hx5 : zx z0 G G4 := hx3.tr (by rw [eG4]; exact zx.nw n31)
    have ne31_ta : ta ≠ q31 := zg_fr n31 k1
    have k6 : G4 ta = some (.inr (7, [.ref b, .int (nI tp.length)])) := by rw [eG4, zg_up_ne (zg_fr n31 k1)]; exact k1
    have ne31_b : b ≠ q31 := zg_fr n31 k2
    have k7 : G4 b = some (.inl (E.2.1 0, nb, .inl fb)) := by rw [eG4, zg_up_ne (zg_fr n31 k2)]; exact k2
    have ne31_qd : qd ≠ q31 := zg_fr n31 hqd
    have k8 : G4 qd = some (.inl (E.2.1 0, tp.length - x, .inl fd9)) := by rw [eG4, zg_up_ne (zg_fr n31 hqd)]; exact hqd
    have k9 : G4 q31 = some (.inr (2, [.null, .null])) := by rw [eG4]; exact zg_up_self _ _ _
    refine lv_dup hx hb d_Ta_datum_34 rfl ?_
    refine lv_aload_n hx hb d_Ta_datum_35 rfl (lv_at hl 1 rfl) ?_
    refine lv_null hx hb d_Ta_datum_36 ?_
    have hGo37 := hG
    refine zk_v (va_runI (As := [.ref qd, .null]) (rest := [.ref q31]) ⟨hx, hb, hml, hown, hts⟩ (t_Da_init_n l E G4 q31 qd k9) (zcI 2 hts w_928 w_136 w_8 w_137 rfl (by decide +kernel) ⟨Nat.le_of_ble_eq_true rfl, Nat.le_of_ble_eq_true rfl⟩) (zc_pre hbase hK hN hQ hG hS) rfl rfl hl.1 rfl (lv_room (Nat.le_of_ble_eq_true rfl)) d_Ta_datum_37 ⟨(by dsimp only; omega), (by dsimp only; omega)⟩) hS (fun G37 H locs hp37 hG hS => ?_)
    have hx10 : zx z0 G G37 := by rw [hp37]; exact hx5.upn nf31
    have k11 : G37 ta = some (.inr (7, [.ref b, .int (nI tp.length)])) := by rw [hp37, zg_up_ne (ne31_ta)]; exact k6
    have k12 : G37 b = some (.inl (E.2.1 0, nb, .inl fb)) := by rw [hp37, zg_up_ne (ne31_b)]; exact k7
    have k13 : G37 qd = some (.inl (E.2.1 0, tp.length - x, .inl fd9)) := by rw [hp37, zg_up_ne (ne31_qd)]; exact k8
    have k14 : G37 q31 = some (.inr (2, [.ref qd, .null])) := by rw [hp37]; exact zg_up_self _ _ _
    exact hret (some q31) _ _ _ _ _ _ _ _ hr (Or.inl ⟨_, rfl⟩) (⟨q31, rfl, hx10, fun ro => ⟨zrn (zrn ro qd (0, 0)) q31 (0, 0), (zro.nw nqd).tr2 (zro.nw nf31), qd, none, k14, ⟨fd9, by rw [zdb_len]; exact k13, fun j hj => by rw [zdb_len] at hj; rw [zdb_at hj, if_pos (Or.inl hof), hfd2 j hj, hT6 _ (by omega)], hfd1⟩, zrn_self _ _ _, by rw [zrn_ne (fun z => by have q := k13; rw [z, k14] at q; cases q), zrn_self], Or.inl ⟨rfl, rfl⟩⟩⟩) hG hS (by dsimp only; omega) (by dsimp only; omega) d_Ta_datum_40
  · exact absurd hof c21
abbrev rm_Ta_datum_s (n0 : Nat) : Room := { frames := 4, cells := 4, slots := 2 * n0 + 8, locals := 130 }
set_option maxHeartbeats 4000000 in
set_option maxRecDepth 100000 in
/-- Tape.datum(type, from), with a name -/
theorem t_Ta_datum_s (l : Launch) (E : zc_E) (G : zg_G) (ta b : Nat) (tp : List Int32) (hT : zTp E G ta b tp) (hlen : tp.length ≤ 65536) (t : Int32) (x o : Nat) (lsq : np_N) (hof : zoff t = nI o) (h6 : o ≤ 6) (hnmm : zNm (fun j => tp.getD (x + o + j) 0) (tp.length - (x + o)) lsq) (hll : x + o + np_len lsq = tp.length) : zMq l E y_Ta_datum c_Ta_datum 5 (some (.object "ZoneAnswers$Datum")) (rm_Ta_datum_s tp.length) [.ref ta, .int t, .int (nI x)] G (fun (r : Option Nat) (G2 : zg_G) => ∃ q, r = some q ∧ zDnew E G G2 (q, zdb tp t x, some (np_low lsq))) := by
  refine zMq.of (by decide) (Nat.le_of_ble_eq_true rfl) ?_
  intro p e s m args below meth c Q hZ hG hret ls hl
  obtain ⟨hx, hb, hr, hts, hown, hlocks, hml, hnm, hbase, hK, hN, hQ⟩ := hZ
  have hl : lv_has ls 5 [(0, .ref ta), (1, .int t), (2, .int (nI x))] := hl
  have hS : zg_S (zc_b E) s.heap s.heap [] := va_S.rf
  obtain ⟨hT1, nb, fb, hT2, hT3, hT4, hT5, hT6, hT7⟩ := id hT
  have hx9 : x ≤ tp.length := by omega
  have hE00 : G (E.2.2.2 0) = none := hQ.out hG
  have hx0 : zx z0 G G := zx.rf
  refine lv_aload_n hx hb d_Ta_datum_0 rfl (lv_at hl 0 rfl) ?_
  refine zg_get (ci := 7) (C := "ZoneAnswers$Tape") (T := T_Ta) (N := 2) hx hb hts zi_Ta hown hK hG hT1 rfl 0 (by decide) (hts _ w_51) (fun _ h9 => h9) rfl d_Ta_datum_1 ?_
  refine lv_iload_n hx hb d_Ta_datum_4 rfl (lv_at hl 2 rfl) ?_
  refine lv_aload_n hx hb d_Ta_datum_5 rfl (lv_at hl 0 rfl) ?_
  refine zg_get (ci := 7) (C := "ZoneAnswers$Tape") (T := T_Ta) (N := 2) hx hb hts zi_Ta hown hK hG hT1 rfl 1 (by decide) (hts _ w_52) (fun _ h9 => h9) rfl d_Ta_datum_6 ?_
  have hGo9 := hG
  refine zk_q (va_runS (As := [.ref b, .int (nI x), .int (nI tp.length)]) (rest := []) ⟨hx, hb, hml, hown, hts⟩ (t_Ar_copyOfRange l E G b nb fb hT2 hT7 (by omega) x tp.length hx9 hT3) (zcS 3 hts w_837 w_479 w_22 w_480 (by decide +kernel) ⟨Nat.le_of_ble_eq_true rfl, Nat.le_of_ble_eq_true rfl⟩) (zc_pre hbase hK hN hQ hG hS) rfl rfl hl.1 rfl (lv_room (Nat.le_of_ble_eq_true rfl)) d_Ta_datum_9 ⟨(by dsimp only; omega), (by dsimp only; omega)⟩) hS (fun r9 G9 H locs hp9 hG hS => ?_)
  obtain ⟨qd, fd9, er9, nqd, hx9, hqd, hfd1, hfd2⟩ := hp9
  refine zr_some (a := qd) er9 ?_
  have k1 : G9 ta = some (.inr (7, [.ref b, .int (nI tp.length)])) := hx9.o hT1
  have ne_qd_ta : ta ≠ qd := zg_fr nqd hT1
  have k2 : G9 b = some (.inl (E.2.1 0, nb, .inl fb)) := hx9.o hT2
  have ne_qd_b : b ≠ qd := zg_fr nqd hT2
  have hx3 : zx z0 G G9 := hx0.tr (hx9.w (fun _ z => z.elim))
  refine lv_astore_n (lv' := [(3, .ref qd), (0, .ref ta), (1, .int t), (2, .int (nI x))]) hx hb d_Ta_datum_12 rfl hl (by decide) rfl (fun ls hl => ?_)
  refine lv_iload_n hx hb d_Ta_datum_13 rfl (lv_at hl 2 rfl) ?_
  have hGo14 := hG
  refine zk_i (va_runSN (As := [.int t]) (rest := []) ⟨hx, hb, hml, hown, hts⟩ (t_ZA_nameOffset l E G9 t) ⟨va_cnB 1 hts (zw_good w_872) rfl rfl rfl (zN.at hN (w := .methodLinkNest "ZoneAnswers$Tape" 34 ⟨"ZoneAnswers", "nameOffset", "(I)I"⟩ "ZoneAnswers") (by decide +kernel)) (hts _ w_1) (by decide +kernel) ⟨Nat.le_of_ble_eq_true rfl, Nat.le_of_ble_eq_true rfl⟩, hts _ w_871, trivial⟩ (zc_pre hbase hK hN hQ hG hS) rfl rfl hl.1 rfl (lv_room (Nat.le_of_ble_eq_true rfl)) d_Ta_datum_14 ⟨(by dsimp only; omega), (by dsimp only; omega)⟩) hS (fun r14 G14 H locs hp14 hG hS => ?_)
  have hG : zP E G9 H := hp14.2 ▸ hG
  refine zi_as (y := nI o) (hp14.1.trans hof) ?_
  refine lv_istore (lv' := [(4, .int (nI o)), (3, .ref qd), (0, .ref ta), (1, .int t), (2, .int (nI x))]) hx hb d_Ta_datum_17 hl (by decide) rfl (fun ls hl => ?_)
  refine lv_iload hx hb d_Ta_datum_19 (lv_at hl 0 rfl) ?_
  refine lv_if_lt (tgt := 31) hx hb d_Ta_datum_21 (by decide) (fun c21 => ?_) (fun c21 => ?_)
  · have b21 : o < 0 := (nI_ltI (a := o) (b := 0) (by omega) (by omega)).mp c21
    exact absurd b21 (Nat.not_lt_zero _)
  · have b21 : ¬ o < 0 := fun q => c21 ((nI_ltI (a := o) (b := 0) (by omega) (by omega)).mpr q)
    refine lv_iload hx hb d_Ta_datum_24 (lv_at hl 0 rfl) ?_
    refine lv_aload_n hx hb d_Ta_datum_26 rfl (lv_at hl 1 rfl) ?_
    refine zg_alen hx hb hK hG 0 hqd rfl (v := nI (tp.length - x)) rfl d_Ta_datum_27 ?_
    refine lv_icmp_le (tgt := 41) hx hb d_Ta_datum_28 (by decide) (fun c28 => ?_) (fun c28 => ?_)
    · have b28 : o ≤ (tp.length - x) := (nI_leI (a := o) (b := (tp.length - x)) (by omega) (by omega)).mp c28
      refine lv_aload_n hx hb d_Ta_datum_41 rfl (lv_at hl 1 rfl) ?_
      refine lv_iload hx hb d_Ta_datum_42 (lv_at hl 0 rfl) ?_
      have hGo44 := hG
      refine zk_v (va_runS (As := [.ref qd, .int (nI o)]) (rest := []) ⟨hx, hb, hml, hown, hts⟩ (t_Ta_lowerFrom l E G9 qd (tp.length - x) fd9 hqd hfd1 (by omega) o (by omega)) (zcS 2 hts w_838 w_839 w_2 w_840 (by decide +kernel) ⟨Nat.le_of_ble_eq_true rfl, Nat.le_of_ble_eq_true rfl⟩) (zc_pre hbase hK hN hQ hG hS) rfl rfl hl.1 rfl (lv_room (Nat.le_of_ble_eq_true rfl)) d_Ta_datum_44 ⟨(by dsimp only; omega), (by dsimp only; omega)⟩) hS (fun G44 H locs hp44 hG hS => ?_)
      obtain ⟨fl9, eg44, hfl1, hfl2⟩ := hp44
      have hx4 : zx z0 G G44 := by rw [eg44]; exact hx3.upn nqd
      have k5 : G44 ta = some (.inr (7, [.ref b, .int (nI tp.length)])) := by rw [eg44, zg_up_ne (ne_qd_ta)]; exact k1
      have k6 : G44 b = some (.inl (E.2.1 0, nb, .inl fb)) := by rw [eg44, zg_up_ne (ne_qd_b)]; exact k2
      have k7 : G44 qd = some (.inl (E.2.1 0, tp.length - x, .inl fl9)) := by rw [eg44]; exact zg_up_self _ _ _
      refine zg_new (ci := 2) (fs := [.null, .null]) (C := "ZoneAnswers$Datum") (T := T_Da) (N := 2) hx hb hts zi_Da t_Da t_Da_ok hown (hts _ w_927) (hts _ w_134) (hts _ w_8) hK hG hS hbase rfl (fun j hj => by rcases (show j = 0 ∨ j = 1 by omega) with rfl | rfl <;> rfl) (by dsimp only; omega) (by dsimp only; omega) d_Ta_datum_47 (fun q47 H n47 hG hS => ?_)
      obtain ⟨G8, eG8⟩ : ∃ z : zg_G, z = zg_up G44 q47 (.inr (2, [.null, .null])) := ⟨_, rfl⟩
      have hG : zP E G8 H := by rw [eG8]; exact hG
      have nf47 : G q47 = none := zx.fr hx4 n47 (fun h => h)
      have hx9 : zx z0 G G8 := hx4.tr (by rw [eG8]; exact zx.nw n47)
      have ne47_ta : ta ≠ q47 := zg_fr n47 k5
      have k10 : G8 ta = some (.inr (7, [.ref b, .int (nI tp.length)])) := by rw [eG8, zg_up_ne (zg_fr n47 k5)]; exact k5
      have ne47_b : b ≠ q47 := zg_fr n47 k6
      have k11 : G8 b = some (.inl (E.2.1 0, nb, .inl fb)) := by rw [eG8, zg_up_ne (zg_fr n47 k6)]; exact k6
      have ne47_qd : qd ≠ q47 := zg_fr n47 k7
      have k12 : G8 qd = some (.inl (E.2.1 0, tp.length - x, .inl fl9)) := by rw [eG8, zg_up_ne (zg_fr n47 k7)]; exact k7
      have k13 : G8 q47 = some (.inr (2, [.null, .null])) := by rw [eG8]; exact zg_up_self _ _ _
      refine lv_dup hx hb d_Ta_datum_50 rfl ?_
      refine lv_aload_n hx hb d_Ta_datum_51 rfl (lv_at hl 1 rfl) ?_
      refine zg_new (ci := 3) (fs := [.null, .int 0]) (C := "ZoneAnswers$Name") (T := T_Na) (N := 2) hx hb hts zi_Na t_Na t_Na_ok hown (hts _ w_929) (hts _ w_108) (hts _ w_7) hK hG hS hbase rfl (fun j hj => by rcases (show j = 0 ∨ j = 1 by omega) with rfl | rfl <;> rfl) (by dsimp only; omega) (by dsimp only; omega) d_Ta_datum_52 (fun q52 H n52 hG hS => ?_)
      obtain ⟨G14, eG14⟩ : ∃ z : zg_G, z = zg_up G8 q52 (.inr (3, [.null, .int 0])) := ⟨_, rfl⟩
      have hG : zP E G14 H := by rw [eG14]; exact hG
      have nf52 : G q52 = none := zx.fr hx9 n52 (fun h => h)
      have hx15 : zx z0 G G14 := hx9.tr (by rw [eG14]; exact zx.nw n52)
      have ne52_ta : ta ≠ q52 := zg_fr n52 k10
      have k16 : G14 ta = some (.inr (7, [.ref b, .int (nI tp.length)])) := by rw [eG14, zg_up_ne (zg_fr n52 k10)]; exact k10
      have ne52_b : b ≠ q52 := zg_fr n52 k11
      have k17 : G14 b = some (.inl (E.2.1 0, nb, .inl fb)) := by rw [eG14, zg_up_ne (zg_fr n52 k11)]; exact k11
      have ne52_qd : qd ≠ q52 := zg_fr n52 k12
      have k18 : G14 qd = some (.inl (E.2.1 0, tp.length - x, .inl fl9)) := by rw [eG14, zg_up_ne (zg_fr n52 k12)]; exact k12
      have ne52_q47 : q47 ≠ q52 := zg_fr n52 k13
      have k19 : G14 q47 = some (.inr (2, [.null, .null])) := by rw [eG14, zg_up_ne (zg_fr n52 k13)]; exact k13
      have k20 : G14 q52 = some (.inr (3, [.null, .int 0])) := by rw [eG14]; exact zg_up_self _ _ _
      refine lv_dup hx hb d_Ta_datum_55 rfl ?_
      refine lv_aload_n hx hb d_Ta_datum_56 rfl (lv_at hl 1 rfl) ?_
      refine lv_iload hx hb d_Ta_datum_57 (lv_at hl 0 rfl) ?_
      refine lv_aload_n hx hb d_Ta_datum_59 rfl (lv_at hl 1 rfl) ?_
      refine zg_alen hx hb hK hG 0 k18 rfl (v := nI (tp.length - x)) rfl d_Ta_datum_60 ?_
      have hGo61 := hG
      refine zk_q (va_runS (As := [.ref qd, .int (nI o), .int (nI (tp.length - x))]) (rest := [.ref q52, .ref q52, .ref qd, .ref q47, .ref q47]) ⟨hx, hb, hml, hown, hts⟩ (t_Ar_copyOfRange l E G14 qd (tp.length - x) fl9 k18 hfl1 (by omega) o (tp.length - x) (by omega) (Nat.le_refl _)) (zcS 3 hts w_837 w_479 w_22 w_480 (by decide +kernel) ⟨Nat.le_of_ble_eq_true rfl, Nat.le_of_ble_eq_true rfl⟩) (zc_pre hbase hK hN hQ hG hS) rfl rfl hl.1 rfl (lv_room (Nat.le_of_ble_eq_true rfl)) d_Ta_datum_61 ⟨(by dsimp only; omega), (by dsimp only; omega)⟩) hS (fun r61 G61 H locs hp61 hG hS => ?_)
      obtain ⟨qe, fe9, er61, nqe, hx61, hqe, hfe1, hfe2⟩ := hp61
      refine zr_some (a := qe) er61 ?_
      have nfe : G qe = none := zx.no hx15 nqe
      have hqe2 : G61 qe = some (.inl (E.2.1 0, np_len (np_low lsq), .inl fe9)) := by rw [np_low_len hnmm.1.1, show np_len lsq = tp.length - x - o by omega]; exact hqe
      have hfe3 : np_f (np_low lsq) fe9 := np_low_f hnmm.1.1 hnmm.2.2 (fun j hj => by rw [hfe2 j (by omega), hfl2, if_pos ⟨by omega, by omega⟩, hfd2 _ (by omega), hT6 _ (by omega), show x + (o + j) = x + o + j by omega])
      have k21 : G61 ta = some (.inr (7, [.ref b, .int (nI tp.length)])) := hx61.o k16
      have ne_qe_ta : ta ≠ qe := zg_fr nqe k16
      have k22 : G61 b = some (.inl (E.2.1 0, nb, .inl fb)) := hx61.o k17
      have ne_qe_b : b ≠ qe := zg_fr nqe k17
      have k23 : G61 qd = some (.inl (E.2.1 0, tp.length - x, .inl fl9)) := hx61.o k18
      have ne_qe_qd : qd ≠ qe := zg_fr nqe k18
      have k24 : G61 q47 = some (.inr (2, [.null, .null])) := hx61.o k19
      have ne_qe_q47 : q47 ≠ qe := zg_fr nqe k19
      have k25 : G61 q52 = some (.inr (3, [.null, .int 0])) := hx61.o k20
      have ne_qe_q52 : q52 ≠ qe := zg_fr nqe k20
      have hx26 : zx z0 G G61 := hx15.tr (hx61.w (fun _ z => z.elim))
      have hGo64 := hG
      refine zk_v (va_runI (As := [.ref qe]) (rest := [.ref q52, .ref qd, .ref q47, .ref q47]) ⟨hx, hb, hml, hown, hts⟩ (t_Na_init l E G61 q52 qe (np_low lsq) fe9 hqe2 hfe3 (np_low_g hnmm.1) k25) (zcI 1 hts w_930 w_110 w_7 w_111 rfl (by decide +kernel) ⟨Nat.le_of_ble_eq_true rfl, Nat.le_of_ble_eq_true rfl⟩) (zc_pre hbase hK hN hQ hG hS) rfl rfl hl.1 rfl (lv_room (Nat.le_of_ble_eq_true rfl)) d_Ta_datum_64 ⟨(by dsimp only; omega), (by dsimp only; omega)⟩) hS (fun G64 H locs hp64 hG hS => ?_)
      have hx27 : zx z0 G G64 := by rw [hp64]; exact hx26.upn nf52
      have k28 : G64 ta = some (.inr (7, [.ref b, .int (nI tp.length)])) := by rw [hp64, zg_up_ne (ne52_ta)]; exact k21
      have k29 : G64 b = some (.inl (E.2.1 0, nb, .inl fb)) := by rw [hp64, zg_up_ne (ne52_b)]; exact k22
      have k30 : G64 qd = some (.inl (E.2.1 0, tp.length - x, .inl fl9)) := by rw [hp64, zg_up_ne (ne52_qd)]; exact k23
      have k31 : G64 q47 = some (.inr (2, [.null, .null])) := by rw [hp64, zg_up_ne (ne52_q47)]; exact k24
      have k32 : G64 q52 = some (.inr (3, [.ref qe, .int (nI (np_low lsq).length)])) := by rw [hp64]; exact zg_up_self _ _ _
      have k33 : G64 qe = some (.inl (E.2.1 0, np_len (np_low lsq), .inl fe9)) := by rw [hp64, zg_up_ne (Ne.symm ne_qe_q52)]; exact hqe2
      have hGo67 := hG
      refine zk_v (va_runI (As := [.ref qd, .ref q52]) (rest := [.ref q47]) ⟨hx, hb, hml, hown, hts⟩ (t_Da_init_s l E G64 q47 qd q52 k31) (zcI 2 hts w_928 w_136 w_8 w_137 rfl (by decide +kernel) ⟨Nat.le_of_ble_eq_true rfl, Nat.le_of_ble_eq_true rfl⟩) (zc_pre hbase hK hN hQ hG hS) rfl rfl hl.1 rfl (lv_room (Nat.le_of_ble_eq_true rfl)) d_Ta_datum_67 ⟨(by dsimp only; omega), (by dsimp only; omega)⟩) hS (fun G67 H locs hp67 hG hS => ?_)
      have hx34 : zx z0 G G67 := by rw [hp67]; exact hx27.upn nf47
      have k35 : G67 ta = some (.inr (7, [.ref b, .int (nI tp.length)])) := by rw [hp67, zg_up_ne (ne47_ta)]; exact k28
      have k36 : G67 b = some (.inl (E.2.1 0, nb, .inl fb)) := by rw [hp67, zg_up_ne (ne47_b)]; exact k29
      have k37 : G67 qd = some (.inl (E.2.1 0, tp.length - x, .inl fl9)) := by rw [hp67, zg_up_ne (ne47_qd)]; exact k30
      have k38 : G67 q47 = some (.inr (2, [.ref qd, .ref q52])) := by rw [hp67]; exact zg_up_self _ _ _
      have k39 : G67 q52 = some (.inr (3, [.ref qe, .int (nI (np_low lsq).length)])) := by rw [hp67, zg_up_ne (Ne.symm ne52_q47)]; exact k32
      have k40 : G67 qe = some (.inl (E.2.1 0, np_len (np_low lsq), .inl fe9)) := by rw [hp67, zg_up_ne (Ne.symm ne_qe_q47)]; exact k33
      exact hret (some q47) _ _ _ _ _ _ _ _ hr (Or.inl ⟨_, rfl⟩) (⟨q47, rfl, hx34, fun ro => ⟨zrn (zrn (zrn (zrn ro qd (0, 0)) q47 (0, 0)) q52 (0, 0)) qe (0, 0), (((zro.nw nqd).tr2 (zro.nw nf47)).tr2 (zro.nw nf52)).tr2 (zro.nw nfe), qd, some q52, k38, ⟨fl9, by rw [zdb_len]; exact k37, fun j hj => by rw [zdb_len] at hj; rw [zdb_at hj, hfl2, hof, zi_n _ (by omega)]; exact zdb_f hj hfd2 (fun i hi => hT6 i hi) (by omega), hfl1⟩, zrn_all4 _ _ _ _ _ _ (Or.inr (Or.inl rfl)), zrn_all4 _ _ _ _ _ _ (Or.inl rfl), Or.inr ⟨q52, np_low lsq, rfl, rfl, qe, fe9, k39, k40, hfe3, np_low_g hnmm.1, hfe1, zrn_all4 _ _ _ _ _ _ (Or.inr (Or.inr (Or.inl rfl))), zrn_all4 _ _ _ _ _ _ (Or.inr (Or.inr (Or.inr rfl)))⟩⟩⟩) hG hS (by dsimp only; omega) (by dsimp only; omega) d_Ta_datum_70
    · have b28 : ¬ o ≤ (tp.length - x) := fun q => c28 ((nI_leI (a := o) (b := (tp.length - x)) (by omega) (by omega)).mpr q)
      exact absurd (show o ≤ tp.length - x by omega) b28
