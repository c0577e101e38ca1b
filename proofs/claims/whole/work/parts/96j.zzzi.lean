/-- three names that are the tape -/
def zOrg (tp : List Int32) (x y z : np_N) : Prop := zNm (fun j => tp.getD (0 + j) 0) (tp.length - 0) x ∧ zNm (fun j => tp.getD (np_len x + j) 0) (tp.length - np_len x) y ∧ zNm (fun j => tp.getD (np_len x + np_len y + j) 0) (tp.length - (np_len x + np_len y)) z ∧ np_len x + np_len y + np_len z = tp.length
/-- the start's two names as they lie on the tape, in lower case -/
def zlw (tp : List Int32) (p : Nat) : List Int32 := (tp.drop p).map zlow
theorem zlw_len (tp : List Int32) (p : Nat) : (zlw tp p).length = tp.length - p := by unfold zlw; rw [List.length_map, List.length_drop]
theorem zlw_at {tp : List Int32} {p j : Nat} (h : j < tp.length - p) : (zlw tp p).getD j 0 = zlow (tp.getD (p + j) 0) := by
  unfold zlw
  have hl : p + j < tp.length := by omega
  rw [List.getD_eq_getElem?_getD, List.getElem?_map, List.getElem?_drop, List.getElem?_eq_getElem hl, List.getD_eq_getElem?_getD, List.getElem?_eq_getElem hl]; rfl
def zsD (b : List Int32) (v0 v1 v2 v3 v4 : Int32) : List Int32 := b ++ zby v0 ++ zby v1 ++ zby v2 ++ zby v3 ++ zby v4
theorem getD_app (a b : List Int32) (j : Nat) : (a ++ b).getD j 0 = if j < a.length then a.getD j 0 else b.getD (j - a.length) 0 := by
  rw [List.getD_eq_getElem?_getD]
  by_cases h : j < a.length
  · rw [if_pos h, List.getElem?_append_left h, List.getD_eq_getElem?_getD]
  · rw [if_neg h, List.getElem?_append_right (by omega), List.getD_eq_getElem?_getD]
theorem zsD_len (b : List Int32) (v0 v1 v2 v3 v4 : Int32) : (zsD b v0 v1 v2 v3 v4).length = b.length + 20 := by
  unfold zsD
  simp only [List.length_append, zby_len]
theorem zsD_sr (b : List Int32) (u v0 v1 v2 v3 v4 : Int32) : zs20 (zsD b u v1 v2 v3 v4) v0 = zsD b v0 v1 v2 v3 v4 := by
  refine ext_getD (by rw [zs20_len, zsD_len, zsD_len]) (fun j hj => ?_)
  rw [zs20_len] at hj
  rw [zs20_at hj, zsD_len, show b.length + 20 - 20 = b.length by omega]
  rw [zsD_len] at hj
  have e : ∀ w, zsD b w v1 v2 v3 v4 = (b ++ zby w) ++ (zby v1 ++ zby v2 ++ zby v3 ++ zby v4) := fun w => by unfold zsD; simp only [List.append_assoc]
  by_cases z : j < b.length + 4
  · have q := zw4_tp (f := fun j => (zsD b u v1 v2 v3 v4).getD j 0) (tp := b) (x := v0) (fun i hi => by rw [e, getD_app, if_pos (by rw [List.length_append, zby_len]; omega), getD_app, if_pos hi]) j (by rw [List.length_append, zby_len]; exact z)
    rw [q, e v0, getD_app (b ++ zby v0), if_pos (by rw [List.length_append, zby_len]; exact z)]
  · have hz : zw4 (fun j => (zsD b u v1 v2 v3 v4).getD j 0) b.length v0 j = (zsD b u v1 v2 v3 v4).getD j 0 := by
      unfold zw4 upd
      rw [if_neg (by omega), if_neg (by omega), if_neg (by omega), if_neg (by omega)]
    rw [hz, e u, e v0, getD_app (b ++ zby u), getD_app (b ++ zby v0), List.length_append, List.length_append, zby_len, zby_len, if_neg z, if_neg z]
theorem zby_0 : zby 0 = [0, 0, 0, 0] := by decide
theorem zOrg_un {tp : List Int32} {x y z x2 y2 z2 : np_N} (h : zOrg tp x y z) (h2 : zOrg tp x2 y2 z2) : x2 = x ∧ y2 = y ∧ z2 = z := by
  have e1 := zNm_un h2.1 h.1
  subst e1
  have e2 := zNm_un h2.2.1 h.2.1
  subst e2
  exact ⟨rfl, rfl, zNm_un h2.2.2.1 h.2.2.1⟩
/-- a zone of nothing but its start -/
def vor (top : np_N) (tm : Int32) (soa : List Int32) : zVt := fun y t => if y = top ∧ t = 6 then [(tm, soa)] else []
theorem zrn3 (ro : zRo) (a b c : Nat) : zrn (zrn (zrn ro a (0, 0)) b (0, 0)) c (0, 0) a = (0, 0) ∧ zrn (zrn (zrn ro a (0, 0)) b (0, 0)) c (0, 0) b = (0, 0) ∧ zrn (zrn (zrn ro a (0, 0)) b (0, 0)) c (0, 0) c = (0, 0) := by
  unfold zrn
  refine ⟨?_, ?_, ?_⟩ <;> (repeat' split) <;> first | rfl | contradiction
theorem zOrg_n1 {tp : List Int32} (h : ¬ ∃ ls, zNm (fun j => tp.getD (0 + j) 0) (tp.length - 0) ls) : ¬ ∃ x y z, zOrg tp x y z := fun ⟨x, _, _, q⟩ => h ⟨x, q.1⟩
theorem zOrg_n2 {tp : List Int32} {x : np_N} (h1 : zNm (fun j => tp.getD (0 + j) 0) (tp.length - 0) x) (h : ¬ ∃ ls, zNm (fun j => tp.getD (np_len x + j) 0) (tp.length - np_len x) ls) : ¬ ∃ x y z, zOrg tp x y z := fun ⟨x2, y, _, q⟩ => h ⟨y, by rw [← zNm_un q.1 h1]; exact q.2.1⟩
theorem zOrg_n3 {tp : List Int32} {x y : np_N} (h1 : zNm (fun j => tp.getD (0 + j) 0) (tp.length - 0) x) (h2 : zNm (fun j => tp.getD (np_len x + j) 0) (tp.length - np_len x) y) (h : ¬ ∃ ls, zNm (fun j => tp.getD (np_len x + np_len y + j) 0) (tp.length - (np_len x + np_len y)) ls) : ¬ ∃ x y z, zOrg tp x y z := fun ⟨x2, y2, z2, q⟩ => by
  have e1 := zNm_un q.1 h1
  subst e1
  have e2 := zNm_un q.2.1 h2
  subst e2
  exact h ⟨z2, q.2.2.1⟩
theorem zOrg_n4 {tp : List Int32} {x y z : np_N} (h1 : zNm (fun j => tp.getD (0 + j) 0) (tp.length - 0) x) (h2 : zNm (fun j => tp.getD (np_len x + j) 0) (tp.length - np_len x) y) (h3 : zNm (fun j => tp.getD (np_len x + np_len y + j) 0) (tp.length - (np_len x + np_len y)) z) (h : ¬ np_len x + np_len y + np_len z = tp.length) : ¬ ∃ x y z, zOrg tp x y z := fun ⟨x2, y2, z2, q⟩ => by
  have e1 := zNm_un q.1 h1
  subst e1
  have e2 := zNm_un q.2.1 h2
  subst e2
  have e3 := zNm_un q.2.2.1 h3
  subst e3
  exact h q.2.2.2
theorem zor_b0 {tp : List Int32} {p N : Nat} {fa fb : Nat → Int32} (hN : tp.length = p + N) (h1 : ∀ j, j < N → fa j = zlow (tp.getD (p + j) 0)) (h2 : ∀ j, j < N → fb j = fa j) (h3 : ∀ j, N ≤ j → fb j = 0) : ∀ j, j < (zlw tp p ++ zby 0).length → fb j = (zlw tp p ++ zby 0).getD j 0 := fun j hj => by
  rw [List.length_append, zby_len, zlw_len] at hj
  rw [getD_app, zlw_len]
  by_cases z : j < tp.length - p
  · rw [if_pos z, h2 j (by omega), h1 j (by omega), zlw_at z]
  · rw [if_neg z, h3 j (by omega), zby_0]
    rcases (show j - (tp.length - p) = 0 ∨ j - (tp.length - p) = 1 ∨ j - (tp.length - p) = 2 ∨ j - (tp.length - p) = 3 by omega) with q | q | q | q <;> rw [q] <;> rfl
theorem zw4_tq {f : Nat → Int32} {tp : List Int32} {x : Int32} {n : Nat} (hn : tp.length = n) (h : ∀ j, j < tp.length → f j = tp.getD j 0) : ((∀ j, j < (tp ++ zby x).length → zw4 f n x j = (tp ++ zby x).getD j 0)) ∧ (tp ++ zby x).length = n + 4 := by
  subst hn
  exact ⟨zw4_tp h, by rw [List.length_append, zby_len]⟩
theorem zor_by {tp : List Int32} {p N : Nat} {fa fb : Nat → Int32} (hN : tp.length = p + N) (h1 : ∀ j, j < N → fa j = zlow (tp.getD (p + j) 0)) (h2 : ∀ j, j < N → fb j = fa j) (h3 : ∀ j, N ≤ j → fb j = 0) (x2 x3 x4 x5 : Int32) : (∀ j, j < (zsD (zlw tp p) 0 x2 x3 x4 x5).length → zw4 (zw4 (zw4 (zw4 (fb) (N + 4) x2) (N + 8) x3) (N + 12) x4) (N + 16) x5 j = (zsD (zlw tp p) 0 x2 x3 x4 x5).getD j 0) ∧ (zsD (zlw tp p) 0 x2 x3 x4 x5).length = N + 20 := by
  have q0 := zor_b0 hN h1 h2 h3
  have l0 : (zlw tp p ++ zby 0).length = N + 4 := by rw [List.length_append, zby_len, zlw_len]; omega
  obtain ⟨q1, l1⟩ := zw4_tq (x := x2) l0 q0
  obtain ⟨q2, l2⟩ := zw4_tq (x := x3) l1 q1
  obtain ⟨q3, l3⟩ := zw4_tq (x := x4) l2 q2
  obtain ⟨q4, l4⟩ := zw4_tq (x := x5) l3 q3
  exact ⟨q4, l4⟩
theorem zor_N {L a b c : Nat} (h : a + b + c = L) : L = a + (b + c) := by omega
theorem zor_6 {b c L : Nat} (h : L = b + c + 20) (hb : b ≤ 255) (hc : c ≤ 255) : 20 ≤ L ∧ L ≤ 600 := by omega
theorem zsD_b (b : List Int32) (v0 v1 v2 v3 v4 u : Int32) {L : List Int32} (h : L = zsD b u v1 v2 v3 v4) (h6 : 20 ≤ L.length ∧ L.length ≤ 600) : 20 ≤ (zsD b v0 v1 v2 v3 v4).length ∧ (zsD b v0 v1 v2 v3 v4).length < 2 ^ 20 := by
  rw [h, zsD_len] at h6
  rw [zsD_len]; omega
theorem w_844 : (.methodLink "ZoneAnswers" 70 ⟨"java/util/Arrays", "copyOf", "([BI)[B"⟩ : Cond) ∈ zw := zw_at 844 (by decide +kernel) (by decide +kernel)
theorem w_845 : (.methodLink "ZoneAnswers" 76 ⟨"ZoneAnswers", "writeNumber", "([BII)V"⟩ : Cond) ∈ zw := zw_at 845 (by decide +kernel) (by decide +kernel)

abbrev rm_ZA_origin (s9 : Nat) : Room := { frames := 14, cells := 30, slots := s9, locals := 500 }
set_option maxHeartbeats 4000000 in
set_option maxRecDepth 100000 in
/-- origin(time, refresh, retry, expire, minimum) -/
theorem t_ZA_origin (l : Launch) (hoff : zl_off l) (E : zc_E) (G : zg_G) (k : Nat → Nat) (ro : zRo) (rc ty se : Int32) (os : List zOt) (top : np_N) (d1 d2 d3 : Nat) (t1 t2 t3 : List zTt) (b : Nat) (tp : List Int32) (hOb : zOb E G ro k rc ty se os top d1 d2 d3 t1 t2 t3 b tp) (hGZ : zGZ os top) (hdw : zdw os) (hdx : zdx os) (hrc : rc = nI (znr os)) (hzn : znr os < 2000) (x1 x2 x3 x4 x5 : Int32) (s9 : Nat) (h10 : 10 ≤ s9) (hs9 : ¬ x1 < 0 → (∃ x y z, zOrg tp x y z) → 3 * tp.length + 400 ≤ s9) : zT l E y_ZA_origin c_ZA_origin 11 none (rm_ZA_origin s9) [.ref (k 16), .int x1, .int x2, .int x3, .int x4, .int x5] G (fun (v : Option Value) (G2 : zg_G) => ¬ x1 < 0 ∧ ∃ ro2 lx ly lz n2, zOrg tp lx ly lz ∧ zOS E G2 ro2 (k 16) [] (vor (np_low lx) x1 (zsD (zlw tp (np_len lx)) 1 x2 x3 x4 x5)) (np_low lx) n2 (zWt t1 t2 t3) ∧ zfr ro zKc G ro2 G2 ∧ v = none) (fun cls => cls = "java/lang/IllegalArgumentException" ∧ (x1 < 0 ∨ ¬ ∃ x y z, zOrg tp x y z)) := by
  refine zT.of (by decide) (Nat.le_of_ble_eq_true rfl) ?_
  intro p e s m args below meth c hZ hex hG ls hl
  obtain ⟨hx, hb, hr, hts, hown, hlocks, hml, hnm, hbase, hK, hN, hQ⟩ := hZ
  have hl : lv_has ls 11 [(0, .ref (k 16)), (1, .int x1), (2, .int x2), (3, .int x3), (4, .int x4), (5, .int x5)] := hl
  have hS : zg_S (zc_b E) s.heap s.heap [] := va_S.rf
  obtain ⟨hCx, hO1, hO2, hTp, hO3, hO4, hO5⟩ := id hOb
  obtain ⟨⟨hz1, hz2, hz3, hz4, hz5, soa, u9, hz6, hz7, hz8, hz9, hzA⟩, ⟨ha1, ha2, hs1, hs2, hs3⟩, hT1⟩ := id hCx
  obtain ⟨bo, fo, hno1, hno2, hno3, hno4, hno5, -⟩ := id hz4
  have hne : 0 < os.length := hGZ.2.2.1
  have hsz := hGZ.1.sz
  have hol : os.length ≤ 2000 := by have := hsz.1; omega
  have hso := hGZ.1.1
  have hE00 : G (E.2.2.2 0) = none := hQ.out hG
  have hl0 := zWt_l t1 t2 t3
  have hx0 : zx z0 G G := zx.rf
  refine lv_aload_n hx hb d_ZA_origin_0 rfl (lv_at hl 0 rfl) ?_
  refine zg_get (ci := 10) (C := "ZoneAnswers") (T := T_ZA) (N := 3) hx hb hts zi_ZA hown hK hG hO1 rfl 0 (by decide) (hts _ w_703) (fun _ h9 => h9) rfl d_ZA_origin_1 ?_
  refine lv_iconst (v := 0) hx hb d_ZA_origin_4 (by decide) ?_
  refine zi_as (y := nI 0) (nI_0.symm) ?_
  have hGo5 := hG
  refine zk_i (va_runV (As := [.int (nI 0)]) (rest := []) ⟨hx, hb, hml, hown, hts⟩ (t_Ta_nameEnd l E G (k 17) b tp hTp hO5 (0) (by omega)) (zcV 1 hts w_829 w_830 w_831 w_2 w_832 (by decide +kernel) ⟨Nat.le_of_ble_eq_true rfl, Nat.le_of_ble_eq_true rfl⟩) (zc_preV hbase hK hN hQ hG hS hTp.1 rfl) rfl rfl hl.1 rfl (lv_room (Nat.le_of_ble_eq_true rfl)) d_ZA_origin_5 ⟨(by dsimp only; omega), (by dsimp only; omega)⟩) hS (fun r5 G5 H locs hp5 hG hS => ?_)
  rcases hp5 with ⟨⟨lx, hnm0, er5⟩ | ⟨hno9, er5⟩, eg5⟩
  · have hG : zP E G H := eg5 ▸ hG
    refine zi_as (y := nI (np_len lx)) (er5.trans (by rw [Nat.zero_add])) ?_
    have hng0 := hnm0.1.2
    have hnl0 := hnm0.2.1
    refine lv_istore (lv' := [(6, .int (nI (np_len lx))), (0, .ref (k 16)), (1, .int x1), (2, .int x2), (3, .int x3), (4, .int x4), (5, .int x5)]) hx hb d_ZA_origin_8 hl (by decide) rfl (fun ls hl => ?_)
    refine lv_aload_n hx hb d_ZA_origin_10 rfl (lv_at hl 1 rfl) ?_
    refine zg_get (ci := 10) (C := "ZoneAnswers") (T := T_ZA) (N := 3) hx hb hts zi_ZA hown hK hG hO1 rfl 0 (by decide) (hts _ w_703) (fun _ h9 => h9) rfl d_ZA_origin_11 ?_
    refine lv_iload hx hb d_ZA_origin_14 (lv_at hl 0 rfl) ?_
    have hGo16 := hG
    refine zk_i (va_runV (As := [.int (nI (np_len lx))]) (rest := []) ⟨hx, hb, hml, hown, hts⟩ (t_Ta_nameEnd l E G (k 17) b tp hTp hO5 (np_len lx) (by omega)) (zcV 1 hts w_829 w_830 w_831 w_2 w_832 (by decide +kernel) ⟨Nat.le_of_ble_eq_true rfl, Nat.le_of_ble_eq_true rfl⟩) (zc_preV hbase hK hN hQ hG hS hTp.1 rfl) rfl rfl hl.1 rfl (lv_room (Nat.le_of_ble_eq_true rfl)) d_ZA_origin_16 ⟨(by dsimp only; omega), (by dsimp only; omega)⟩) hS (fun r16 G16 H locs hp16 hG hS => ?_)
    rcases hp16 with ⟨⟨ly, hnm1, er16⟩ | ⟨hno9, er16⟩, eg16⟩
    · have hG : zP E G H := eg16 ▸ hG
      refine zi_as (y := nI (np_len lx + np_len ly)) (er16) ?_
      have hng1 := hnm1.1.2
      have hnl1 := hnm1.2.1
      refine lv_istore (lv' := [(7, .int (nI (np_len lx + np_len ly))), (6, .int (nI (np_len lx))), (0, .ref (k 16)), (1, .int x1), (2, .int x2), (3, .int x3), (4, .int x4), (5, .int x5)]) hx hb d_ZA_origin_19 hl (by decide) rfl (fun ls hl => ?_)
      refine lv_aload_n hx hb d_ZA_origin_21 rfl (lv_at hl 2 rfl) ?_
      refine zg_get (ci := 10) (C := "ZoneAnswers") (T := T_ZA) (N := 3) hx hb hts zi_ZA hown hK hG hO1 rfl 0 (by decide) (hts _ w_703) (fun _ h9 => h9) rfl d_ZA_origin_22 ?_
      refine lv_iload hx hb d_ZA_origin_25 (lv_at hl 0 rfl) ?_
      have hGo27 := hG
      refine zk_i (va_runV (As := [.int (nI (np_len lx + np_len ly))]) (rest := []) ⟨hx, hb, hml, hown, hts⟩ (t_Ta_nameEnd l E G (k 17) b tp hTp hO5 (np_len lx + np_len ly) (by omega)) (zcV 1 hts w_829 w_830 w_831 w_2 w_832 (by decide +kernel) ⟨Nat.le_of_ble_eq_true rfl, Nat.le_of_ble_eq_true rfl⟩) (zc_preV hbase hK hN hQ hG hS hTp.1 rfl) rfl rfl hl.1 rfl (lv_room (Nat.le_of_ble_eq_true rfl)) d_ZA_origin_27 ⟨(by dsimp only; omega), (by dsimp only; omega)⟩) hS (fun r27 G27 H locs hp27 hG hS => ?_)
      rcases hp27 with ⟨⟨lz, hnm2, er27⟩ | ⟨hno9, er27⟩, eg27⟩
      · have hG : zP E G H := eg27 ▸ hG
        refine zi_as (y := nI (np_len lx + np_len ly + np_len lz)) (er27) ?_
        have hng2 := hnm2.1.2
        have hnl2 := hnm2.2.1
        refine lv_istore (lv' := [(8, .int (nI (np_len lx + np_len ly + np_len lz))), (7, .int (nI (np_len lx + np_len ly))), (6, .int (nI (np_len lx))), (0, .ref (k 16)), (1, .int x1), (2, .int x2), (3, .int x3), (4, .int x4), (5, .int x5)]) hx hb d_ZA_origin_30 hl (by decide) rfl (fun ls hl => ?_)
        refine lv_iload_n hx hb d_ZA_origin_32 rfl (lv_at hl 4 rfl) ?_
        refine lv_if_lt (tgt := 53) hx hb d_ZA_origin_33 (by decide) (fun c33 => ?_) (fun c33 => ?_)
        · have hbt : x1 < 0 := c33
          exact zt_row (names := zt_up) (ic := 58) hoff hx hb (hml.trans hl.1.symm) hown hts hQ hex hlocks (zt_words hts hN hQ zt_iae) (by decide) (by decide) w_813 w_488 w_26 (⟨rfl, by first | exact Or.inr hbad | exact Or.inl hbt⟩) hG hS hbase (by dsimp only; omega) (by dsimp only; omega) (Nat.le_of_ble_eq_true rfl) (Nat.le_of_ble_eq_true rfl) d_ZA_origin_53 d_ZA_origin_56 d_ZA_origin_57 d_ZA_origin_60
        · refine lv_iload hx hb d_ZA_origin_36 (lv_at hl 0 rfl) ?_
          refine lv_if_lt (tgt := 53) hx hb d_ZA_origin_38 (by decide) (fun c38 => ?_) (fun c38 => ?_)
          · have b38 : (np_len lx + np_len ly + np_len lz) < 0 := (nI_ltI (a := (np_len lx + np_len ly + np_len lz)) (b := 0) (by omega) (by omega)).mp c38
            exact absurd b38 (Nat.not_lt_zero _)
          · have b38 : ¬ (np_len lx + np_len ly + np_len lz) < 0 := fun q => c38 ((nI_ltI (a := (np_len lx + np_len ly + np_len lz)) (b := 0) (by omega) (by omega)).mpr q)
            refine lv_iload hx hb d_ZA_origin_41 (lv_at hl 0 rfl) ?_
            refine lv_aload_n hx hb d_ZA_origin_43 rfl (lv_at hl 3 rfl) ?_
            refine zg_get (ci := 10) (C := "ZoneAnswers") (T := T_ZA) (N := 3) hx hb hts zi_ZA hown hK hG hO1 rfl 0 (by decide) (hts _ w_703) (fun _ h9 => h9) rfl d_ZA_origin_44 ?_
            refine zk_i (va_runV (As := []) (rest := [.int (nI (np_len lx + np_len ly + np_len lz))]) ⟨hx, hb, hml, hown, hts⟩ (t_Ta_length l E G (k 17) b (nI tp.length) hTp.1) (zcV 0 hts w_729 w_730 w_731 w_2 w_732 (by decide +kernel) ⟨Nat.le_of_ble_eq_true rfl, Nat.le_of_ble_eq_true rfl⟩) (zc_preV hbase hK hN hQ hG hS hTp.1 rfl) rfl rfl hl.1 rfl (lv_room (Nat.le_of_ble_eq_true rfl)) d_ZA_origin_47 ⟨(by dsimp only; omega), (by dsimp only; omega)⟩) hS (fun r47 G47 H locs hp47 hG hS => ?_)
            have hG : zP E G H := hp47.2 ▸ hG
            refine zi_as (y := nI tp.length) hp47.1 ?_
            refine lv_icmp_eq (tgt := 61) hx hb d_ZA_origin_50 (by decide) (fun c50 => ?_) (fun c50 => ?_)
            · have b50 : (np_len lx + np_len ly + np_len lz) = tp.length := (nI_eq (a := (np_len lx + np_len ly + np_len lz)) (b := tp.length) (by omega) (by omega)).mp c50
              have hbig := hs9 c33 ⟨lx, ly, lz, hnm0, hnm1, hnm2, b50⟩
              refine lv_iload hx hb d_ZA_origin_61 (lv_at hl 0 rfl) ?_
              refine lv_iload hx hb d_ZA_origin_63 (lv_at hl 2 rfl) ?_
              refine lv_isub hx hb d_ZA_origin_65 ?_
              refine zi_as (y := nI (np_len ly + np_len lz)) (by rw [zi_sub (by omega)]; congr 1; omega) ?_
              refine lv_istore (lv' := [(9, .int (nI (np_len ly + np_len lz))), (8, .int (nI (np_len lx + np_len ly + np_len lz))), (7, .int (nI (np_len lx + np_len ly))), (6, .int (nI (np_len lx))), (0, .ref (k 16)), (1, .int x1), (2, .int x2), (3, .int x3), (4, .int x4), (5, .int x5)]) hx hb d_ZA_origin_66 hl (by decide) rfl (fun ls hl => ?_)
              refine lv_aload_n hx hb d_ZA_origin_68 rfl (lv_at hl 4 rfl) ?_
              refine zg_get (ci := 10) (C := "ZoneAnswers") (T := T_ZA) (N := 3) hx hb hts zi_ZA hown hK hG hO1 rfl 0 (by decide) (hts _ w_703) (fun _ h9 => h9) rfl d_ZA_origin_69 ?_
              refine lv_iload hx hb d_ZA_origin_72 (lv_at hl 3 rfl) ?_
              refine lv_iload hx hb d_ZA_origin_74 (lv_at hl 1 rfl) ?_
              have hGo76 := hG
              refine zk_q (va_runV (As := [.int (nI (np_len lx)), .int (nI (np_len lx + np_len ly + np_len lz))]) (rest := []) ⟨hx, hb, hml, hown, hts⟩ (t_Ta_lowered l E G (k 17) b tp (hTp.x hx0) (np_len lx) (np_len lx + np_len ly + np_len lz) (by omega) (by omega)) (zcV 2 hts w_833 w_834 w_835 w_2 w_836 (by decide +kernel) ⟨Nat.le_of_ble_eq_true rfl, Nat.le_of_ble_eq_true rfl⟩) (zc_preV hbase hK hN hQ hG hS hTp.1 rfl) rfl rfl hl.1 rfl (lv_room (Nat.le_of_ble_eq_true rfl)) d_ZA_origin_76 ⟨(by dsimp only; omega), (by dsimp only; omega)⟩) hS (fun r76 G76 H locs hp76 hG hS => ?_)
              obtain ⟨qa, fa, er76, nqa, hx76, hqa, hfa1, hfa2⟩ := hp76
              refine zr_some (a := qa) er76 ?_
              have hqa2 : G76 qa = some (.inl (E.2.1 0, np_len ly + np_len lz, .inl fa)) := by rw [show np_len ly + np_len lz = np_len lx + np_len ly + np_len lz - np_len lx by omega]; exact hqa
              have k1 : G76 (k 0) = some (.inr (1, [.ref (k 1), .ref (k 2), .ref (k 3), .ref (k 4), .int ty, .int se])) := hx76.o ha1
              have ne_qa_k_0 : k 0 ≠ qa := zg_fr nqa ha1
              have k2 : G76 (k 1) = some (.inr (9, [.ref (k 11), .ref (k 12), .ref (k 13), .ref (k 14), .int rc])) := hx76.o hz1
              have ne_qa_k_1 : k 1 ≠ qa := zg_fr nqa hz1
              have k3 : G76 (k 2) = some (.inr (6, [.ref (k 5)])) := hx76.o hs1.1.1
              have ne_qa_k_2 : k 2 ≠ qa := zg_fr nqa hs1.1.1
              have k4 : G76 (k 3) = some (.inr (6, [.ref (k 6)])) := hx76.o hs2.1.1
              have ne_qa_k_3 : k 3 ≠ qa := zg_fr nqa hs2.1.1
              have k5 : G76 (k 4) = some (.inr (6, [.ref (k 7)])) := hx76.o hs3.1.1
              have ne_qa_k_4 : k 4 ≠ qa := zg_fr nqa hs3.1.1
              have k6 : G76 (k 12) = some (.inr (3, [.ref bo, .int (nI top.length)])) := hx76.o hno1
              have ne_qa_k_12 : k 12 ≠ qa := zg_fr nqa hno1
              have k7 : G76 (k 16) = some (.inr (10, [.ref (k 17), .ref (k 1), .ref (k 0)])) := hx76.o hO1
              have ne_qa_k_16 : k 16 ≠ qa := zg_fr nqa hO1
              have k8 : G76 (k 17) = some (.inr (7, [.ref b, .int (nI tp.length)])) := hx76.o hTp.1
              have ne_qa_k_17 : k 17 ≠ qa := zg_fr nqa hTp.1
              have hx9 : zx z0 G G76 := hx0.tr (hx76.w (fun _ z => z.elim))
              refine lv_iload hx hb d_ZA_origin_79 (lv_at hl 0 rfl) ?_
              refine lv_bipush (v := 20) hx hb d_ZA_origin_81 (by decide) ?_
              refine lv_iadd hx hb d_ZA_origin_83 ?_
              refine zi_as (y := nI (np_len ly + np_len lz + 20)) (nI_add (np_len ly + np_len lz) 20) ?_
              have hGo84 := hG
              refine zk_q (va_runS (As := [.ref qa, .int (nI (np_len ly + np_len lz + 20))]) (rest := []) ⟨hx, hb, hml, hown, hts⟩ (t_Ar_copyOf l E G76 qa (np_len ly + np_len lz) fa hqa2 hfa1 (by omega) (np_len ly + np_len lz + 20) (by omega) (by omega)) (zcS 2 hts w_844 w_338 w_22 w_339 (by decide +kernel) ⟨Nat.le_of_ble_eq_true rfl, Nat.le_of_ble_eq_true rfl⟩) (zc_pre hbase hK hN hQ hG hS) rfl rfl hl.1 rfl (lv_room (Nat.le_of_ble_eq_true rfl)) d_ZA_origin_84 ⟨(by dsimp only; omega), (by dsimp only; omega)⟩) hS (fun r84 G84 H locs hp84 hG hS => ?_)
              obtain ⟨qb, fb9, er84, nqb, hx84, hqb, hfb1, hfb2, hfb3⟩ := hp84
              refine zr_some (a := qb) er84 ?_
              have nfb : G qb = none := zx.no hx9 nqb
              have k10 : G84 (k 0) = some (.inr (1, [.ref (k 1), .ref (k 2), .ref (k 3), .ref (k 4), .int ty, .int se])) := hx84.o k1
              have ne_qb_k_0 : k 0 ≠ qb := zg_fr nqb k1
              have k11 : G84 (k 1) = some (.inr (9, [.ref (k 11), .ref (k 12), .ref (k 13), .ref (k 14), .int rc])) := hx84.o k2
              have ne_qb_k_1 : k 1 ≠ qb := zg_fr nqb k2
              have k12 : G84 (k 2) = some (.inr (6, [.ref (k 5)])) := hx84.o k3
              have ne_qb_k_2 : k 2 ≠ qb := zg_fr nqb k3
              have k13 : G84 (k 3) = some (.inr (6, [.ref (k 6)])) := hx84.o k4
              have ne_qb_k_3 : k 3 ≠ qb := zg_fr nqb k4
              have k14 : G84 (k 4) = some (.inr (6, [.ref (k 7)])) := hx84.o k5
              have ne_qb_k_4 : k 4 ≠ qb := zg_fr nqb k5
              have k15 : G84 (k 12) = some (.inr (3, [.ref bo, .int (nI top.length)])) := hx84.o k6
              have ne_qb_k_12 : k 12 ≠ qb := zg_fr nqb k6
              have k16 : G84 (k 16) = some (.inr (10, [.ref (k 17), .ref (k 1), .ref (k 0)])) := hx84.o k7
              have ne_qb_k_16 : k 16 ≠ qb := zg_fr nqb k7
              have k17 : G84 (k 17) = some (.inr (7, [.ref b, .int (nI tp.length)])) := hx84.o k8
              have ne_qb_k_17 : k 17 ≠ qb := zg_fr nqb k8
              have k18 : G84 qa = some (.inl (E.2.1 0, np_len ly + np_len lz, .inl fa)) := hx84.o hqa2
              have ne_qb_qa : qa ≠ qb := zg_fr nqb hqa2
              have hx19 : zx z0 G G84 := hx9.tr (hx84.w (fun _ z => z.elim))
              refine lv_astore (lv' := [(10, .ref qb), (9, .int (nI (np_len ly + np_len lz))), (8, .int (nI (np_len lx + np_len ly + np_len lz))), (7, .int (nI (np_len lx + np_len ly))), (6, .int (nI (np_len lx))), (0, .ref (k 16)), (1, .int x1), (2, .int x2), (3, .int x3), (4, .int x4), (5, .int x5)]) hx hb d_ZA_origin_87 hl (by decide) rfl (fun ls hl => ?_)
              refine lv_aload hx hb d_ZA_origin_89 (lv_at hl 0 rfl) ?_
              refine lv_iload hx hb d_ZA_origin_91 (lv_at hl 1 rfl) ?_
              refine lv_iconst (v := 4) hx hb d_ZA_origin_93 (by decide) ?_
              refine lv_iadd hx hb d_ZA_origin_94 ?_
              refine zi_as (y := nI (np_len ly + np_len lz + 4)) (nI_add (np_len ly + np_len lz) 4) ?_
              refine lv_iload_n hx hb d_ZA_origin_95 rfl (lv_at hl 7 rfl) ?_
              have hGo96 := hG
              refine zk_v (va_runS (As := [.ref qb, .int (nI (np_len ly + np_len lz + 4)), .int x2]) (rest := []) ⟨hx, hb, hml, hown, hts⟩ (t_ZA_writeNumber l E G84 qb (np_len ly + np_len lz + 20) (fb9) hqb hfb1 (by omega) (np_len ly + np_len lz + 4) (by omega) x2) (zcS 3 hts w_845 w_664 w_1 w_665 (by decide +kernel) ⟨Nat.le_of_ble_eq_true rfl, Nat.le_of_ble_eq_true rfl⟩) (zc_pre hbase hK hN hQ hG hS) rfl rfl hl.1 rfl (lv_room (Nat.le_of_ble_eq_true rfl)) d_ZA_origin_96 ⟨(by dsimp only; omega), (by dsimp only; omega)⟩) hS (fun G96 H locs hp96 hG hS => ?_)
              have hft1 : sb_Fit (zw4 (fb9) (np_len ly + np_len lz + 4) x2) := zw4_fit hfb1
              have hx20 : zx z0 G G96 := by rw [hp96]; exact hx19.upn nfb
              have k21 : G96 (k 0) = some (.inr (1, [.ref (k 1), .ref (k 2), .ref (k 3), .ref (k 4), .int ty, .int se])) := by rw [hp96, zg_up_ne (ne_qb_k_0)]; exact k10
              have k22 : G96 (k 1) = some (.inr (9, [.ref (k 11), .ref (k 12), .ref (k 13), .ref (k 14), .int rc])) := by rw [hp96, zg_up_ne (ne_qb_k_1)]; exact k11
              have k23 : G96 (k 2) = some (.inr (6, [.ref (k 5)])) := by rw [hp96, zg_up_ne (ne_qb_k_2)]; exact k12
              have k24 : G96 (k 3) = some (.inr (6, [.ref (k 6)])) := by rw [hp96, zg_up_ne (ne_qb_k_3)]; exact k13
              have k25 : G96 (k 4) = some (.inr (6, [.ref (k 7)])) := by rw [hp96, zg_up_ne (ne_qb_k_4)]; exact k14
              have k26 : G96 (k 12) = some (.inr (3, [.ref bo, .int (nI top.length)])) := by rw [hp96, zg_up_ne (ne_qb_k_12)]; exact k15
              have k27 : G96 (k 16) = some (.inr (10, [.ref (k 17), .ref (k 1), .ref (k 0)])) := by rw [hp96, zg_up_ne (ne_qb_k_16)]; exact k16
              have k28 : G96 (k 17) = some (.inr (7, [.ref b, .int (nI tp.length)])) := by rw [hp96, zg_up_ne (ne_qb_k_17)]; exact k17
              have k29 : G96 qa = some (.inl (E.2.1 0, np_len ly + np_len lz, .inl fa)) := by rw [hp96, zg_up_ne (ne_qb_qa)]; exact k18
              have k30 : G96 qb = some (.inl (E.2.1 0, np_len ly + np_len lz + 20, .inl (zw4 (fb9) (np_len ly + np_len lz + 4) x2))) := by rw [hp96]; exact zg_up_self _ _ _
              refine lv_aload hx hb d_ZA_origin_99 (lv_at hl 0 rfl) ?_
              refine lv_iload hx hb d_ZA_origin_101 (lv_at hl 1 rfl) ?_
              refine lv_bipush (v := 8) hx hb d_ZA_origin_103 (by decide) ?_
              refine lv_iadd hx hb d_ZA_origin_105 ?_
              refine zi_as (y := nI (np_len ly + np_len lz + 8)) (nI_add (np_len ly + np_len lz) 8) ?_
              refine lv_iload_n hx hb d_ZA_origin_106 rfl (lv_at hl 8 rfl) ?_
              have hGo107 := hG
              refine zk_v (va_runS (As := [.ref qb, .int (nI (np_len ly + np_len lz + 8)), .int x3]) (rest := []) ⟨hx, hb, hml, hown, hts⟩ (t_ZA_writeNumber l E G96 qb (np_len ly + np_len lz + 20) (zw4 (fb9) (np_len ly + np_len lz + 4) x2) k30 hft1 (by omega) (np_len ly + np_len lz + 8) (by omega) x3) (zcS 3 hts w_845 w_664 w_1 w_665 (by decide +kernel) ⟨Nat.le_of_ble_eq_true rfl, Nat.le_of_ble_eq_true rfl⟩) (zc_pre hbase hK hN hQ hG hS) rfl rfl hl.1 rfl (lv_room (Nat.le_of_ble_eq_true rfl)) d_ZA_origin_107 ⟨(by dsimp only; omega), (by dsimp only; omega)⟩) hS (fun G107 H locs hp107 hG hS => ?_)
              have hft2 : sb_Fit (zw4 (zw4 (fb9) (np_len ly + np_len lz + 4) x2) (np_len ly + np_len lz + 8) x3) := zw4_fit hft1
              have hx31 : zx z0 G G107 := by rw [hp107]; exact hx20.upn nfb
              have k32 : G107 (k 0) = some (.inr (1, [.ref (k 1), .ref (k 2), .ref (k 3), .ref (k 4), .int ty, .int se])) := by rw [hp107, zg_up_ne (ne_qb_k_0)]; exact k21
              have k33 : G107 (k 1) = some (.inr (9, [.ref (k 11), .ref (k 12), .ref (k 13), .ref (k 14), .int rc])) := by rw [hp107, zg_up_ne (ne_qb_k_1)]; exact k22
              have k34 : G107 (k 2) = some (.inr (6, [.ref (k 5)])) := by rw [hp107, zg_up_ne (ne_qb_k_2)]; exact k23
              have k35 : G107 (k 3) = some (.inr (6, [.ref (k 6)])) := by rw [hp107, zg_up_ne (ne_qb_k_3)]; exact k24
              have k36 : G107 (k 4) = some (.inr (6, [.ref (k 7)])) := by rw [hp107, zg_up_ne (ne_qb_k_4)]; exact k25
              have k37 : G107 (k 12) = some (.inr (3, [.ref bo, .int (nI top.length)])) := by rw [hp107, zg_up_ne (ne_qb_k_12)]; exact k26
              have k38 : G107 (k 16) = some (.inr (10, [.ref (k 17), .ref (k 1), .ref (k 0)])) := by rw [hp107, zg_up_ne (ne_qb_k_16)]; exact k27
              have k39 : G107 (k 17) = some (.inr (7, [.ref b, .int (nI tp.length)])) := by rw [hp107, zg_up_ne (ne_qb_k_17)]; exact k28
              have k40 : G107 qa = some (.inl (E.2.1 0, np_len ly + np_len lz, .inl fa)) := by rw [hp107, zg_up_ne (ne_qb_qa)]; exact k29
              have k41 : G107 qb = some (.inl (E.2.1 0, np_len ly + np_len lz + 20, .inl (zw4 (zw4 (fb9) (np_len ly + np_len lz + 4) x2) (np_len ly + np_len lz + 8) x3))) := by rw [hp107]; exact zg_up_self _ _ _
              refine lv_aload hx hb d_ZA_origin_110 (lv_at hl 0 rfl) ?_
              refine lv_iload hx hb d_ZA_origin_112 (lv_at hl 1 rfl) ?_
              refine lv_bipush (v := 12) hx hb d_ZA_origin_114 (by decide) ?_
              refine lv_iadd hx hb d_ZA_origin_116 ?_
              refine zi_as (y := nI (np_len ly + np_len lz + 12)) (nI_add (np_len ly + np_len lz) 12) ?_
              refine lv_iload hx hb d_ZA_origin_117 (lv_at hl 9 rfl) ?_
              have hGo119 := hG
              refine zk_v (va_runS (As := [.ref qb, .int (nI (np_len ly + np_len lz + 12)), .int x4]) (rest := []) ⟨hx, hb, hml, hown, hts⟩ (t_ZA_writeNumber l E G107 qb (np_len ly + np_len lz + 20) (zw4 (zw4 (fb9) (np_len ly + np_len lz + 4) x2) (np_len ly + np_len lz + 8) x3) k41 hft2 (by omega) (np_len ly + np_len lz + 12) (by omega) x4) (zcS 3 hts w_845 w_664 w_1 w_665 (by decide +kernel) ⟨Nat.le_of_ble_eq_true rfl, Nat.le_of_ble_eq_true rfl⟩) (zc_pre hbase hK hN hQ hG hS) rfl rfl hl.1 rfl (lv_room (Nat.le_of_ble_eq_true rfl)) d_ZA_origin_119 ⟨(by dsimp only; omega), (by dsimp only; omega)⟩) hS (fun G119 H locs hp119 hG hS => ?_)
              have hft3 : sb_Fit (zw4 (zw4 (zw4 (fb9) (np_len ly + np_len lz + 4) x2) (np_len ly + np_len lz + 8) x3) (np_len ly + np_len lz + 12) x4) := zw4_fit hft2
              have hx42 : zx z0 G G119 := by rw [hp119]; exact hx31.upn nfb
              have k43 : G119 (k 0) = some (.inr (1, [.ref (k 1), .ref (k 2), .ref (k 3), .ref (k 4), .int ty, .int se])) := by rw [hp119, zg_up_ne (ne_qb_k_0)]; exact k32
              have k44 : G119 (k 1) = some (.inr (9, [.ref (k 11), .ref (k 12), .ref (k 13), .ref (k 14), .int rc])) := by rw [hp119, zg_up_ne (ne_qb_k_1)]; exact k33
              have k45 : G119 (k 2) = some (.inr (6, [.ref (k 5)])) := by rw [hp119, zg_up_ne (ne_qb_k_2)]; exact k34
              have k46 : G119 (k 3) = some (.inr (6, [.ref (k 6)])) := by rw [hp119, zg_up_ne (ne_qb_k_3)]; exact k35
              have k47 : G119 (k 4) = some (.inr (6, [.ref (k 7)])) := by rw [hp119, zg_up_ne (ne_qb_k_4)]; exact k36
              have k48 : G119 (k 12) = some (.inr (3, [.ref bo, .int (nI top.length)])) := by rw [hp119, zg_up_ne (ne_qb_k_12)]; exact k37
              have k49 : G119 (k 16) = some (.inr (10, [.ref (k 17), .ref (k 1), .ref (k 0)])) := by rw [hp119, zg_up_ne (ne_qb_k_16)]; exact k38
              have k50 : G119 (k 17) = some (.inr (7, [.ref b, .int (nI tp.length)])) := by rw [hp119, zg_up_ne (ne_qb_k_17)]; exact k39
              have k51 : G119 qa = some (.inl (E.2.1 0, np_len ly + np_len lz, .inl fa)) := by rw [hp119, zg_up_ne (ne_qb_qa)]; exact k40
              have k52 : G119 qb = some (.inl (E.2.1 0, np_len ly + np_len lz + 20, .inl (zw4 (zw4 (zw4 (fb9) (np_len ly + np_len lz + 4) x2) (np_len ly + np_len lz + 8) x3) (np_len ly + np_len lz + 12) x4))) := by rw [hp119]; exact zg_up_self _ _ _
              refine lv_aload hx hb d_ZA_origin_122 (lv_at hl 0 rfl) ?_
              refine lv_iload hx hb d_ZA_origin_124 (lv_at hl 1 rfl) ?_
              refine lv_bipush (v := 16) hx hb d_ZA_origin_126 (by decide) ?_
              refine lv_iadd hx hb d_ZA_origin_128 ?_
              refine zi_as (y := nI (np_len ly + np_len lz + 16)) (nI_add (np_len ly + np_len lz) 16) ?_
              refine lv_iload hx hb d_ZA_origin_129 (lv_at hl 10 rfl) ?_
              have hGo131 := hG
              refine zk_v (va_runS (As := [.ref qb, .int (nI (np_len ly + np_len lz + 16)), .int x5]) (rest := []) ⟨hx, hb, hml, hown, hts⟩ (t_ZA_writeNumber l E G119 qb (np_len ly + np_len lz + 20) (zw4 (zw4 (zw4 (fb9) (np_len ly + np_len lz + 4) x2) (np_len ly + np_len lz + 8) x3) (np_len ly + np_len lz + 12) x4) k52 hft3 (by omega) (np_len ly + np_len lz + 16) (by omega) x5) (zcS 3 hts w_845 w_664 w_1 w_665 (by decide +kernel) ⟨Nat.le_of_ble_eq_true rfl, Nat.le_of_ble_eq_true rfl⟩) (zc_pre hbase hK hN hQ hG hS) rfl rfl hl.1 rfl (lv_room (Nat.le_of_ble_eq_true rfl)) d_ZA_origin_131 ⟨(by dsimp only; omega), (by dsimp only; omega)⟩) hS (fun G131 H locs hp131 hG hS => ?_)
              have hft4 : sb_Fit (zw4 (zw4 (zw4 (zw4 (fb9) (np_len ly + np_len lz + 4) x2) (np_len ly + np_len lz + 8) x3) (np_len ly + np_len lz + 12) x4) (np_len ly + np_len lz + 16) x5) := zw4_fit hft3
              have hx53 : zx z0 G G131 := by rw [hp131]; exact hx42.upn nfb
              have k54 : G131 (k 0) = some (.inr (1, [.ref (k 1), .ref (k 2), .ref (k 3), .ref (k 4), .int ty, .int se])) := by rw [hp131, zg_up_ne (ne_qb_k_0)]; exact k43
              have k55 : G131 (k 1) = some (.inr (9, [.ref (k 11), .ref (k 12), .ref (k 13), .ref (k 14), .int rc])) := by rw [hp131, zg_up_ne (ne_qb_k_1)]; exact k44
              have k56 : G131 (k 2) = some (.inr (6, [.ref (k 5)])) := by rw [hp131, zg_up_ne (ne_qb_k_2)]; exact k45
              have k57 : G131 (k 3) = some (.inr (6, [.ref (k 6)])) := by rw [hp131, zg_up_ne (ne_qb_k_3)]; exact k46
              have k58 : G131 (k 4) = some (.inr (6, [.ref (k 7)])) := by rw [hp131, zg_up_ne (ne_qb_k_4)]; exact k47
              have k59 : G131 (k 12) = some (.inr (3, [.ref bo, .int (nI top.length)])) := by rw [hp131, zg_up_ne (ne_qb_k_12)]; exact k48
              have k60 : G131 (k 16) = some (.inr (10, [.ref (k 17), .ref (k 1), .ref (k 0)])) := by rw [hp131, zg_up_ne (ne_qb_k_16)]; exact k49
              have k61 : G131 (k 17) = some (.inr (7, [.ref b, .int (nI tp.length)])) := by rw [hp131, zg_up_ne (ne_qb_k_17)]; exact k50
              have k62 : G131 qa = some (.inl (E.2.1 0, np_len ly + np_len lz, .inl fa)) := by rw [hp131, zg_up_ne (ne_qb_qa)]; exact k51
              have k63 : G131 qb = some (.inl (E.2.1 0, np_len ly + np_len lz + 20, .inl (zw4 (zw4 (zw4 (zw4 (fb9) (np_len ly + np_len lz + 4) x2) (np_len ly + np_len lz + 8) x3) (np_len ly + np_len lz + 12) x4) (np_len ly + np_len lz + 16) x5))) := by rw [hp131]; exact zg_up_self _ _ _
              refine lv_aload_n hx hb d_ZA_origin_134 rfl (lv_at hl 5 rfl) ?_
              refine zg_get (ci := 10) (C := "ZoneAnswers") (T := T_ZA) (N := 3) hx hb hts zi_ZA hown hK hG k60 rfl 1 (by decide) (hts _ w_704) (fun _ h9 => h9) rfl d_ZA_origin_135 ?_
              refine zg_new (ci := 3) (fs := [.null, .int 0]) (C := "ZoneAnswers$Name") (T := T_Na) (N := 2) hx hb hts zi_Na t_Na t_Na_ok hown (hts _ w_107) (hts _ w_108) (hts _ w_7) hK hG hS hbase rfl (fun j hj => by rcases (show j = 0 ∨ j = 1 by omega) with rfl | rfl <;> rfl) (by dsimp only; omega) (by dsimp only; omega) d_ZA_origin_138 (fun q138 H n138 hG hS => ?_)
              obtain ⟨G64, eG64⟩ : ∃ z : zg_G, z = zg_up G131 q138 (.inr (3, [.null, .int 0])) := ⟨_, rfl⟩
              have hG : zP E G64 H := by rw [eG64]; exact hG
              have nf138 : G q138 = none := zx.fr hx53 n138 (fun h => h)
              have hx65 : zx z0 G G64 := hx53.tr (by rw [eG64]; exact zx.nw n138)
              have ne138_k_0 : k 0 ≠ q138 := zg_fr n138 k54
              have k66 : G64 (k 0) = some (.inr (1, [.ref (k 1), .ref (k 2), .ref (k 3), .ref (k 4), .int ty, .int se])) := by rw [eG64, zg_up_ne (zg_fr n138 k54)]; exact k54
              have ne138_k_1 : k 1 ≠ q138 := zg_fr n138 k55
              have k67 : G64 (k 1) = some (.inr (9, [.ref (k 11), .ref (k 12), .ref (k 13), .ref (k 14), .int rc])) := by rw [eG64, zg_up_ne (zg_fr n138 k55)]; exact k55
              have ne138_k_2 : k 2 ≠ q138 := zg_fr n138 k56
              have k68 : G64 (k 2) = some (.inr (6, [.ref (k 5)])) := by rw [eG64, zg_up_ne (zg_fr n138 k56)]; exact k56
              have ne138_k_3 : k 3 ≠ q138 := zg_fr n138 k57
              have k69 : G64 (k 3) = some (.inr (6, [.ref (k 6)])) := by rw [eG64, zg_up_ne (zg_fr n138 k57)]; exact k57
              have ne138_k_4 : k 4 ≠ q138 := zg_fr n138 k58
              have k70 : G64 (k 4) = some (.inr (6, [.ref (k 7)])) := by rw [eG64, zg_up_ne (zg_fr n138 k58)]; exact k58
              have ne138_k_12 : k 12 ≠ q138 := zg_fr n138 k59
              have k71 : G64 (k 12) = some (.inr (3, [.ref bo, .int (nI top.length)])) := by rw [eG64, zg_up_ne (zg_fr n138 k59)]; exact k59
              have ne138_k_16 : k 16 ≠ q138 := zg_fr n138 k60
              have k72 : G64 (k 16) = some (.inr (10, [.ref (k 17), .ref (k 1), .ref (k 0)])) := by rw [eG64, zg_up_ne (zg_fr n138 k60)]; exact k60
              have ne138_k_17 : k 17 ≠ q138 := zg_fr n138 k61
              have k73 : G64 (k 17) = some (.inr (7, [.ref b, .int (nI tp.length)])) := by rw [eG64, zg_up_ne (zg_fr n138 k61)]; exact k61
              have ne138_qa : qa ≠ q138 := zg_fr n138 k62
              have k74 : G64 qa = some (.inl (E.2.1 0, np_len ly + np_len lz, .inl fa)) := by rw [eG64, zg_up_ne (zg_fr n138 k62)]; exact k62
              have ne138_qb : qb ≠ q138 := zg_fr n138 k63
              have k75 : G64 qb = some (.inl (E.2.1 0, np_len ly + np_len lz + 20, .inl (zw4 (zw4 (zw4 (zw4 (fb9) (np_len ly + np_len lz + 4) x2) (np_len ly + np_len lz + 8) x3) (np_len ly + np_len lz + 12) x4) (np_len ly + np_len lz + 16) x5))) := by rw [eG64, zg_up_ne (zg_fr n138 k63)]; exact k63
              have k76 : G64 q138 = some (.inr (3, [.null, .int 0])) := by rw [eG64]; exact zg_up_self _ _ _
              refine lv_dup hx hb d_ZA_origin_141 rfl ?_
              refine lv_aload_n hx hb d_ZA_origin_142 rfl (lv_at hl 5 rfl) ?_
              refine zg_get (ci := 10) (C := "ZoneAnswers") (T := T_ZA) (N := 3) hx hb hts zi_ZA hown hK hG k72 rfl 0 (by decide) (hts _ w_703) (fun _ h9 => h9) rfl d_ZA_origin_143 ?_
              refine lv_iconst (v := 0) hx hb d_ZA_origin_146 (by decide) ?_
              refine zi_as (y := nI 0) (nI_0.symm) ?_
              refine lv_iload hx hb d_ZA_origin_147 (lv_at hl 4 rfl) ?_
              have hGo149 := hG
              refine zk_q (va_runV (As := [.int (nI 0), .int (nI (np_len lx))]) (rest := [.ref q138, .ref q138, .ref (k 1)]) ⟨hx, hb, hml, hown, hts⟩ (t_Ta_lowered l E G64 (k 17) b tp (hTp.x hx65) 0 (np_len lx) (Nat.zero_le _) (by omega)) (zcV 2 hts w_833 w_834 w_835 w_2 w_836 (by decide +kernel) ⟨Nat.le_of_ble_eq_true rfl, Nat.le_of_ble_eq_true rfl⟩) (zc_preV hbase hK hN hQ hG hS k73 rfl) rfl rfl hl.1 rfl (lv_room (Nat.le_of_ble_eq_true rfl)) d_ZA_origin_149 ⟨(by dsimp only; omega), (by dsimp only; omega)⟩) hS (fun r149 G149 H locs hp149 hG hS => ?_)
              obtain ⟨qc, fc, er149, nqc, hx149, hqc, hfc1, hfc2⟩ := hp149
              refine zr_some (a := qc) er149 ?_
              have nfc : G qc = none := zx.no hx65 nqc
              have hqc2 : G149 qc = some (.inl (E.2.1 0, np_len (np_low lx), .inl fc)) := by rw [np_low_len hnm0.1.1]; exact hqc
              have hfc3 : np_f (np_low lx) fc := np_low_f hnm0.1.1 hnm0.2.2 (fun j hj => hfc2 j (by omega))
              have k77 : G149 (k 0) = some (.inr (1, [.ref (k 1), .ref (k 2), .ref (k 3), .ref (k 4), .int ty, .int se])) := hx149.o k66
              have ne_qc_k_0 : k 0 ≠ qc := zg_fr nqc k66
              have k78 : G149 (k 1) = some (.inr (9, [.ref (k 11), .ref (k 12), .ref (k 13), .ref (k 14), .int rc])) := hx149.o k67
              have ne_qc_k_1 : k 1 ≠ qc := zg_fr nqc k67
              have k79 : G149 (k 2) = some (.inr (6, [.ref (k 5)])) := hx149.o k68
              have ne_qc_k_2 : k 2 ≠ qc := zg_fr nqc k68
              have k80 : G149 (k 3) = some (.inr (6, [.ref (k 6)])) := hx149.o k69
              have ne_qc_k_3 : k 3 ≠ qc := zg_fr nqc k69
              have k81 : G149 (k 4) = some (.inr (6, [.ref (k 7)])) := hx149.o k70
              have ne_qc_k_4 : k 4 ≠ qc := zg_fr nqc k70
              have k82 : G149 (k 12) = some (.inr (3, [.ref bo, .int (nI top.length)])) := hx149.o k71
              have ne_qc_k_12 : k 12 ≠ qc := zg_fr nqc k71
              have k83 : G149 (k 16) = some (.inr (10, [.ref (k 17), .ref (k 1), .ref (k 0)])) := hx149.o k72
              have ne_qc_k_16 : k 16 ≠ qc := zg_fr nqc k72
              have k84 : G149 (k 17) = some (.inr (7, [.ref b, .int (nI tp.length)])) := hx149.o k73
              have ne_qc_k_17 : k 17 ≠ qc := zg_fr nqc k73
              have k85 : G149 qa = some (.inl (E.2.1 0, np_len ly + np_len lz, .inl fa)) := hx149.o k74
              have ne_qc_qa : qa ≠ qc := zg_fr nqc k74
              have k86 : G149 qb = some (.inl (E.2.1 0, np_len ly + np_len lz + 20, .inl (zw4 (zw4 (zw4 (zw4 (fb9) (np_len ly + np_len lz + 4) x2) (np_len ly + np_len lz + 8) x3) (np_len ly + np_len lz + 12) x4) (np_len ly + np_len lz + 16) x5))) := hx149.o k75
              have ne_qc_qb : qb ≠ qc := zg_fr nqc k75
              have k87 : G149 q138 = some (.inr (3, [.null, .int 0])) := hx149.o k76
              have ne_qc_q138 : q138 ≠ qc := zg_fr nqc k76
              have hx88 : zx z0 G G149 := hx65.tr (hx149.w (fun _ z => z.elim))
              have hGo152 := hG
              refine zk_v (va_runI (As := [.ref qc]) (rest := [.ref q138, .ref (k 1)]) ⟨hx, hb, hml, hown, hts⟩ (t_Na_init l E G149 q138 qc (np_low lx) fc hqc2 hfc3 (np_low_g hnm0.1) k87) (zcI 1 hts w_109 w_110 w_7 w_111 rfl (by decide +kernel) ⟨Nat.le_of_ble_eq_true rfl, Nat.le_of_ble_eq_true rfl⟩) (zc_pre hbase hK hN hQ hG hS) rfl rfl hl.1 rfl (lv_room (Nat.le_of_ble_eq_true rfl)) d_ZA_origin_152 ⟨(by dsimp only; omega), (by dsimp only; omega)⟩) hS (fun G152 H locs hp152 hG hS => ?_)
              have hx89 : zx z0 G G152 := by rw [hp152]; exact hx88.upn nf138
              have k90 : G152 (k 0) = some (.inr (1, [.ref (k 1), .ref (k 2), .ref (k 3), .ref (k 4), .int ty, .int se])) := by rw [hp152, zg_up_ne (ne138_k_0)]; exact k77
              have k91 : G152 (k 1) = some (.inr (9, [.ref (k 11), .ref (k 12), .ref (k 13), .ref (k 14), .int rc])) := by rw [hp152, zg_up_ne (ne138_k_1)]; exact k78
              have k92 : G152 (k 2) = some (.inr (6, [.ref (k 5)])) := by rw [hp152, zg_up_ne (ne138_k_2)]; exact k79
              have k93 : G152 (k 3) = some (.inr (6, [.ref (k 6)])) := by rw [hp152, zg_up_ne (ne138_k_3)]; exact k80
              have k94 : G152 (k 4) = some (.inr (6, [.ref (k 7)])) := by rw [hp152, zg_up_ne (ne138_k_4)]; exact k81
              have k95 : G152 (k 12) = some (.inr (3, [.ref bo, .int (nI top.length)])) := by rw [hp152, zg_up_ne (ne138_k_12)]; exact k82
              have k96 : G152 (k 16) = some (.inr (10, [.ref (k 17), .ref (k 1), .ref (k 0)])) := by rw [hp152, zg_up_ne (ne138_k_16)]; exact k83
              have k97 : G152 (k 17) = some (.inr (7, [.ref b, .int (nI tp.length)])) := by rw [hp152, zg_up_ne (ne138_k_17)]; exact k84
              have k98 : G152 qa = some (.inl (E.2.1 0, np_len ly + np_len lz, .inl fa)) := by rw [hp152, zg_up_ne (ne138_qa)]; exact k85
              have k99 : G152 qb = some (.inl (E.2.1 0, np_len ly + np_len lz + 20, .inl (zw4 (zw4 (zw4 (zw4 (fb9) (np_len ly + np_len lz + 4) x2) (np_len ly + np_len lz + 8) x3) (np_len ly + np_len lz + 12) x4) (np_len ly + np_len lz + 16) x5))) := by rw [hp152, zg_up_ne (ne138_qb)]; exact k86
              have k100 : G152 q138 = some (.inr (3, [.ref qc, .int (nI (np_low lx).length)])) := by rw [hp152]; exact zg_up_self _ _ _
              have k101 : G152 qc = some (.inl (E.2.1 0, np_len (np_low lx), .inl fc)) := by rw [hp152, zg_up_ne (Ne.symm ne_qc_q138)]; exact hqc2
              refine lv_aload hx hb d_ZA_origin_155 (lv_at hl 0 rfl) ?_
              refine lv_iload_n hx hb d_ZA_origin_157 rfl (lv_at hl 6 rfl) ?_
              have hEB : G152 (E.2.2.2 0) = none := hQ.out hG
              have hxB : zx z0 G G152 := hx89
              obtain ⟨roB, erB⟩ : ∃ z : zRo, z = zrn (zrn (zrn ro qb (0, 0)) q138 (0, 0)) qc (0, 0) := ⟨_, rfl⟩
              have hrB : zro G ro roB := by rw [erB]; exact ((zro.nw nfb).tr2 (zro.nw nf138)).tr2 (zro.nw nfc)
              have hfB : zfr ro (fun _ => False) G roB _ := zfr.z hxB hrB
              have hObB := hOb.z hfB hE00 hEB
              obtain ⟨hCxB, hO1B, hO2B, hTpB, hO3B, hO4B, hO5B⟩ := id hObB
              obtain ⟨⟨hz1B, hz2B, hz3B, hz4B, hz5B, soaB, u9B, hz6B, hz7B, hz8B, hz9B, hzAB⟩, ⟨ha1B, ha2B, hs1B, hs2B, hs3B⟩, hT1B⟩ := id hCxB
              obtain ⟨boB, foB, hno1B, hno2B, hno3B, hno4B, hno5B, -⟩ := id hz4B
              have hrall : roB qb = (0, 0) ∧ roB q138 = (0, 0) ∧ roB qc = (0, 0) := by rw [erB]; exact zrn3 ro qb q138 qc
              have hNmB : zNR E G152 roB q138 (np_low lx) := ⟨qc, fc, k100, k101, hfc3, np_low_g hnm0.1, hfc1, hrall.2.1, hrall.2.2⟩
              obtain ⟨BS9, eB9⟩ : ∃ z, z = zsD (zlw tp (np_len lx)) 0 x2 x3 x4 x5 := ⟨_, rfl⟩
              have hor9 := zor_by (zor_N b50.symm.symm) (fun j hj => hfa2 j (by rw [show np_len lx + np_len ly + np_len lz - np_len lx = np_len ly + np_len lz by omega]; exact hj)) hfb2 hfb3 x2 x3 x4 x5
              rw [← eB9] at hor9
              have h69 := zor_6 hor9.2 hng1 hng2
              have hByB : zBy E G152 qb BS9 := ⟨zw4 (zw4 (zw4 (zw4 (fb9) (np_len ly + np_len lz + 4) x2) (np_len ly + np_len lz + 8) x3) (np_len ly + np_len lz + 12) x4) (np_len ly + np_len lz + 16) x5, by rw [hor9.2]; exact k99, hor9.1, hft4⟩
              replace hor9 := hor9.2
              have hGo158 := hG
              refine zk_v (va_runV (As := [.ref q138, .ref qb, .int x1]) (rest := []) ⟨hx, hb, hml, hown, hts⟩ (t_Zo_begin l E G152 (k 1) (k 11) (k 12) (k 13) (k 14) rc hz1B roB (k 15) os hz3B hz2B qb BS9 hByB hrall.1 h69.1 h69.2 q138 (np_low lx) hNmB x1) (zcV 3 hts w_125 w_126 w_127 w_3 w_128 (by decide +kernel) ⟨Nat.le_of_ble_eq_true rfl, Nat.le_of_ble_eq_true rfl⟩) (zc_preV hbase hK hN hQ hG hS k91 rfl) rfl rfl hl.1 rfl (lv_room (Nat.le_of_ble_eq_true rfl)) d_ZA_origin_158 ⟨(by dsimp only; omega), (by dsimp only; omega)⟩) hS (fun G158 H locs hp158 hG hS => ?_)
              obtain ⟨ro2, dd2, os2, st2, sd2, hZ2, hfr2, hra2, haz2, hgo2, hct2, hnr2, hgt2, hsa2, hBy2, hrs2⟩ := hp158
              have hE2 : G158 (E.2.2.2 0) = none := hQ.out hG
              rw [eB9, zsD_sr] at hgt2 hBy2
              have hV2 : zV os2 = vor (np_low lx) x1 (zsD (zlw tp (np_len lx)) 1 x2 x3 x4 x5) := zV_cg (fun y t => by
                rw [hgt2]; unfold vor
                by_cases z : y = np_low lx ∧ t = 6
                · rw [if_pos z, if_pos z]; rfl
                · rw [if_neg z, if_neg z]; rfl)
              have hon : ∀ y t, vor (np_low lx) x1 (zsD (zlw tp (np_len lx)) 1 x2 x3 x4 x5) y t ≠ [] → y = np_low lx ∧ t = 6 := fun y t hn => by
                unfold vor at hn
                split at hn
                · rename_i z; exact z
                · exact absurd rfl hn
              have hGZ2 : zGZ os2 (np_low lx) := zGZ.of hgo2 hct2 hZ2 ⟨6, by rw [hV2]; unfold vor; rw [if_pos ⟨rfl, rfl⟩]; simp⟩ (fun x ⟨u, hxu⟩ => by rw [hV2] at hxu; rw [(hon x u hxu).1]; exact List.suffix_refl _) (fun x u hxu => by rw [hV2] at hxu; rw [(hon x u hxu).2]; decide)
              have hall2 : ∀ x t p9, p9 ∈ zgt os2 x t → t = 6 ∧ p9.2.2 = none := fun x t p9 hp9 => by
                rw [hgt2] at hp9
                split at hp9
                · rename_i z; rw [List.mem_singleton.mp hp9]; exact ⟨z.2, rfl⟩
                · cases hp9
              have hdw2 : zdw os2 := zdw_iff.mpr (fun x t p9 hp9 w => by rw [(hall2 x t p9 hp9).1] at w; exact absurd w (by decide))
              have hdx2 : zdx os2 := fun x t p9 hp9 _ => (hall2 x t p9 hp9).2
              have hZn2 : zZn E G158 ro2 (ku (ku (ku (ku k 12 q138) 13 st2) 14 sd2) 15 dd2) (0 + 1) os2 (np_low lx) := ⟨haz2, hra2, hZ2, hNmB.fr hfr2 zKz_0, hsa2, zsD (zlw tp (np_len lx)) 1 x2 x3 x4 x5, x1, hBy2, hrs2, by rw [hV2]; unfold vor; rw [if_pos ⟨rfl, rfl⟩], (zsD_b _ 1 x2 x3 x4 x5 0 eB9 h69).1, (zsD_b _ 1 x2 x3 x4 x5 0 eB9 h69).2⟩
              have hOb2 : zOb E G158 ro2 (ku (ku (ku (ku k 12 q138) 13 st2) 14 sd2) 15 dd2) (0 + 1) ty se os2 (np_low lx) d1 d2 d3 t1 t2 t3 b tp := hObB.zn hfr2 hEB hE2 hZn2 (fun n hn => by unfold ku; rw [if_neg (by omega), if_neg (by omega), if_neg (by omega), if_neg (by omega)])
              have hrc2 : (0 + 1 : Int32) = nI (znr os2) := by rw [hnr2]; rfl
              have hTp2 : G158 (k 17) = some (.inr (7, [.ref b, .int (nI tp.length)])) := hOb2.2.2.2.1.1
              have hO12 : G158 (k 16) = some (.inr (10, [.ref (k 17), .ref (k 1), .ref (k 0)])) := hOb2.2.1
              refine lv_aload_n hx hb d_ZA_origin_161 rfl (lv_at hl 5 rfl) ?_
              refine zg_get (ci := 10) (C := "ZoneAnswers") (T := T_ZA) (N := 3) hx hb hts zi_ZA hown hK hG hO12 rfl 0 (by decide) (hts _ w_703) (fun _ h9 => h9) rfl d_ZA_origin_162 ?_
              refine lv_iconst (v := 0) hx hb d_ZA_origin_165 (by decide) ?_
              have hGo166 := hG
              refine zk_v (va_runV (As := [.int 0]) (rest := []) ⟨hx, hb, hml, hown, hts⟩ (t_Ta_cutTo l E G158 (k 17) b (nI tp.length) hTp2 0) (zcV 1 hts w_818 w_819 w_820 w_2 w_821 (by decide +kernel) ⟨Nat.le_of_ble_eq_true rfl, Nat.le_of_ble_eq_true rfl⟩) (zc_preV hbase hK hN hQ hG hS hTp2 rfl) rfl rfl hl.1 rfl (lv_room (Nat.le_of_ble_eq_true rfl)) d_ZA_origin_166 ⟨(by dsimp only; omega), (by dsimp only; omega)⟩) hS (fun G166 H locs hp166 hG hS => ?_)
              have hEC : G166 (E.2.2.2 0) = none := hQ.out hG
              obtain ⟨hObC, hfC⟩ := hOb2.cut hE2 0 (Nat.zero_le _) (by rw [show nI 0 = 0 from nI_0]; exact hp166 ▸ hEC)
              have hObC2 : zOb E G166 ro2 (ku (ku (ku (ku k 12 q138) 13 st2) 14 sd2) 15 dd2) (0 + 1) ty se os2 (np_low lx) d1 d2 d3 t1 t2 t3 b (tp.take 0) := by rw [hp166, ← nI_0]; exact hObC
              have hfC2 : zfr ro2 zKc G158 ro2 G166 := by rw [hp166, ← nI_0]; exact hfC
              rw [List.take_zero] at hObC2
              have hstC := hObC2.st hGZ2 hdw2 hdx2 hrc2
              rw [hV2] at hstC
              exact zt_vret hx hb hr hlocks (⟨c33, ro2, lx, ly, lz, _, ⟨hnm0, hnm1, hnm2, b50⟩, hstC, ((hfB.w (fun _ z => z.elim)).tr (hfr2.w zKc_z)).tr hfC2, rfl⟩) hG hS (by dsimp only; omega) (by dsimp only; omega) d_ZA_origin_169
            · have b50 : ¬ (np_len lx + np_len ly + np_len lz) = tp.length := fun q => c50 ((nI_eq (a := (np_len lx + np_len ly + np_len lz)) (b := tp.length) (by omega) (by omega)).mpr q)
              have hbad : ¬ ∃ x y z, zOrg tp x y z := zOrg_n4 hnm0 hnm1 hnm2 (fun z => b50 z)
              exact zt_row (names := zt_up) (ic := 58) hoff hx hb (hml.trans hl.1.symm) hown hts hQ hex hlocks (zt_words hts hN hQ zt_iae) (by decide) (by decide) w_813 w_488 w_26 (⟨rfl, by first | exact Or.inr hbad | exact Or.inl hbt⟩) hG hS hbase (by dsimp only; omega) (by dsimp only; omega) (Nat.le_of_ble_eq_true rfl) (Nat.le_of_ble_eq_true rfl) d_ZA_origin_53 d_ZA_origin_56 d_ZA_origin_57 d_ZA_origin_60
      · have hG : zP E G H := eg27 ▸ hG
        refine zi_as (y := -1) er27 ?_
        have hbad : ¬ ∃ x y z, zOrg tp x y z := zOrg_n3 hnm0 hnm1 hno9
        refine lv_istore (lv' := [(8, .int (-1)), (7, .int (nI (np_len lx + np_len ly))), (6, .int (nI (np_len lx))), (0, .ref (k 16)), (1, .int x1), (2, .int x2), (3, .int x3), (4, .int x4), (5, .int x5)]) hx hb d_ZA_origin_30 hl (by decide) rfl (fun ls hl => ?_)
        refine lv_iload_n hx hb d_ZA_origin_32 rfl (lv_at hl 4 rfl) ?_
        refine lv_if_lt (tgt := 53) hx hb d_ZA_origin_33 (by decide) (fun c33 => ?_) (fun c33 => ?_)
        · have hbt : x1 < 0 := c33
          exact zt_row (names := zt_up) (ic := 58) hoff hx hb (hml.trans hl.1.symm) hown hts hQ hex hlocks (zt_words hts hN hQ zt_iae) (by decide) (by decide) w_813 w_488 w_26 (⟨rfl, by first | exact Or.inr hbad | exact Or.inl hbt⟩) hG hS hbase (by dsimp only; omega) (by dsimp only; omega) (Nat.le_of_ble_eq_true rfl) (Nat.le_of_ble_eq_true rfl) d_ZA_origin_53 d_ZA_origin_56 d_ZA_origin_57 d_ZA_origin_60
        · refine lv_iload hx hb d_ZA_origin_36 (lv_at hl 0 rfl) ?_
          refine lv_if_lt (tgt := 53) hx hb d_ZA_origin_38 (by decide) (fun c38 => ?_) (fun c38 => ?_)
          · exact zt_row (names := zt_up) (ic := 58) hoff hx hb (hml.trans hl.1.symm) hown hts hQ hex hlocks (zt_words hts hN hQ zt_iae) (by decide) (by decide) w_813 w_488 w_26 (⟨rfl, by first | exact Or.inr hbad | exact Or.inl hbt⟩) hG hS hbase (by dsimp only; omega) (by dsimp only; omega) (Nat.le_of_ble_eq_true rfl) (Nat.le_of_ble_eq_true rfl) d_ZA_origin_53 d_ZA_origin_56 d_ZA_origin_57 d_ZA_origin_60
          · exact absurd (by decide) c38
    · have hG : zP E G H := eg16 ▸ hG
      refine zi_as (y := -1) er16 ?_
      have hbad : ¬ ∃ x y z, zOrg tp x y z := zOrg_n2 hnm0 hno9
      refine lv_istore (lv' := [(7, .int (-1)), (6, .int (nI (np_len lx))), (0, .ref (k 16)), (1, .int x1), (2, .int x2), (3, .int x3), (4, .int x4), (5, .int x5)]) hx hb d_ZA_origin_19 hl (by decide) rfl (fun ls hl => ?_)
      refine lv_aload_n hx hb d_ZA_origin_21 rfl (lv_at hl 2 rfl) ?_
      refine zg_get (ci := 10) (C := "ZoneAnswers") (T := T_ZA) (N := 3) hx hb hts zi_ZA hown hK hG hO1 rfl 0 (by decide) (hts _ w_703) (fun _ h9 => h9) rfl d_ZA_origin_22 ?_
      refine lv_iload hx hb d_ZA_origin_25 (lv_at hl 0 rfl) ?_
      have hGo27 := hG
      refine zk_i (va_runV (As := [.int (-1)]) (rest := []) ⟨hx, hb, hml, hown, hts⟩ (t_Ta_nameEnd_m l E G (k 17) b (nI tp.length) hTp.1) (zcV 1 hts w_829 w_830 w_831 w_2 w_832 (by decide +kernel) ⟨Nat.le_of_ble_eq_true rfl, Nat.le_of_ble_eq_true rfl⟩) (zc_preV hbase hK hN hQ hG hS hTp.1 rfl) rfl rfl hl.1 rfl (lv_room (Nat.le_of_ble_eq_true rfl)) d_ZA_origin_27 ⟨(by dsimp only; omega), (by dsimp only; omega)⟩) hS (fun r27 G27 H locs hp27 hG hS => ?_)
      have hG : zP E G H := hp27.2 ▸ hG
      refine zi_as (y := -1) hp27.1 ?_
      refine lv_istore (lv' := [(8, .int (-1)), (7, .int (-1)), (6, .int (nI (np_len lx))), (0, .ref (k 16)), (1, .int x1), (2, .int x2), (3, .int x3), (4, .int x4), (5, .int x5)]) hx hb d_ZA_origin_30 hl (by decide) rfl (fun ls hl => ?_)
      refine lv_iload_n hx hb d_ZA_origin_32 rfl (lv_at hl 4 rfl) ?_
      refine lv_if_lt (tgt := 53) hx hb d_ZA_origin_33 (by decide) (fun c33 => ?_) (fun c33 => ?_)
      · have hbt : x1 < 0 := c33
        exact zt_row (names := zt_up) (ic := 58) hoff hx hb (hml.trans hl.1.symm) hown hts hQ hex hlocks (zt_words hts hN hQ zt_iae) (by decide) (by decide) w_813 w_488 w_26 (⟨rfl, by first | exact Or.inr hbad | exact Or.inl hbt⟩) hG hS hbase (by dsimp only; omega) (by dsimp only; omega) (Nat.le_of_ble_eq_true rfl) (Nat.le_of_ble_eq_true rfl) d_ZA_origin_53 d_ZA_origin_56 d_ZA_origin_57 d_ZA_origin_60
      · refine lv_iload hx hb d_ZA_origin_36 (lv_at hl 0 rfl) ?_
        refine lv_if_lt (tgt := 53) hx hb d_ZA_origin_38 (by decide) (fun c38 => ?_) (fun c38 => ?_)
        · exact zt_row (names := zt_up) (ic := 58) hoff hx hb (hml.trans hl.1.symm) hown hts hQ hex hlocks (zt_words hts hN hQ zt_iae) (by decide) (by decide) w_813 w_488 w_26 (⟨rfl, by first | exact Or.inr hbad | exact Or.inl hbt⟩) hG hS hbase (by dsimp only; omega) (by dsimp only; omega) (Nat.le_of_ble_eq_true rfl) (Nat.le_of_ble_eq_true rfl) d_ZA_origin_53 d_ZA_origin_56 d_ZA_origin_57 d_ZA_origin_60
        · exact absurd (by decide) c38
  · have hG : zP E G H := eg5 ▸ hG
    refine zi_as (y := -1) er5 ?_
    have hbad : ¬ ∃ x y z, zOrg tp x y z := zOrg_n1 hno9
    refine lv_istore (lv' := [(6, .int (-1)), (0, .ref (k 16)), (1, .int x1), (2, .int x2), (3, .int x3), (4, .int x4), (5, .int x5)]) hx hb d_ZA_origin_8 hl (by decide) rfl (fun ls hl => ?_)
    refine lv_aload_n hx hb d_ZA_origin_10 rfl (lv_at hl 1 rfl) ?_
    refine zg_get (ci := 10) (C := "ZoneAnswers") (T := T_ZA) (N := 3) hx hb hts zi_ZA hown hK hG hO1 rfl 0 (by decide) (hts _ w_703) (fun _ h9 => h9) rfl d_ZA_origin_11 ?_
    refine lv_iload hx hb d_ZA_origin_14 (lv_at hl 0 rfl) ?_
    have hGo16 := hG
    refine zk_i (va_runV (As := [.int (-1)]) (rest := []) ⟨hx, hb, hml, hown, hts⟩ (t_Ta_nameEnd_m l E G (k 17) b (nI tp.length) hTp.1) (zcV 1 hts w_829 w_830 w_831 w_2 w_832 (by decide +kernel) ⟨Nat.le_of_ble_eq_true rfl, Nat.le_of_ble_eq_true rfl⟩) (zc_preV hbase hK hN hQ hG hS hTp.1 rfl) rfl rfl hl.1 rfl (lv_room (Nat.le_of_ble_eq_true rfl)) d_ZA_origin_16 ⟨(by dsimp only; omega), (by dsimp only; omega)⟩) hS (fun r16 G16 H locs hp16 hG hS => ?_)
    have hG : zP E G H := hp16.2 ▸ hG
    refine zi_as (y := -1) hp16.1 ?_
    refine lv_istore (lv' := [(7, .int (-1)), (6, .int (-1)), (0, .ref (k 16)), (1, .int x1), (2, .int x2), (3, .int x3), (4, .int x4), (5, .int x5)]) hx hb d_ZA_origin_19 hl (by decide) rfl (fun ls hl => ?_)
    refine lv_aload_n hx hb d_ZA_origin_21 rfl (lv_at hl 2 rfl) ?_
    refine zg_get (ci := 10) (C := "ZoneAnswers") (T := T_ZA) (N := 3) hx hb hts zi_ZA hown hK hG hO1 rfl 0 (by decide) (hts _ w_703) (fun _ h9 => h9) rfl d_ZA_origin_22 ?_
    refine lv_iload hx hb d_ZA_origin_25 (lv_at hl 0 rfl) ?_
    have hGo27 := hG
    refine zk_i (va_runV (As := [.int (-1)]) (rest := []) ⟨hx, hb, hml, hown, hts⟩ (t_Ta_nameEnd_m l E G (k 17) b (nI tp.length) hTp.1) (zcV 1 hts w_829 w_830 w_831 w_2 w_832 (by decide +kernel) ⟨Nat.le_of_ble_eq_true rfl, Nat.le_of_ble_eq_true rfl⟩) (zc_preV hbase hK hN hQ hG hS hTp.1 rfl) rfl rfl hl.1 rfl (lv_room (Nat.le_of_ble_eq_true rfl)) d_ZA_origin_27 ⟨(by dsimp only; omega), (by dsimp only; omega)⟩) hS (fun r27 G27 H locs hp27 hG hS => ?_)
    have hG : zP E G H := hp27.2 ▸ hG
    refine zi_as (y := -1) hp27.1 ?_
    refine lv_istore (lv' := [(8, .int (-1)), (7, .int (-1)), (6, .int (-1)), (0, .ref (k 16)), (1, .int x1), (2, .int x2), (3, .int x3), (4, .int x4), (5, .int x5)]) hx hb d_ZA_origin_30 hl (by decide) rfl (fun ls hl => ?_)
    refine lv_iload_n hx hb d_ZA_origin_32 rfl (lv_at hl 4 rfl) ?_
    refine lv_if_lt (tgt := 53) hx hb d_ZA_origin_33 (by decide) (fun c33 => ?_) (fun c33 => ?_)
    · have hbt : x1 < 0 := c33
      exact zt_row (names := zt_up) (ic := 58) hoff hx hb (hml.trans hl.1.symm) hown hts hQ hex hlocks (zt_words hts hN hQ zt_iae) (by decide) (by decide) w_813 w_488 w_26 (⟨rfl, by first | exact Or.inr hbad | exact Or.inl hbt⟩) hG hS hbase (by dsimp only; omega) (by dsimp only; omega) (Nat.le_of_ble_eq_true rfl) (Nat.le_of_ble_eq_true rfl) d_ZA_origin_53 d_ZA_origin_56 d_ZA_origin_57 d_ZA_origin_60
    · refine lv_iload hx hb d_ZA_origin_36 (lv_at hl 0 rfl) ?_
      refine lv_if_lt (tgt := 53) hx hb d_ZA_origin_38 (by decide) (fun c38 => ?_) (fun c38 => ?_)
      · exact zt_row (names := zt_up) (ic := 58) hoff hx hb (hml.trans hl.1.symm) hown hts hQ hex hlocks (zt_words hts hN hQ zt_iae) (by decide) (by decide) w_813 w_488 w_26 (⟨rfl, by first | exact Or.inr hbad | exact Or.inl hbt⟩) hG hS hbase (by dsimp only; omega) (by dsimp only; omega) (Nat.le_of_ble_eq_true rfl) (Nat.le_of_ble_eq_true rfl) d_ZA_origin_53 d_ZA_origin_56 d_ZA_origin_57 d_ZA_origin_60
      · exact absurd (by decide) c38
