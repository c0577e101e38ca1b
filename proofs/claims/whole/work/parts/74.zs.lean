theorem t_Ta_isSame_u (l : Launch) (E : zc_E) (G : zg_G) (a b : Nat) (tp : List Int32) (hT : zTp E G a b tp) (hlen : tp.length ≤ 65536) (x : Nat) (hx9 : x ≤ tp.length) (ro : zRo) (dt : zDt) (hD : zDR E G ro dt) (hdl : dt.2.1.length < 2 ^ 24) (hle : ∀ ls, dt.2.2 = some ls → np_len ls ≤ dt.2.1.length) : zMi l E y_Ta_isSame c_Ta_isSame 6 (some .boolean) rm_Ta_isSame [.ref a, .int (nI x), .ref dt.1] G (fun r G2 => zb r (zsame tp x (zpl dt) dt.2.1) ∧ G2 = G) := by
  obtain ⟨bd, t, h1, ⟨fd, h2, h3, h4⟩, -, -, ⟨e1, e2⟩ | ⟨y, ls, e1, e2, ⟨bt, ft, q1, q2, q3, q4, q5, -⟩⟩⟩ := hD
  · rw [e1] at h1
    have ez : zpl dt = dt.2.1.length := by unfold zpl; rw [e2]
    rw [ez]
    exact t_Ta_isSame_n l E G a b tp hT hlen x hx9 dt.1 bd dt.2.1 fd h2 h3 h4 hdl h1
  · rw [e1] at h1
    have ez : zpl dt = dt.2.1.length - np_len ls := by unfold zpl; rw [e2]
    rw [ez]
    exact t_Ta_isSame_s l E G a b tp hT hlen x hx9 dt.1 bd dt.2.1 fd h2 h3 h4 hdl y bt ls ft q1 q2 q3 q4 (hle ls e2) h1
/-- a told record: its address, its Name, name, type, time, datum -/
abbrev zTt : Type := Nat × Nat × np_N × Int32 × Int32 × zDt
def tA (t : zTt) : Nat := t.1
def tN (t : zTt) : Nat := t.2.1
def tM (t : zTt) : np_N := t.2.2.1
def tT (t : zTt) : Int32 := t.2.2.2.1
def tU (t : zTt) : Int32 := t.2.2.2.2.1
def tB (t : zTt) : zDt := t.2.2.2.2.2
def zTR (E : zc_E) (G : zg_G) (r : zRo) (t : zTt) : Prop := G (tA t) = some (.inr (8, [.ref (tN t), .int (tT t), .int (tU t), .ref (tB t).1])) ∧ zNR E G r (tN t) (tM t) ∧ zDR E G r (tB t) ∧ r (tA t) = (0, 0)
def te (ts : List zTt) (i : Nat) : zTt := ts.getD i (0, 0, [], 0, 0, (0, [], none))
theorem te_at {ts : List zTt} {i : Nat} (h : i < ts.length) : te ts i = ts[i] := by
  unfold te
  rw [List.getD_eq_getElem?_getD, List.getElem?_eq_getElem h]
  rfl
theorem te_mem {ts : List zTt} {i : Nat} (h : i < ts.length) : te ts i ∈ ts := by rw [te_at h]; exact List.getElem_mem h
theorem te_m {ts : List zTt} {i : Nat} (h : i < ts.length) : (ts.map tA)[i]? = some (tA (te ts i)) := by
  rw [List.getElem?_map, List.getElem?_eq_getElem h, te_at h]
  rfl
theorem te_ex {ts : List zTt} {P : zTt → Prop} {i : Nat} (h : i = ts.length) (hq : ∀ j, j < i → ¬ P (te ts j)) : ¬ ∃ e ∈ ts, P e := by
  rintro ⟨e, he, hp⟩
  obtain ⟨j, hj, rfl⟩ := List.getElem_of_mem he
  exact hq j (by omega) (by rw [te_at hj]; exact hp)
theorem te_step {ts : List zTt} {P : zTt → Prop} {i : Nat} (h : ∀ j, j < i → ¬ P (te ts j)) (hi : ¬ P (te ts i)) : ∀ j, j < i + 1 → ¬ P (te ts j) := by
  intro j hj
  rcases Nat.lt_or_ge j i with q | q
  · exact h j q
  · rw [show j = i by omega]; exact hi
/-- a section: its rows -/
def zER (E : zc_E) (G : zg_G) (r : zRo) (sa la dd : Nat) (ts : List zTt) (i : Nat) : Prop := G sa = some (.inr (6, [.ref la])) ∧ zLR E G r la dd (ts.map tA) (8, i) (9, i) ∧ (∀ t ∈ ts, zTR E G r t)
theorem w_895 : (.methodLink "ZoneAnswers$Rrset" 33 ⟨"ZoneAnswers$Tape", "isSame", "(ILZoneAnswers$Datum;)Z"⟩ : Cond) ∈ zw := zw_at 895 (by decide +kernel) (by decide +kernel)
theorem w_896 : (.instanceMethod ⟨"ZoneAnswers$Tape", "isSame", "(ILZoneAnswers$Datum;)Z"⟩ : Cond) ∈ zw := zw_at 896 (by decide +kernel) (by decide +kernel)
theorem w_897 : (.selects "ZoneAnswers$Tape" ⟨"ZoneAnswers$Tape", "isSame", "(ILZoneAnswers$Datum;)Z"⟩ ⟨"ZoneAnswers$Tape", "isSame", "(ILZoneAnswers$Datum;)Z"⟩ : Cond) ∈ zw := zw_at 897 (by decide +kernel) (by decide +kernel)
theorem w_898 : (.code ⟨"ZoneAnswers$Tape", "isSame", "(ILZoneAnswers$Datum;)Z"⟩ prog_8_method_11_code 6 (some .boolean) : Cond) ∈ zw := zw_at 898 (by decide +kernel) (by decide +kernel)
theorem w_1047 : (.fieldLink "ZoneAnswers$Section" 49 "ZoneAnswers$Told" "name" "LZoneAnswers$Name;" : Cond) ∈ zw := zw_at 1047 (by decide +kernel) (by decide +kernel)
theorem w_1050 : (.fieldLink "ZoneAnswers$Section" 48 "ZoneAnswers$Told" "type" "I" : Cond) ∈ zw := zw_at 1050 (by decide +kernel) (by decide +kernel)
theorem w_1090 : (.methodLink "ZoneAnswers$Section" 53 ⟨"ZoneAnswers$Name", "isSame", "(LZoneAnswers$Name;)Z"⟩ : Cond) ∈ zw := zw_at 1090 (by decide +kernel) (by decide +kernel)
abbrev c_Rr_place : ByteArray := prog_6_method_3_code
abbrev y_Rr_place : MethodName := ⟨"ZoneAnswers$Rrset", "place", "(LZoneAnswers$Tape;I)I"⟩
theorem d_Rr_place_0 : decode c_Rr_place 0 = .ok (.iconst 0, 1) := by decide +kernel
theorem d_Rr_place_1 : decode c_Rr_place 1 = .ok (.istore_n 3, 1) := by decide +kernel
theorem d_Rr_place_2 : decode c_Rr_place 2 = .ok (.iload_n 3, 1) := by decide +kernel
theorem d_Rr_place_3 : decode c_Rr_place 3 = .ok (.aload_n 0, 1) := by decide +kernel
theorem d_Rr_place_4 : decode c_Rr_place 4 = .ok (.getfield 19, 3) := by decide +kernel
theorem d_Rr_place_7 : decode c_Rr_place 7 = .ok (.invokevirtual 23, 3) := by decide +kernel
theorem d_Rr_place_10 : decode c_Rr_place 10 = .ok (.if_icmp .ge 30, 3) := by decide +kernel
theorem d_Rr_place_13 : decode c_Rr_place 13 = .ok (.aload_n 1, 1) := by decide +kernel
theorem d_Rr_place_14 : decode c_Rr_place 14 = .ok (.iload_n 2, 1) := by decide +kernel
theorem d_Rr_place_15 : decode c_Rr_place 15 = .ok (.aload_n 0, 1) := by decide +kernel
theorem d_Rr_place_16 : decode c_Rr_place 16 = .ok (.getfield 19, 3) := by decide +kernel
theorem d_Rr_place_19 : decode c_Rr_place 19 = .ok (.iload_n 3, 1) := by decide +kernel
theorem d_Rr_place_20 : decode c_Rr_place 20 = .ok (.invokevirtual 27, 3) := by decide +kernel
theorem d_Rr_place_23 : decode c_Rr_place 23 = .ok (.checkcast 31, 3) := by decide +kernel
theorem d_Rr_place_26 : decode c_Rr_place 26 = .ok (.invokevirtual 33, 3) := by decide +kernel
theorem d_Rr_place_29 : decode c_Rr_place 29 = .ok (.ifCond .eq 5, 3) := by decide +kernel
theorem d_Rr_place_32 : decode c_Rr_place 32 = .ok (.iload_n 3, 1) := by decide +kernel
theorem d_Rr_place_33 : decode c_Rr_place 33 = .ok (.ireturn, 1) := by decide +kernel
theorem d_Rr_place_34 : decode c_Rr_place 34 = .ok (.iinc 3 1, 3) := by decide +kernel
theorem d_Rr_place_37 : decode c_Rr_place 37 = .ok (.goto (-35), 3) := by decide +kernel
theorem d_Rr_place_40 : decode c_Rr_place 40 = .ok (.iconst (-1), 1) := by decide +kernel
theorem d_Rr_place_41 : decode c_Rr_place 41 = .ok (.ireturn, 1) := by decide +kernel
abbrev c_Se_has : ByteArray := prog_7_method_7_code
abbrev y_Se_has : MethodName := ⟨"ZoneAnswers$Section", "has", "(LZoneAnswers$Name;I)Z"⟩
theorem d_Se_has_0 : decode c_Se_has 0 = .ok (.iconst 0, 1) := by decide +kernel
theorem d_Se_has_1 : decode c_Se_has 1 = .ok (.istore_n 3, 1) := by decide +kernel
theorem d_Se_has_2 : decode c_Se_has 2 = .ok (.iload_n 3, 1) := by decide +kernel
theorem d_Se_has_3 : decode c_Se_has 3 = .ok (.aload_n 0, 1) := by decide +kernel
theorem d_Se_has_4 : decode c_Se_has 4 = .ok (.getfield 10, 3) := by decide +kernel
theorem d_Se_has_7 : decode c_Se_has 7 = .ok (.invokevirtual 19, 3) := by decide +kernel
theorem d_Se_has_10 : decode c_Se_has 10 = .ok (.if_icmp .ge 45, 3) := by decide +kernel
theorem d_Se_has_13 : decode c_Se_has 13 = .ok (.aload_n 0, 1) := by decide +kernel
theorem d_Se_has_14 : decode c_Se_has 14 = .ok (.getfield 10, 3) := by decide +kernel
theorem d_Se_has_17 : decode c_Se_has 17 = .ok (.iload_n 3, 1) := by decide +kernel
theorem d_Se_has_18 : decode c_Se_has 18 = .ok (.invokevirtual 23, 3) := by decide +kernel
theorem d_Se_has_21 : decode c_Se_has 21 = .ok (.checkcast 27, 3) := by decide +kernel
theorem d_Se_has_24 : decode c_Se_has 24 = .ok (.astore 4, 2) := by decide +kernel
theorem d_Se_has_26 : decode c_Se_has 26 = .ok (.aload 4, 2) := by decide +kernel
theorem d_Se_has_28 : decode c_Se_has 28 = .ok (.getfield 48, 3) := by decide +kernel
theorem d_Se_has_31 : decode c_Se_has 31 = .ok (.iload_n 2, 1) := by decide +kernel
theorem d_Se_has_32 : decode c_Se_has 32 = .ok (.if_icmp .ne 17, 3) := by decide +kernel
theorem d_Se_has_35 : decode c_Se_has 35 = .ok (.aload 4, 2) := by decide +kernel
theorem d_Se_has_37 : decode c_Se_has 37 = .ok (.getfield 49, 3) := by decide +kernel
theorem d_Se_has_40 : decode c_Se_has 40 = .ok (.aload_n 1, 1) := by decide +kernel
theorem d_Se_has_41 : decode c_Se_has 41 = .ok (.invokevirtual 53, 3) := by decide +kernel
theorem d_Se_has_44 : decode c_Se_has 44 = .ok (.ifCond .eq 5, 3) := by decide +kernel
theorem d_Se_has_47 : decode c_Se_has 47 = .ok (.iconst 1, 1) := by decide +kernel
theorem d_Se_has_48 : decode c_Se_has 48 = .ok (.ireturn, 1) := by decide +kernel
theorem d_Se_has_49 : decode c_Se_has 49 = .ok (.iinc 3 1, 3) := by decide +kernel
theorem d_Se_has_52 : decode c_Se_has 52 = .ok (.goto (-50), 3) := by decide +kernel
theorem d_Se_has_55 : decode c_Se_has 55 = .ok (.iconst 0, 1) := by decide +kernel
theorem d_Se_has_56 : decode c_Se_has 56 = .ok (.ireturn, 1) := by decide +kernel
abbrev rm_Rr_place : Room := { frames := 3, cells := 0, slots := 0, locals := 80 }
set_option maxHeartbeats 4000000 in
set_option maxRecDepth 100000 in
/-- Rrset.place(tape, x) -/
theorem t_Rr_place (l : Launch) (E : zc_E) (G : zg_G) (a b : Nat) (tp : List Int32) (hT : zTp E G a b tp) (hlen : tp.length ≤ 65536) (x : Nat) (hx9 : x ≤ tp.length) (ro : zRo) (o : Nat) (s9 : zSt) (hSet : zSR E G ro o s9) (hne : 0 < (sX s9).length) (hbig : ∀ d ∈ sX s9, d.2.1.length < 2 ^ 24 ∧ ∀ ls, d.2.2 = some ls → np_len ls ≤ d.2.1.length) : zMi l E y_Rr_place c_Rr_place 4 (some .int) rm_Rr_place [.ref (sA s9), .ref a, .int (nI x)] G (fun (r : Int32) (G2 : zg_G) => ((∃ i, i < (sX s9).length ∧ zsame tp x (zpl (sE s9 i)) (sE s9 i).2.1 ∧ (∀ j, j < i → ¬ zsame tp x (zpl (sE s9 j)) (sE s9 j).2.1) ∧ r = nI i) ∨ ((∀ j, j < (sX s9).length → ¬ zsame tp x (zpl (sE s9 j)) (sE s9 j).2.1) ∧ r = -1)) ∧ G2 = G) := by
  refine zMi.of (by decide) (Nat.le_of_ble_eq_true rfl) ?_
  intro p e s m args below meth c Q hZ hG hret ls hl
  obtain ⟨hx, hb, hr, hts, hown, hlocks, hml, hnm, hbase, hK, hN, hQ⟩ := hZ
  have hl : lv_has ls 4 [(0, .ref (sA s9)), (1, .ref a), (2, .int (nI x))] := hl
  have hS : zg_S (zc_b E) s.heap s.heap [] := va_S.rf
  obtain ⟨hs1, hs2, ⟨hs3, hs4, hs5⟩, hs6⟩ := id hSet
  obtain ⟨k9, cap9, f9, hl9, hd9, h09, hc9, hz9, hf9⟩ := hs3.un2 (by rw [List.length_map]; exact hne)
  rw [List.length_map] at hl9 hc9
  refine lv_iconst (v := 0) hx hb d_Rr_place_0 (by decide) ?_
  refine zi_as (y := nI 0) (nI_0.symm) ?_
  refine lv_istore_n (lv' := [(3, .int (nI 0)), (0, .ref (sA s9)), (1, .ref a), (2, .int (nI x))]) hx hb d_Rr_place_1 rfl hl (by decide) rfl (fun ls hl => ?_)
  have loop2 : ∀ (N : Nat) (i : Nat) (H : Heap) (locs : List Loc), ((sX s9).length - i) < N → (i ≤ (sX s9).length) → (∀ j, j < i → ¬ zsame tp x (zpl (sE s9 j)) (sE s9 j).2.1) → zP E G H → zg_S (zc_b E) s.heap H locs → ∀ (ls : Array Slot), lv_has ls 4 [(0, .ref (sA s9)), (1, .ref a), (2, .int (nI x)), (3, .int (nI i))] → W p l e rm_Rr_place s m args below meth c H locs 0 0 Q (F0 m 2 ls []) := by
    intro N
    induction N with
    | zero =>
      intro i H locs hlt
      exact absurd hlt (Nat.not_lt_zero _)
    | succ N ih =>
      intro i H locs hlt hi hq hG hS ls hl
      refine lv_iload_n hx hb d_Rr_place_2 rfl (lv_at hl 3 rfl) ?_
      refine lv_aload_n hx hb d_Rr_place_3 rfl (lv_at hl 0 rfl) ?_
      refine zg_get (ci := 5) (C := "ZoneAnswers$Rrset") (T := T_Rr) (N := 3) hx hb hts zi_Rr hown hK hG hs1 rfl 2 (by decide) (hts _ w_625) (fun _ h9 => h9) rfl d_Rr_place_4 ?_
      refine zk_i (va_runV (As := []) (rest := [.int (nI i)]) ⟨hx, hb, hml, hown, hts⟩ (t_AL_size l E G (sL s9) (.ref (sD s9)) (nI ((sX s9).length)) k9 hl9) (zcV 0 hts w_892 w_160 w_161 w_6 w_162 (by decide +kernel) ⟨Nat.le_of_ble_eq_true rfl, Nat.le_of_ble_eq_true rfl⟩) (zc_preV hbase hK hN hQ hG hS hl9 rfl) rfl rfl hl.1 rfl (lv_room (Nat.le_of_ble_eq_true rfl)) d_Rr_place_7 ⟨(by decide), (by decide)⟩) hS (fun r7 G7 H locs hp7 hG hS => ?_)
      have hG : zP E G H := hp7.2 ▸ hG
      refine zi_as (y := nI ((sX s9).length)) hp7.1 ?_
      refine lv_icmp_ge (tgt := 40) hx hb d_Rr_place_10 (by decide) (fun c10 => ?_) (fun c10 => ?_)
      · have b10 : ((sX s9).length) ≤ i := (nI_leI (a := ((sX s9).length)) (b := i) (by omega) (by omega)).mp c10
        refine lv_iconst (v := -1) hx hb d_Rr_place_40 (by decide) ?_
        exact hret _ _ _ _ _ _ _ _ _ hr (rfl) (⟨Or.inr ⟨fun j hj => hq j (by omega), rfl⟩, rfl⟩) hG hS (Nat.le_refl _) (Nat.le_refl _) d_Rr_place_41
      · have b10 : ¬ ((sX s9).length) ≤ i := fun q => c10 ((nI_leI (a := ((sX s9).length)) (b := i) (by omega) (by omega)).mpr q)
        have hin : i < (sX s9).length := by omega
        refine lv_aload_n hx hb d_Rr_place_13 rfl (lv_at hl 1 rfl) ?_
        refine lv_iload_n hx hb d_Rr_place_14 rfl (lv_at hl 2 rfl) ?_
        refine lv_aload_n hx hb d_Rr_place_15 rfl (lv_at hl 0 rfl) ?_
        refine zg_get (ci := 5) (C := "ZoneAnswers$Rrset") (T := T_Rr) (N := 3) hx hb hts zi_Rr hown hK hG hs1 rfl 2 (by decide) (hts _ w_625) (fun _ h9 => h9) rfl d_Rr_place_16 ?_
        refine lv_iload_n hx hb d_Rr_place_19 rfl (lv_at hl 3 rfl) ?_
        have hGo20 := hG
        refine zk_q (va_runV (As := [.int (nI i)]) (rest := [.int (nI x), .ref a]) ⟨hx, hb, hml, hown, hts⟩ (t_AL_get l E G (sL s9) (sD s9) (sX s9).length cap9 k9 f9 hl9 hd9 hc9 (by omega) i hin) (zcV 1 hts w_893 w_164 w_165 w_6 w_166 (by decide +kernel) ⟨Nat.le_of_ble_eq_true rfl, Nat.le_of_ble_eq_true rfl⟩) (zc_preV hbase hK hN hQ hG hS hl9 rfl) rfl rfl hl.1 rfl (lv_room (Nat.le_of_ble_eq_true rfl)) d_Rr_place_20 ⟨(by decide), (by decide)⟩) hS (fun r20 G20 H locs hp20 hG hS => ?_)
        have hG : zP E G H := hp20.2 ▸ hG
        refine zr_some (a := (sE s9 i).1) (hp20.1.trans ((hf9 i).trans (sE_at hin))) ?_
        obtain ⟨bd9, t9, hdc, -⟩ := id (hs6 _ (sE_mem hin))
        refine zg_castY hx hb hown (hts _ w_894) hK hG hdc rfl (zN.at hN (w := .castable "ZoneAnswers$Datum" "ZoneAnswers$Datum") (by decide +kernel)) d_Rr_place_23 ?_
        refine zk_i (va_runV (As := [.int (nI x), .ref ((sE s9 i).1)]) (rest := []) ⟨hx, hb, hml, hown, hts⟩ (t_Ta_isSame_u l E G a b tp hT hlen x hx9 ro (sE s9 i) (hs6 _ (sE_mem hin)) (hbig _ (sE_mem hin)).1 (hbig _ (sE_mem hin)).2) (zcV 2 hts w_895 w_896 w_897 w_2 w_898 (by decide +kernel) ⟨Nat.le_of_ble_eq_true rfl, Nat.le_of_ble_eq_true rfl⟩) (zc_preV hbase hK hN hQ hG hS hT.1 rfl) rfl rfl hl.1 rfl (lv_room (Nat.le_of_ble_eq_true rfl)) d_Rr_place_26 ⟨(by decide), (by decide)⟩) hS (fun r26 G26 H locs hp26 hG hS => ?_)
        have hG : zP E G H := hp26.2 ▸ hG
        refine lv_if_eq (tgt := 34) hx hb d_Rr_place_29 (by decide) (fun c29 => ?_) (fun c29 => ?_)
        · refine lv_iinc (v := nI (i + 1)) (lv' := [(3, .int (nI (i + 1))), (0, .ref (sA s9)), (1, .ref a), (2, .int (nI x))]) hx hb d_Rr_place_34 hl (k := 3) rfl (nI_add i 1) (by decide) rfl (fun ls hl => ?_)
          refine lv_goto (tgt := 2) hx hb d_Rr_place_37 (by decide) ?_
          exact ih (i + 1) _ _ (by omega) (by omega) (fun j hj => by rcases Nat.lt_or_ge j i with q1 | q1; exact hq j q1; rw [show j = i by omega]; exact hp26.1.z c29) hG hS ls (lv_sub hl [1, 2, 3, 0] rfl)
        · refine lv_iload_n hx hb d_Rr_place_32 rfl (lv_at hl 3 rfl) ?_
          exact hret _ _ _ _ _ _ _ _ _ hr (rfl) (⟨Or.inl ⟨i, hin, hp26.1.nz c29, hq, rfl⟩, rfl⟩) hG hS (Nat.le_refl _) (Nat.le_refl _) d_Rr_place_33
  exact loop2 _ 0 _ _ (Nat.lt_succ_self _) (Nat.zero_le _) (fun j h => absurd h (Nat.not_lt_zero j)) hG hS ls (lv_sub hl [1, 2, 3, 0] rfl)
abbrev rm_Se_has : Room := { frames := 3, cells := 0, slots := 0, locals := 80 }
set_option maxHeartbeats 4000000 in
set_option maxRecDepth 100000 in
/-- Section.has(name, t) -/
theorem t_Se_has (l : Launch) (E : zc_E) (G : zg_G) (a la dd ix : Nat) (ro : zRo) (ts : List zTt) (hE : zER E G ro a la dd ts ix) (hts9 : ts.length < 2 ^ 20) (a1 b1 : Nat) (ls1 : np_N) (f1 : Nat → Int32) (ha1 : G a1 = some (.inr (3, [.ref b1, .int (nI ls1.length)]))) (hb1 : G b1 = some (.inl (E.2.1 0, np_len ls1, .inl f1))) (hf1 : np_f ls1 f1) (hg1 : np_g ls1) (t : Int32) : zMi l E y_Se_has c_Se_has 5 (some .boolean) rm_Se_has [.ref a, .ref a1, .int t] G (fun (r : Int32) (G2 : zg_G) => zb r (∃ e ∈ ts, tT e = t ∧ tM e = ls1) ∧ G2 = G) := by
  refine zMi.of (by decide) (Nat.le_of_ble_eq_true rfl) ?_
  intro p e s m args below meth c Q hZ hG hret ls hl
  obtain ⟨hx, hb, hr, hts, hown, hlocks, hml, hnm, hbase, hK, hN, hQ⟩ := hZ
  have hl : lv_has ls 5 [(0, .ref a), (1, .ref a1), (2, .int t)] := hl
  have hS : zg_S (zc_b E) s.heap s.heap [] := va_S.rf
  obtain ⟨hE1, ⟨hE2, hE3, hE4⟩, hE5⟩ := id hE
  obtain ⟨⟨k9, hl9⟩, -⟩ := id hE2
  rw [List.length_map] at hl9
  refine lv_iconst (v := 0) hx hb d_Se_has_0 (by decide) ?_
  refine zi_as (y := nI 0) (nI_0.symm) ?_
  refine lv_istore_n (lv' := [(3, .int (nI 0)), (0, .ref a), (1, .ref a1), (2, .int t)]) hx hb d_Se_has_1 rfl hl (by decide) rfl (fun ls hl => ?_)
  have loop2 : ∀ (N : Nat) (i : Nat) (H : Heap) (locs : List Loc), (ts.length - i) < N → (i ≤ ts.length) → (∀ j, j < i → ¬ (fun e => tT e = t ∧ tM e = ls1) (te ts j)) → zP E G H → zg_S (zc_b E) s.heap H locs → ∀ (ls : Array Slot), lv_has ls 5 [(0, .ref a), (1, .ref a1), (2, .int t), (3, .int (nI i))] → W p l e rm_Se_has s m args below meth c H locs 0 0 Q (F0 m 2 ls []) := by
    intro N
    induction N with
    | zero =>
      intro i H locs hlt
      exact absurd hlt (Nat.not_lt_zero _)
    | succ N ih =>
      intro i H locs hlt hi hq hG hS ls hl
      refine lv_iload_n hx hb d_Se_has_2 rfl (lv_at hl 3 rfl) ?_
      refine lv_aload_n hx hb d_Se_has_3 rfl (lv_at hl 0 rfl) ?_
      refine zg_get (ci := 6) (C := "ZoneAnswers$Section") (T := T_Se) (N := 1) hx hb hts zi_Se hown hK hG hE1 rfl 0 (by decide) (hts _ w_680) (fun _ h9 => h9) rfl d_Se_has_4 ?_
      refine zk_i (va_runV (As := []) (rest := [.int (nI i)]) ⟨hx, hb, hml, hown, hts⟩ (t_AL_size l E G la (.ref dd) (nI ts.length) k9 hl9) (zcV 0 hts w_1089 w_160 w_161 w_6 w_162 (by decide +kernel) ⟨Nat.le_of_ble_eq_true rfl, Nat.le_of_ble_eq_true rfl⟩) (zc_preV hbase hK hN hQ hG hS hl9 rfl) rfl rfl hl.1 rfl (lv_room (Nat.le_of_ble_eq_true rfl)) d_Se_has_7 ⟨(by decide), (by decide)⟩) hS (fun r7 G7 H locs hp7 hG hS => ?_)
      have hG : zP E G H := hp7.2 ▸ hG
      refine zi_as (y := nI ts.length) hp7.1 ?_
      refine lv_icmp_ge (tgt := 55) hx hb d_Se_has_10 (by decide) (fun c10 => ?_) (fun c10 => ?_)
      · have b10 : ts.length ≤ i := (nI_leI (a := ts.length) (b := i) (by omega) (by omega)).mp c10
        refine lv_iconst (v := 0) hx hb d_Se_has_55 (by decide) ?_
        exact hret _ _ _ _ _ _ _ _ _ hr (rfl) (⟨zb.f (te_ex (P := (fun e => tT e = t ∧ tM e = ls1)) (by omega) hq), rfl⟩) hG hS (Nat.le_refl _) (Nat.le_refl _) d_Se_has_56
      · have b10 : ¬ ts.length ≤ i := fun q => c10 ((nI_leI (a := ts.length) (b := i) (by omega) (by omega)).mpr q)
        have hin : i < ts.length := by omega
        obtain ⟨ht1, ⟨bt, ft, hn1, hn2, hn3, hn4, -⟩, -⟩ := hE5 _ (te_mem hin)
        obtain ⟨k7, cap9, f9, -, hd9, h09, hc9, hz9, hf9⟩ := hE2.un2 (by rw [List.length_map]; omega)
        rw [List.length_map] at hc9
        refine lv_aload_n hx hb d_Se_has_13 rfl (lv_at hl 0 rfl) ?_
        refine zg_get (ci := 6) (C := "ZoneAnswers$Section") (T := T_Se) (N := 1) hx hb hts zi_Se hown hK hG hE1 rfl 0 (by decide) (hts _ w_680) (fun _ h9 => h9) rfl d_Se_has_14 ?_
        refine lv_iload_n hx hb d_Se_has_17 rfl (lv_at hl 3 rfl) ?_
        have hGo18 := hG
        refine zk_q (va_runV (As := [.int (nI i)]) (rest := []) ⟨hx, hb, hml, hown, hts⟩ (t_AL_get l E G la dd ts.length cap9 k9 f9 hl9 hd9 hc9 (by omega) i hin) (zcV 1 hts w_1040 w_164 w_165 w_6 w_166 (by decide +kernel) ⟨Nat.le_of_ble_eq_true rfl, Nat.le_of_ble_eq_true rfl⟩) (zc_preV hbase hK hN hQ hG hS hl9 rfl) rfl rfl hl.1 rfl (lv_room (Nat.le_of_ble_eq_true rfl)) d_Se_has_18 ⟨(by decide), (by decide)⟩) hS (fun r18 G18 H locs hp18 hG hS => ?_)
        have hG : zP E G H := hp18.2 ▸ hG
        refine zr_some (a := tA (te ts i)) (hp18.1.trans ((hf9 i).trans (te_m hin))) ?_
        refine zg_castY hx hb hown (hts _ w_1038) hK hG ht1 rfl (zN.at hN (w := .castable "ZoneAnswers$Told" "ZoneAnswers$Told") (by decide +kernel)) d_Se_has_21 ?_
        refine lv_astore (lv' := [(4, .ref (tA (te ts i))), (0, .ref a), (1, .ref a1), (2, .int t), (3, .int (nI i))]) hx hb d_Se_has_24 hl (by decide) rfl (fun ls hl => ?_)
        refine lv_aload hx hb d_Se_has_26 (lv_at hl 0 rfl) ?_
        refine zg_get (ci := 8) (C := "ZoneAnswers$Told") (T := T_To) (N := 4) hx hb hts zi_To hown hK hG ht1 rfl 1 (by decide) (hts _ w_1050) (fun _ h9 => h9) rfl d_Se_has_28 ?_
        refine lv_iload_n hx hb d_Se_has_31 rfl (lv_at hl 3 rfl) ?_
        refine lv_icmp_ne (tgt := 49) hx hb d_Se_has_32 (by decide) (fun c32 => ?_) (fun c32 => ?_)
        · refine lv_iinc (v := nI (i + 1)) (lv' := [(3, .int (nI (i + 1))), (4, .ref (tA (te ts i))), (0, .ref a), (1, .ref a1), (2, .int t)]) hx hb d_Se_has_49 hl (k := 4) rfl (nI_add i 1) (by decide) rfl (fun ls hl => ?_)
          refine lv_goto (tgt := 2) hx hb d_Se_has_52 (by decide) ?_
          exact ih (i + 1) _ _ (by omega) (by omega) (te_step (P := (fun e => tT e = t ∧ tM e = ls1)) hq (by first | exact fun z => c32 z.1 | exact fun z => hp41.1.z c44 z.2)) hG hS ls (lv_sub hl [2, 3, 4, 0] rfl)
        · refine lv_aload hx hb d_Se_has_35 (lv_at hl 0 rfl) ?_
          refine zg_get (ci := 8) (C := "ZoneAnswers$Told") (T := T_To) (N := 4) hx hb hts zi_To hown hK hG ht1 rfl 0 (by decide) (hts _ w_1047) (fun _ h9 => h9) rfl d_Se_has_37 ?_
          refine lv_aload_n hx hb d_Se_has_40 rfl (lv_at hl 2 rfl) ?_
          refine zk_i (va_runV (As := [.ref a1]) (rest := []) ⟨hx, hb, hml, hown, hts⟩ (t_Na_isSame l E G (tN (te ts i)) bt (tM (te ts i)) ft hn1 hn2 hn3 hn4 a1 b1 ls1 f1 ha1 hb1 hf1 hg1) (zcV 1 hts w_1090 w_194 w_195 w_7 w_196 (by decide +kernel) ⟨Nat.le_of_ble_eq_true rfl, Nat.le_of_ble_eq_true rfl⟩) (zc_preV hbase hK hN hQ hG hS hn1 rfl) rfl rfl hl.1 rfl (lv_room (Nat.le_of_ble_eq_true rfl)) d_Se_has_41 ⟨(by decide), (by decide)⟩) hS (fun r41 G41 H locs hp41 hG hS => ?_)
          have hG : zP E G H := hp41.2 ▸ hG
          refine lv_if_eq (tgt := 49) hx hb d_Se_has_44 (by decide) (fun c44 => ?_) (fun c44 => ?_)
          · refine lv_iinc (v := nI (i + 1)) (lv' := [(3, .int (nI (i + 1))), (4, .ref (tA (te ts i))), (0, .ref a), (1, .ref a1), (2, .int t)]) hx hb d_Se_has_49 hl (k := 4) rfl (nI_add i 1) (by decide) rfl (fun ls hl => ?_)
            refine lv_goto (tgt := 2) hx hb d_Se_has_52 (by decide) ?_
            exact ih (i + 1) _ _ (by omega) (by omega) (te_step (P := (fun e => tT e = t ∧ tM e = ls1)) hq (by first | exact fun z => c32 z.1 | exact fun z => hp41.1.z c44 z.2)) hG hS ls (lv_sub hl [2, 3, 4, 0] rfl)
          · refine lv_iconst (v := 1) hx hb d_Se_has_47 (by decide) ?_
            exact hret _ _ _ _ _ _ _ _ _ hr (rfl) (⟨zb.t ⟨_, te_mem hin, c32, hp41.1.nz c44⟩, rfl⟩) hG hS (Nat.le_refl _) (Nat.le_refl _) d_Se_has_48
  exact loop2 _ 0 _ _ (Nat.lt_succ_self _) (Nat.zero_le _) (fun j h => absurd h (Nat.not_lt_zero j)) hG hS ls (lv_sub hl [1, 2, 3, 0] rfl)
