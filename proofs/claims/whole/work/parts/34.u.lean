/-- the tape is a name and behind it data of that type -/
def zRn (tp : List Int32) (t : Int32) (ls : np_N) : Prop := zNm (fun j => tp.getD (0 + j) 0) (tp.length - 0) ls ∧ zput t ∧ zdat tp t (np_len ls)
theorem zE_nn {F : Nat → Int32} {N : Nat} {r : Int32} (h : zE F N 0 r) (e : ¬ r < 0) : ∃ ls, zNm F N ls ∧ r = nI (np_len ls) := by
  rcases h with ⟨ls, q, q2⟩ | ⟨-, q⟩
  · exact ⟨ls, q, by rw [q2, Nat.zero_add]⟩
  · rw [q] at e; exact absurd (by decide) e
theorem zE_ng {F : Nat → Int32} {N : Nat} {r : Int32} (h : zE F N 0 r) (e : r < 0) : ¬ ∃ ls, zNm F N ls := by
  rcases h with ⟨ls, q, q2⟩ | ⟨q, -⟩
  · have := q.1.2
    rw [q2] at e; exact absurd e (nI_pos (by omega))
  · exact q
theorem w_3 : (.initialized "ZoneAnswers$Zone" : Cond) ∈ zw := zw_at 3 (by decide +kernel) (by decide +kernel)
theorem w_650 : (.instanceMethod ⟨"ZoneAnswers$Name", "isAtOrBelow", "(LZoneAnswers$Name;)Z"⟩ : Cond) ∈ zw := zw_at 650 (by decide +kernel) (by decide +kernel)
theorem w_651 : (.selects "ZoneAnswers$Name" ⟨"ZoneAnswers$Name", "isAtOrBelow", "(LZoneAnswers$Name;)Z"⟩ ⟨"ZoneAnswers$Name", "isAtOrBelow", "(LZoneAnswers$Name;)Z"⟩ : Cond) ∈ zw := zw_at 651 (by decide +kernel) (by decide +kernel)
theorem w_652 : (.code ⟨"ZoneAnswers$Name", "isAtOrBelow", "(LZoneAnswers$Name;)Z"⟩ prog_4_method_4_code 5 (some .boolean) : Cond) ∈ zw := zw_at 652 (by decide +kernel) (by decide +kernel)
theorem w_704 : (.fieldLink "ZoneAnswers" 19 "ZoneAnswers" "zone" "LZoneAnswers$Zone;" : Cond) ∈ zw := zw_at 704 (by decide +kernel) (by decide +kernel)
theorem w_858 : (.methodLink "ZoneAnswers" 129 ⟨"ZoneAnswers", "isPutType", "(I)Z"⟩ : Cond) ∈ zw := zw_at 858 (by decide +kernel) (by decide +kernel)
theorem w_859 : (.static ⟨"ZoneAnswers", "isPutType", "(I)Z"⟩ : Cond) ∈ zw := zw_at 859 (by decide +kernel) (by decide +kernel)
theorem w_860 : (.code ⟨"ZoneAnswers", "isPutType", "(I)Z"⟩ prog_1_method_18_code 2 (some .boolean) : Cond) ∈ zw := zw_at 860 (by decide +kernel) (by decide +kernel)
theorem w_862 : (.methodLink "ZoneAnswers" 230 ⟨"ZoneAnswers$Tape", "isData", "(II)Z"⟩ : Cond) ∈ zw := zw_at 862 (by decide +kernel) (by decide +kernel)
theorem w_863 : (.instanceMethod ⟨"ZoneAnswers$Tape", "isData", "(II)Z"⟩ : Cond) ∈ zw := zw_at 863 (by decide +kernel) (by decide +kernel)
theorem w_864 : (.selects "ZoneAnswers$Tape" ⟨"ZoneAnswers$Tape", "isData", "(II)Z"⟩ ⟨"ZoneAnswers$Tape", "isData", "(II)Z"⟩ : Cond) ∈ zw := zw_at 864 (by decide +kernel) (by decide +kernel)
theorem w_865 : (.code ⟨"ZoneAnswers$Tape", "isData", "(II)Z"⟩ prog_8_method_7_code 4 (some .boolean) : Cond) ∈ zw := zw_at 865 (by decide +kernel) (by decide +kernel)
theorem w_874 : (.methodLink "ZoneAnswers" 137 ⟨"ZoneAnswers$Zone", "top", "()LZoneAnswers$Name;"⟩ : Cond) ∈ zw := zw_at 874 (by decide +kernel) (by decide +kernel)
theorem w_875 : (.instanceMethod ⟨"ZoneAnswers$Zone", "top", "()LZoneAnswers$Name;"⟩ : Cond) ∈ zw := zw_at 875 (by decide +kernel) (by decide +kernel)
theorem w_876 : (.selects "ZoneAnswers$Zone" ⟨"ZoneAnswers$Zone", "top", "()LZoneAnswers$Name;"⟩ ⟨"ZoneAnswers$Zone", "top", "()LZoneAnswers$Name;"⟩ : Cond) ∈ zw := zw_at 876 (by decide +kernel) (by decide +kernel)
theorem w_877 : (.code ⟨"ZoneAnswers$Zone", "top", "()LZoneAnswers$Name;"⟩ prog_10_method_3_code 1 (some (.object "ZoneAnswers$Name")) : Cond) ∈ zw := zw_at 877 (by decide +kernel) (by decide +kernel)
theorem w_878 : (.methodLink "ZoneAnswers" 140 ⟨"ZoneAnswers$Name", "isAtOrBelow", "(LZoneAnswers$Name;)Z"⟩ : Cond) ∈ zw := zw_at 878 (by decide +kernel) (by decide +kernel)
abbrev c_ZA_recordName : ByteArray := prog_1_method_16_code
abbrev y_ZA_recordName : MethodName := ⟨"ZoneAnswers", "recordName", "(I)LZoneAnswers$Name;"⟩
theorem d_ZA_recordName_0 : decode c_ZA_recordName 0 = .ok (.aload_n 0, 1) := by decide +kernel
theorem d_ZA_recordName_1 : decode c_ZA_recordName 1 = .ok (.getfield 10, 3) := by decide +kernel
theorem d_ZA_recordName_4 : decode c_ZA_recordName 4 = .ok (.iconst 0, 1) := by decide +kernel
theorem d_ZA_recordName_5 : decode c_ZA_recordName 5 = .ok (.invokevirtual 62, 3) := by decide +kernel
theorem d_ZA_recordName_8 : decode c_ZA_recordName 8 = .ok (.istore_n 2, 1) := by decide +kernel
theorem d_ZA_recordName_9 : decode c_ZA_recordName 9 = .ok (.iload_n 2, 1) := by decide +kernel
theorem d_ZA_recordName_10 : decode c_ZA_recordName 10 = .ok (.ifCond .lt 22, 3) := by decide +kernel
theorem d_ZA_recordName_13 : decode c_ZA_recordName 13 = .ok (.iload_n 1, 1) := by decide +kernel
theorem d_ZA_recordName_14 : decode c_ZA_recordName 14 = .ok (.invokestatic 129, 3) := by decide +kernel
theorem d_ZA_recordName_17 : decode c_ZA_recordName 17 = .ok (.ifCond .eq 15, 3) := by decide +kernel
theorem d_ZA_recordName_20 : decode c_ZA_recordName 20 = .ok (.aload_n 0, 1) := by decide +kernel
theorem d_ZA_recordName_21 : decode c_ZA_recordName 21 = .ok (.getfield 10, 3) := by decide +kernel
theorem d_ZA_recordName_24 : decode c_ZA_recordName 24 = .ok (.iload_n 1, 1) := by decide +kernel
theorem d_ZA_recordName_25 : decode c_ZA_recordName 25 = .ok (.iload_n 2, 1) := by decide +kernel
theorem d_ZA_recordName_26 : decode c_ZA_recordName 26 = .ok (.invokevirtual 230, 3) := by decide +kernel
theorem d_ZA_recordName_29 : decode c_ZA_recordName 29 = .ok (.ifCond .ne 5, 3) := by decide +kernel
theorem d_ZA_recordName_32 : decode c_ZA_recordName 32 = .ok (.aconst_null, 1) := by decide +kernel
theorem d_ZA_recordName_33 : decode c_ZA_recordName 33 = .ok (.areturn, 1) := by decide +kernel
theorem d_ZA_recordName_34 : decode c_ZA_recordName 34 = .ok (.new 23, 3) := by decide +kernel
theorem d_ZA_recordName_37 : decode c_ZA_recordName 37 = .ok (.dup, 1) := by decide +kernel
theorem d_ZA_recordName_38 : decode c_ZA_recordName 38 = .ok (.aload_n 0, 1) := by decide +kernel
theorem d_ZA_recordName_39 : decode c_ZA_recordName 39 = .ok (.getfield 10, 3) := by decide +kernel
theorem d_ZA_recordName_42 : decode c_ZA_recordName 42 = .ok (.iconst 0, 1) := by decide +kernel
theorem d_ZA_recordName_43 : decode c_ZA_recordName 43 = .ok (.iload_n 2, 1) := by decide +kernel
theorem d_ZA_recordName_44 : decode c_ZA_recordName 44 = .ok (.invokevirtual 66, 3) := by decide +kernel
theorem d_ZA_recordName_47 : decode c_ZA_recordName 47 = .ok (.invokespecial 25, 3) := by decide +kernel
theorem d_ZA_recordName_50 : decode c_ZA_recordName 50 = .ok (.astore_n 3, 1) := by decide +kernel
theorem d_ZA_recordName_51 : decode c_ZA_recordName 51 = .ok (.aload_n 3, 1) := by decide +kernel
theorem d_ZA_recordName_52 : decode c_ZA_recordName 52 = .ok (.aload_n 0, 1) := by decide +kernel
theorem d_ZA_recordName_53 : decode c_ZA_recordName 53 = .ok (.getfield 19, 3) := by decide +kernel
theorem d_ZA_recordName_56 : decode c_ZA_recordName 56 = .ok (.invokevirtual 137, 3) := by decide +kernel
theorem d_ZA_recordName_59 : decode c_ZA_recordName 59 = .ok (.invokevirtual 140, 3) := by decide +kernel
theorem d_ZA_recordName_62 : decode c_ZA_recordName 62 = .ok (.ifCond .eq 7, 3) := by decide +kernel
theorem d_ZA_recordName_65 : decode c_ZA_recordName 65 = .ok (.aload_n 3, 1) := by decide +kernel
theorem d_ZA_recordName_66 : decode c_ZA_recordName 66 = .ok (.goto 4, 3) := by decide +kernel
theorem d_ZA_recordName_69 : decode c_ZA_recordName 69 = .ok (.aconst_null, 1) := by decide +kernel
theorem d_ZA_recordName_70 : decode c_ZA_recordName 70 = .ok (.areturn, 1) := by decide +kernel
abbrev rm_ZA_recordName (B : Nat) : Room := { frames := 4, cells := 2, slots := B, locals := 130 }
set_option maxHeartbeats 4000000 in
set_option maxRecDepth 100000 in
/-- recordName(t) -/
theorem t_ZA_recordName (l : Launch) (E : zc_E) (G : zg_G) (xo ta zo an b : Nat) (tp : List Int32) (hX : G xo = some (.inr (10, [.ref ta, .ref zo, .ref an]))) (hT : zTp E G ta b tp) (hlen : tp.length ≤ 65536) (la tn st sd : Nat) (rc : Int32) (hZ0 : G zo = some (.inr (9, [.ref la, .ref tn, .ref st, .ref sd, .int rc]))) (bt : Nat) (lt : np_N) (ft : Nat → Int32) (htn : G tn = some (.inr (3, [.ref bt, .int (nI lt.length)]))) (hbt : G bt = some (.inl (E.2.1 0, np_len lt, .inl ft))) (hft0 : np_f lt ft) (hgt : np_g lt) (t : Int32) (B : Nat) (hB : tp.length + 2 ≤ B) : zMq l E y_ZA_recordName c_ZA_recordName 4 (some (.object "ZoneAnswers$Name")) (rm_ZA_recordName B) [.ref xo, .int t] G (fun (r : Option Nat) (G2 : zg_G) => (∃ ls q, zRn tp t ls ∧ lt <:+ np_low ls ∧ r = some q ∧ G q = none ∧ zx z0 G G2 ∧ zNa E G2 q (np_low ls)) ∨ (r = none ∧ zx z0 G G2 ∧ ¬ ∃ ls, zRn tp t ls ∧ lt <:+ np_low ls)) := by
  refine zMq.of (by decide) (Nat.le_of_ble_eq_true rfl) ?_
  intro p e s m args below meth c Q hZ hG hret ls hl
  obtain ⟨hx, hb, hr, hts, hown, hlocks, hml, hnm, hbase, hK, hN, hQ⟩ := hZ
  have hl : lv_has ls 4 [(0, .ref xo), (1, .int t)] := hl
  have hS : zg_S (zc_b E) s.heap s.heap [] := va_S.rf
  have hx0 : zx z0 G G := zx.rf
  refine lv_aload_n hx hb d_ZA_recordName_0 rfl (lv_at hl 0 rfl) ?_
  refine zg_get (ci := 10) (C := "ZoneAnswers") (T := T_ZA) (N := 3) hx hb hts zi_ZA hown hK hG hX rfl 0 (by decide) (hts _ w_703) (fun _ h9 => h9) rfl d_ZA_recordName_1 ?_
  refine lv_iconst (v := 0) hx hb d_ZA_recordName_4 (by decide) ?_
  refine zi_as (y := nI 0) (nI_0.symm) ?_
  refine zk_i (va_runV (As := [.int (nI 0)]) (rest := []) ⟨hx, hb, hml, hown, hts⟩ (t_Ta_nameEnd l E G ta b tp hT hlen 0 (by omega)) (zcV 1 hts w_829 w_830 w_831 w_2 w_832 (by decide +kernel) ⟨Nat.le_of_ble_eq_true rfl, Nat.le_of_ble_eq_true rfl⟩) (zc_preV hbase hK hN hQ hG hS hT.1 rfl) rfl rfl hl.1 rfl (lv_room (Nat.le_of_ble_eq_true rfl)) d_ZA_recordName_5 ⟨(by dsimp only; omega), (by dsimp only; omega)⟩) hS (fun r5 G5 H locs hp5 hG hS => ?_)
  have hG : zP E G H := hp5.2 ▸ hG
  refine lv_istore_n (lv' := [(2, .int r5), (0, .ref xo), (1, .int t)]) hx hb d_ZA_recordName_8 rfl hl (by decide) rfl (fun ls hl => ?_)
  refine lv_iload_n hx hb d_ZA_recordName_9 rfl (lv_at hl 0 rfl) ?_
  refine lv_if_lt (tgt := 32) hx hb d_ZA_recordName_10 (by decide) (fun c10 => ?_) (fun c10 => ?_)
  · refine lv_null hx hb d_ZA_recordName_32 ?_
    exact hret none _ _ _ _ _ _ _ _ hr (Or.inl ⟨_, rfl⟩) (Or.inr ⟨rfl, zx.rf, by first | exact fun ⟨l2, z1, z2⟩ => zE_ng hp5.1 c10 ⟨l2, z1.1⟩ | exact fun ⟨l2, z1, z2⟩ => hp14.1.z c17 z1.2.1 | exact fun ⟨l2, z1, z2⟩ => hp26.1.z c29 (zNm_un z1.1 hls9 ▸ z1.2.2)⟩) hG hS (by dsimp only; omega) (by dsimp only; omega) d_ZA_recordName_33
  · obtain ⟨ls9, hls9, e9⟩ := zE_nn hp5.1 c10
    subst e9
    have hl9 := hls9.2.1
    have hok9 := hls9.1
    refine lv_iload_n hx hb d_ZA_recordName_13 rfl (lv_at hl 2 rfl) ?_
    refine zk_i (va_runS (As := [.int t]) (rest := []) ⟨hx, hb, hml, hown, hts⟩ (t_ZA_isPutType l E G t) (zcS 1 hts w_858 w_859 w_1 w_860 (by decide +kernel) ⟨Nat.le_of_ble_eq_true rfl, Nat.le_of_ble_eq_true rfl⟩) (zc_pre hbase hK hN hQ hG hS) rfl rfl hl.1 rfl (lv_room (Nat.le_of_ble_eq_true rfl)) d_ZA_recordName_14 ⟨(by dsimp only; omega), (by dsimp only; omega)⟩) hS (fun r14 G14 H locs hp14 hG hS => ?_)
    have hG : zP E G H := hp14.2 ▸ hG
    refine lv_if_eq (tgt := 32) hx hb d_ZA_recordName_17 (by decide) (fun c17 => ?_) (fun c17 => ?_)
    · refine lv_null hx hb d_ZA_recordName_32 ?_
      exact hret none _ _ _ _ _ _ _ _ hr (Or.inl ⟨_, rfl⟩) (Or.inr ⟨rfl, zx.rf, by first | exact fun ⟨l2, z1, z2⟩ => zE_ng hp5.1 c10 ⟨l2, z1.1⟩ | exact fun ⟨l2, z1, z2⟩ => hp14.1.z c17 z1.2.1 | exact fun ⟨l2, z1, z2⟩ => hp26.1.z c29 (zNm_un z1.1 hls9 ▸ z1.2.2)⟩) hG hS (by dsimp only; omega) (by dsimp only; omega) d_ZA_recordName_33
    · refine lv_aload_n hx hb d_ZA_recordName_20 rfl (lv_at hl 1 rfl) ?_
      refine zg_get (ci := 10) (C := "ZoneAnswers") (T := T_ZA) (N := 3) hx hb hts zi_ZA hown hK hG hX rfl 0 (by decide) (hts _ w_703) (fun _ h9 => h9) rfl d_ZA_recordName_21 ?_
      refine lv_iload_n hx hb d_ZA_recordName_24 rfl (lv_at hl 2 rfl) ?_
      refine lv_iload_n hx hb d_ZA_recordName_25 rfl (lv_at hl 0 rfl) ?_
      refine zk_i (va_runV (As := [.int t, .int (nI (np_len ls9))]) (rest := []) ⟨hx, hb, hml, hown, hts⟩ (t_Ta_isData l E G ta b tp hT hlen t (np_len ls9) (by omega)) (zcV 2 hts w_862 w_863 w_864 w_2 w_865 (by decide +kernel) ⟨Nat.le_of_ble_eq_true rfl, Nat.le_of_ble_eq_true rfl⟩) (zc_preV hbase hK hN hQ hG hS hT.1 rfl) rfl rfl hl.1 rfl (lv_room (Nat.le_of_ble_eq_true rfl)) d_ZA_recordName_26 ⟨(by dsimp only; omega), (by dsimp only; omega)⟩) hS (fun r26 G26 H locs hp26 hG hS => ?_)
      have hG : zP E G H := hp26.2 ▸ hG
      refine lv_if_ne (tgt := 34) hx hb d_ZA_recordName_29 (by decide) (fun c29 => ?_) (fun c29 => ?_)
      · refine zg_new (ci := 3) (fs := [.null, .int 0]) (C := "ZoneAnswers$Name") (T := T_Na) (N := 2) hx hb hts zi_Na t_Na t_Na_ok hown (hts _ w_107) (hts _ w_108) (hts _ w_7) hK hG hS hbase rfl (fun j hj => by rcases (show j = 0 ∨ j = 1 by omega) with rfl | rfl <;> rfl) (by dsimp only; omega) (by dsimp only; omega) d_ZA_recordName_34 (fun q34 H n34 hG hS => ?_)
        obtain ⟨G1, eG1⟩ : ∃ z : zg_G, z = zg_up G q34 (.inr (3, [.null, .int 0])) := ⟨_, rfl⟩
        have hG : zP E G1 H := by rw [eG1]; exact hG
        have hx2 : zx z0 G G1 := hx0.tr (by rw [eG1]; exact zx.nw n34)
        have ne34_xo : xo ≠ q34 := zg_fr n34 hX
        have k3 : G1 xo = some (.inr (10, [.ref ta, .ref zo, .ref an])) := by rw [eG1, zg_up_ne (zg_fr n34 hX)]; exact hX
        have ne34_ta : ta ≠ q34 := zg_fr n34 hT.1
        have k4 : G1 ta = some (.inr (7, [.ref b, .int (nI tp.length)])) := by rw [eG1, zg_up_ne (zg_fr n34 hT.1)]; exact hT.1
        have ne34_zo : zo ≠ q34 := zg_fr n34 hZ0
        have k5 : G1 zo = some (.inr (9, [.ref la, .ref tn, .ref st, .ref sd, .int rc])) := by rw [eG1, zg_up_ne (zg_fr n34 hZ0)]; exact hZ0
        have ne34_tn : tn ≠ q34 := zg_fr n34 htn
        have k6 : G1 tn = some (.inr (3, [.ref bt, .int (nI lt.length)])) := by rw [eG1, zg_up_ne (zg_fr n34 htn)]; exact htn
        have ne34_bt : bt ≠ q34 := zg_fr n34 hbt
        have k7 : G1 bt = some (.inl (E.2.1 0, np_len lt, .inl ft)) := by rw [eG1, zg_up_ne (zg_fr n34 hbt)]; exact hbt
        have k8 : G1 q34 = some (.inr (3, [.null, .int 0])) := by rw [eG1]; exact zg_up_self _ _ _
        refine lv_dup hx hb d_ZA_recordName_37 rfl ?_
        refine lv_aload_n hx hb d_ZA_recordName_38 rfl (lv_at hl 1 rfl) ?_
        refine zg_get (ci := 10) (C := "ZoneAnswers") (T := T_ZA) (N := 3) hx hb hts zi_ZA hown hK hG k3 rfl 0 (by decide) (hts _ w_703) (fun _ h9 => h9) rfl d_ZA_recordName_39 ?_
        refine lv_iconst (v := 0) hx hb d_ZA_recordName_42 (by decide) ?_
        refine zi_as (y := nI 0) (nI_0.symm) ?_
        refine lv_iload_n hx hb d_ZA_recordName_43 rfl (lv_at hl 0 rfl) ?_
        have hGo44 := hG
        refine zk_q (va_runV (As := [.int (nI 0), .int (nI (np_len ls9))]) (rest := [.ref q34, .ref q34]) ⟨hx, hb, hml, hown, hts⟩ (t_Ta_lowered l E G1 ta b tp (hT.x hx2) 0 (np_len ls9) (Nat.zero_le _) (by omega)) (zcV 2 hts w_833 w_834 w_835 w_2 w_836 (by decide +kernel) ⟨Nat.le_of_ble_eq_true rfl, Nat.le_of_ble_eq_true rfl⟩) (zc_preV hbase hK hN hQ hG hS k4 rfl) rfl rfl hl.1 rfl (lv_room (Nat.le_of_ble_eq_true rfl)) d_ZA_recordName_44 ⟨(by dsimp only; omega), (by dsimp only; omega)⟩) hS (fun r44 G44 H locs hp44 hG hS => ?_)
        obtain ⟨q44, f44, er44, nq44, hx44, hq44, hft44, hlo44⟩ := hp44
        refine zr_some (a := q44) er44 ?_
        have k9 : G44 xo = some (.inr (10, [.ref ta, .ref zo, .ref an])) := hx44.o k3
        have ne_q44_xo : xo ≠ q44 := zg_fr nq44 k3
        have k10 : G44 ta = some (.inr (7, [.ref b, .int (nI tp.length)])) := hx44.o k4
        have ne_q44_ta : ta ≠ q44 := zg_fr nq44 k4
        have k11 : G44 zo = some (.inr (9, [.ref la, .ref tn, .ref st, .ref sd, .int rc])) := hx44.o k5
        have ne_q44_zo : zo ≠ q44 := zg_fr nq44 k5
        have k12 : G44 tn = some (.inr (3, [.ref bt, .int (nI lt.length)])) := hx44.o k6
        have ne_q44_tn : tn ≠ q44 := zg_fr nq44 k6
        have k13 : G44 bt = some (.inl (E.2.1 0, np_len lt, .inl ft)) := hx44.o k7
        have ne_q44_bt : bt ≠ q44 := zg_fr nq44 k7
        have k14 : G44 q34 = some (.inr (3, [.null, .int 0])) := hx44.o k8
        have ne_q44_q34 : q34 ≠ q44 := zg_fr nq44 k8
        have hx15 : zx z0 G G44 := hx2.tr (hx44.w (fun _ z => z.elim))
        have hb44 : G44 q44 = some (.inl (E.2.1 0, np_len (np_low ls9), .inl f44)) := by rw [np_low_len hok9.1]; exact hq44
        have hf44 : np_f (np_low ls9) f44 := np_low_f hok9.1 hls9.2.2 (fun j hj => hlo44 j (by omega))
        have hGo47 := hG
        refine zk_v (va_runI (As := [.ref q44]) (rest := [.ref q34]) ⟨hx, hb, hml, hown, hts⟩ (t_Na_init l E G44 q34 q44 (np_low ls9) f44 hb44 hf44 (np_low_g hok9) k14) (zcI 1 hts w_109 w_110 w_7 w_111 rfl (by decide +kernel) ⟨Nat.le_of_ble_eq_true rfl, Nat.le_of_ble_eq_true rfl⟩) (zc_pre hbase hK hN hQ hG hS) rfl rfl hl.1 rfl (lv_room (Nat.le_of_ble_eq_true rfl)) d_ZA_recordName_47 ⟨(by dsimp only; omega), (by dsimp only; omega)⟩) hS (fun G47 H locs hp47 hG hS => ?_)
        have hx16 : zx z0 G G47 := by rw [hp47]; exact hx15.upn n34
        have k17 : G47 xo = some (.inr (10, [.ref ta, .ref zo, .ref an])) := by rw [hp47, zg_up_ne (ne34_xo)]; exact k9
        have k18 : G47 ta = some (.inr (7, [.ref b, .int (nI tp.length)])) := by rw [hp47, zg_up_ne (ne34_ta)]; exact k10
        have k19 : G47 zo = some (.inr (9, [.ref la, .ref tn, .ref st, .ref sd, .int rc])) := by rw [hp47, zg_up_ne (ne34_zo)]; exact k11
        have k20 : G47 tn = some (.inr (3, [.ref bt, .int (nI lt.length)])) := by rw [hp47, zg_up_ne (ne34_tn)]; exact k12
        have k21 : G47 bt = some (.inl (E.2.1 0, np_len lt, .inl ft)) := by rw [hp47, zg_up_ne (ne34_bt)]; exact k13
        have k22 : G47 q34 = some (.inr (3, [.ref q44, .int (nI (np_low ls9).length)])) := by rw [hp47]; exact zg_up_self _ _ _
        have k23 : G47 q44 = some (.inl (E.2.1 0, np_len (np_low ls9), .inl f44)) := by rw [hp47, zg_up_ne (Ne.symm ne_q44_q34)]; exact hb44
        refine lv_astore_n (lv' := [(3, .ref q34), (2, .int (nI (np_len ls9))), (0, .ref xo), (1, .int t)]) hx hb d_ZA_recordName_50 rfl hl (by decide) rfl (fun ls hl => ?_)
        refine lv_aload_n hx hb d_ZA_recordName_51 rfl (lv_at hl 0 rfl) ?_
        refine lv_aload_n hx hb d_ZA_recordName_52 rfl (lv_at hl 2 rfl) ?_
        refine zg_get (ci := 10) (C := "ZoneAnswers") (T := T_ZA) (N := 3) hx hb hts zi_ZA hown hK hG k17 rfl 1 (by decide) (hts _ w_704) (fun _ h9 => h9) rfl d_ZA_recordName_53 ?_
        refine zk_q (va_runV (As := []) (rest := [.ref q34]) ⟨hx, hb, hml, hown, hts⟩ (t_Zo_top l E G47 zo la tn st sd rc k19) (zcV 0 hts w_874 w_875 w_876 w_3 w_877 (by decide +kernel) ⟨Nat.le_of_ble_eq_true rfl, Nat.le_of_ble_eq_true rfl⟩) (zc_preV hbase hK hN hQ hG hS k19 rfl) rfl rfl hl.1 rfl (lv_room (Nat.le_of_ble_eq_true rfl)) d_ZA_recordName_56 ⟨(by dsimp only; omega), (by dsimp only; omega)⟩) hS (fun r56 G56 H locs hp56 hG hS => ?_)
        have hG : zP E G47 H := hp56.2 ▸ hG
        refine zr_some (a := tn) hp56.1 ?_
        refine zk_i (va_runV (As := [.ref tn]) (rest := []) ⟨hx, hb, hml, hown, hts⟩ (t_Na_isAtOrBelow l E G47 q34 q44 (np_low ls9) f44 k22 k23 hf44 (np_low_g hok9) tn bt lt ft k20 k21 hft0 hgt) (zcV 1 hts w_878 w_650 w_651 w_7 w_652 (by decide +kernel) ⟨Nat.le_of_ble_eq_true rfl, Nat.le_of_ble_eq_true rfl⟩) (zc_preV hbase hK hN hQ hG hS k22 rfl) rfl rfl hl.1 rfl (lv_room (Nat.le_of_ble_eq_true rfl)) d_ZA_recordName_59 ⟨(by dsimp only; omega), (by dsimp only; omega)⟩) hS (fun r59 G59 H locs hp59 hG hS => ?_)
        have hG : zP E G47 H := hp59.2 ▸ hG
        refine lv_if_eq (tgt := 69) hx hb d_ZA_recordName_62 (by decide) (fun c62 => ?_) (fun c62 => ?_)
        · refine lv_null hx hb d_ZA_recordName_69 ?_
          exact hret none _ _ _ _ _ _ _ _ hr (Or.inl ⟨_, rfl⟩) (Or.inr ⟨rfl, hx16, fun ⟨l2, z1, z2⟩ => hp59.1.z c62 (zNm_un z1.1 hls9 ▸ z2)⟩) hG hS (by dsimp only; omega) (by dsimp only; omega) d_ZA_recordName_70
        · refine lv_aload_n hx hb d_ZA_recordName_65 rfl (lv_at hl 0 rfl) ?_
          refine lv_goto (tgt := 70) hx hb d_ZA_recordName_66 (by decide) ?_
          exact hret (some q34) _ _ _ _ _ _ _ _ hr (Or.inl ⟨_, rfl⟩) (Or.inl ⟨ls9, q34, ⟨hls9, hp14.1.nz c17, hp26.1.nz c29⟩, hp59.1.nz c62, rfl, n34, hx16, q44, f44, k22, k23, hf44, np_low_g hok9, hft44⟩) hG hS (by dsimp only; omega) (by dsimp only; omega) d_ZA_recordName_70
      · refine lv_null hx hb d_ZA_recordName_32 ?_
        exact hret none _ _ _ _ _ _ _ _ hr (Or.inl ⟨_, rfl⟩) (Or.inr ⟨rfl, zx.rf, by first | exact fun ⟨l2, z1, z2⟩ => zE_ng hp5.1 c10 ⟨l2, z1.1⟩ | exact fun ⟨l2, z1, z2⟩ => hp14.1.z c17 z1.2.1 | exact fun ⟨l2, z1, z2⟩ => hp26.1.z c29 (zNm_un z1.1 hls9 ▸ z1.2.2)⟩) hG hS (by dsimp only; omega) (by dsimp only; omega) d_ZA_recordName_33
