/-- from x on the tape has that data; from pl on in any case -/
def zsame (tp : List Int32) (x pl : Nat) (dd : List Int32) : Prop := tp.length - x = dd.length ∧ ∀ j, j < dd.length → (if j < pl then tp.getD (x + j) 0 else zlow (tp.getD (x + j) 0)) = dd.getD j 0
def zpl (d : zDt) : Nat := match d.2.2 with | none => d.2.1.length | some ls => d.2.1.length - np_len ls
def sE (s : zSt) (i : Nat) : zDt := (sX s).getD i (0, [], none)
theorem sE_mem {s : zSt} {i : Nat} (h : i < (sX s).length) : sE s i ∈ sX s := by
  unfold sE
  rw [List.getD_eq_getElem?_getD, List.getElem?_eq_getElem h]
  exact List.getElem_mem h
theorem sE_at {s : zSt} {i : Nat} (h : i < (sX s).length) : ((sX s).map (·.1))[i]? = some (sE s i).1 := by
  unfold sE
  rw [List.getElem?_map, List.getD_eq_getElem?_getD, List.getElem?_eq_getElem h]
  rfl
theorem w_140 : (.fieldLink "ZoneAnswers$Tape" 71 "ZoneAnswers$Datum" "bytes" "[B" : Cond) ∈ zw := zw_at 140 (by decide +kernel) (by decide +kernel)
theorem w_145 : (.fieldLink "ZoneAnswers$Tape" 62 "ZoneAnswers$Datum" "target" "LZoneAnswers$Name;" : Cond) ∈ zw := zw_at 145 (by decide +kernel) (by decide +kernel)
theorem w_885 : (.instanceMethod ⟨"ZoneAnswers$Name", "length", "()I"⟩ : Cond) ∈ zw := zw_at 885 (by decide +kernel) (by decide +kernel)
theorem w_886 : (.selects "ZoneAnswers$Name" ⟨"ZoneAnswers$Name", "length", "()I"⟩ ⟨"ZoneAnswers$Name", "length", "()I"⟩ : Cond) ∈ zw := zw_at 886 (by decide +kernel) (by decide +kernel)
theorem w_887 : (.code ⟨"ZoneAnswers$Name", "length", "()I"⟩ prog_4_method_2_code 1 (some .int) : Cond) ∈ zw := zw_at 887 (by decide +kernel) (by decide +kernel)
theorem w_899 : (.methodLink "ZoneAnswers$Tape" 59 ⟨"ZoneAnswers$Datum", "length", "()I"⟩ : Cond) ∈ zw := zw_at 899 (by decide +kernel) (by decide +kernel)
theorem w_900 : (.instanceMethod ⟨"ZoneAnswers$Datum", "length", "()I"⟩ : Cond) ∈ zw := zw_at 900 (by decide +kernel) (by decide +kernel)
theorem w_901 : (.selects "ZoneAnswers$Datum" ⟨"ZoneAnswers$Datum", "length", "()I"⟩ ⟨"ZoneAnswers$Datum", "length", "()I"⟩ : Cond) ∈ zw := zw_at 901 (by decide +kernel) (by decide +kernel)
theorem w_902 : (.code ⟨"ZoneAnswers$Datum", "length", "()I"⟩ prog_3_method_2_code 1 (some .int) : Cond) ∈ zw := zw_at 902 (by decide +kernel) (by decide +kernel)
theorem w_903 : (.methodLink "ZoneAnswers$Tape" 66 ⟨"ZoneAnswers$Name", "length", "()I"⟩ : Cond) ∈ zw := zw_at 903 (by decide +kernel) (by decide +kernel)
abbrev c_Ta_isSame : ByteArray := prog_8_method_11_code
abbrev y_Ta_isSame : MethodName := ⟨"ZoneAnswers$Tape", "isSame", "(ILZoneAnswers$Datum;)Z"⟩
theorem d_Ta_isSame_0 : decode c_Ta_isSame 0 = .ok (.aload_n 0, 1) := by decide +kernel
theorem d_Ta_isSame_1 : decode c_Ta_isSame 1 = .ok (.getfield 15, 3) := by decide +kernel
theorem d_Ta_isSame_4 : decode c_Ta_isSame 4 = .ok (.iload_n 1, 1) := by decide +kernel
theorem d_Ta_isSame_5 : decode c_Ta_isSame 5 = .ok (.isub, 1) := by decide +kernel
theorem d_Ta_isSame_6 : decode c_Ta_isSame 6 = .ok (.aload_n 2, 1) := by decide +kernel
theorem d_Ta_isSame_7 : decode c_Ta_isSame 7 = .ok (.invokevirtual 59, 3) := by decide +kernel
theorem d_Ta_isSame_10 : decode c_Ta_isSame 10 = .ok (.if_icmp .eq 5, 3) := by decide +kernel
theorem d_Ta_isSame_13 : decode c_Ta_isSame 13 = .ok (.iconst 0, 1) := by decide +kernel
theorem d_Ta_isSame_14 : decode c_Ta_isSame 14 = .ok (.ireturn, 1) := by decide +kernel
theorem d_Ta_isSame_15 : decode c_Ta_isSame 15 = .ok (.aload_n 2, 1) := by decide +kernel
theorem d_Ta_isSame_16 : decode c_Ta_isSame 16 = .ok (.invokevirtual 59, 3) := by decide +kernel
theorem d_Ta_isSame_19 : decode c_Ta_isSame 19 = .ok (.aload_n 2, 1) := by decide +kernel
theorem d_Ta_isSame_20 : decode c_Ta_isSame 20 = .ok (.getfield 62, 3) := by decide +kernel
theorem d_Ta_isSame_23 : decode c_Ta_isSame 23 = .ok (.ifnonnull 7, 3) := by decide +kernel
theorem d_Ta_isSame_26 : decode c_Ta_isSame 26 = .ok (.iconst 0, 1) := by decide +kernel
theorem d_Ta_isSame_27 : decode c_Ta_isSame 27 = .ok (.goto 10, 3) := by decide +kernel
theorem d_Ta_isSame_30 : decode c_Ta_isSame 30 = .ok (.aload_n 2, 1) := by decide +kernel
theorem d_Ta_isSame_31 : decode c_Ta_isSame 31 = .ok (.getfield 62, 3) := by decide +kernel
theorem d_Ta_isSame_34 : decode c_Ta_isSame 34 = .ok (.invokevirtual 66, 3) := by decide +kernel
theorem d_Ta_isSame_37 : decode c_Ta_isSame 37 = .ok (.isub, 1) := by decide +kernel
theorem d_Ta_isSame_38 : decode c_Ta_isSame 38 = .ok (.istore_n 3, 1) := by decide +kernel
theorem d_Ta_isSame_39 : decode c_Ta_isSame 39 = .ok (.iconst 0, 1) := by decide +kernel
theorem d_Ta_isSame_40 : decode c_Ta_isSame 40 = .ok (.istore 4, 2) := by decide +kernel
theorem d_Ta_isSame_42 : decode c_Ta_isSame 42 = .ok (.iload 4, 2) := by decide +kernel
theorem d_Ta_isSame_44 : decode c_Ta_isSame 44 = .ok (.aload_n 2, 1) := by decide +kernel
theorem d_Ta_isSame_45 : decode c_Ta_isSame 45 = .ok (.invokevirtual 59, 3) := by decide +kernel
theorem d_Ta_isSame_48 : decode c_Ta_isSame 48 = .ok (.if_icmp .ge 48, 3) := by decide +kernel
theorem d_Ta_isSame_51 : decode c_Ta_isSame 51 = .ok (.aload_n 0, 1) := by decide +kernel
theorem d_Ta_isSame_52 : decode c_Ta_isSame 52 = .ok (.getfield 11, 3) := by decide +kernel
theorem d_Ta_isSame_55 : decode c_Ta_isSame 55 = .ok (.iload_n 1, 1) := by decide +kernel
theorem d_Ta_isSame_56 : decode c_Ta_isSame 56 = .ok (.iload 4, 2) := by decide +kernel
theorem d_Ta_isSame_58 : decode c_Ta_isSame 58 = .ok (.iadd, 1) := by decide +kernel
theorem d_Ta_isSame_59 : decode c_Ta_isSame 59 = .ok (.baload, 1) := by decide +kernel
theorem d_Ta_isSame_60 : decode c_Ta_isSame 60 = .ok (.istore 5, 2) := by decide +kernel
theorem d_Ta_isSame_62 : decode c_Ta_isSame 62 = .ok (.iload 4, 2) := by decide +kernel
theorem d_Ta_isSame_64 : decode c_Ta_isSame 64 = .ok (.iload_n 3, 1) := by decide +kernel
theorem d_Ta_isSame_65 : decode c_Ta_isSame 65 = .ok (.if_icmp .ge 8, 3) := by decide +kernel
theorem d_Ta_isSame_68 : decode c_Ta_isSame 68 = .ok (.iload 5, 2) := by decide +kernel
theorem d_Ta_isSame_70 : decode c_Ta_isSame 70 = .ok (.goto 8, 3) := by decide +kernel
theorem d_Ta_isSame_73 : decode c_Ta_isSame 73 = .ok (.iload 5, 2) := by decide +kernel
theorem d_Ta_isSame_75 : decode c_Ta_isSame 75 = .ok (.invokestatic 67, 3) := by decide +kernel
theorem d_Ta_isSame_78 : decode c_Ta_isSame 78 = .ok (.aload_n 2, 1) := by decide +kernel
theorem d_Ta_isSame_79 : decode c_Ta_isSame 79 = .ok (.getfield 71, 3) := by decide +kernel
theorem d_Ta_isSame_82 : decode c_Ta_isSame 82 = .ok (.iload 4, 2) := by decide +kernel
theorem d_Ta_isSame_84 : decode c_Ta_isSame 84 = .ok (.baload, 1) := by decide +kernel
theorem d_Ta_isSame_85 : decode c_Ta_isSame 85 = .ok (.if_icmp .eq 5, 3) := by decide +kernel
theorem d_Ta_isSame_88 : decode c_Ta_isSame 88 = .ok (.iconst 0, 1) := by decide +kernel
theorem d_Ta_isSame_89 : decode c_Ta_isSame 89 = .ok (.ireturn, 1) := by decide +kernel
theorem d_Ta_isSame_90 : decode c_Ta_isSame 90 = .ok (.iinc 4 1, 3) := by decide +kernel
theorem d_Ta_isSame_93 : decode c_Ta_isSame 93 = .ok (.goto (-51), 3) := by decide +kernel
theorem d_Ta_isSame_96 : decode c_Ta_isSame 96 = .ok (.iconst 1, 1) := by decide +kernel
theorem d_Ta_isSame_97 : decode c_Ta_isSame 97 = .ok (.ireturn, 1) := by decide +kernel
abbrev rm_Ta_isSame : Room := { frames := 2, cells := 0, slots := 0, locals := 40 }
set_option maxHeartbeats 4000000 in
set_option maxRecDepth 100000 in
/-- Tape.isSame(x, datum) -/
theorem t_Ta_isSame_n (l : Launch) (E : zc_E) (G : zg_G) (a b : Nat) (tp : List Int32) (hT : zTp E G a b tp) (hlen : tp.length ≤ 65536) (x : Nat) (hx9 : x ≤ tp.length) (q bd : Nat) (dd : List Int32) (fd : Nat → Int32) (hbd : G bd = some (.inl (E.2.1 0, dd.length, .inl fd))) (hfd : ∀ j, j < dd.length → fd j = dd.getD j 0) (hftd : sb_Fit fd) (hdl : dd.length < 2 ^ 24) (hq : G q = some (.inr (2, [.ref bd, .null]))) : zMi l E y_Ta_isSame c_Ta_isSame 6 (some .boolean) rm_Ta_isSame [.ref a, .int (nI x), .ref q] G (fun (r : Int32) (G2 : zg_G) => zb r (zsame tp x dd.length dd) ∧ G2 = G) := by
  refine zMi.of (by decide) (Nat.le_of_ble_eq_true rfl) ?_
  intro p e s m args below meth c Q hZ hG hret ls hl
  obtain ⟨hx, hb, hr, hts, hown, hlocks, hml, hnm, hbase, hK, hN, hQ⟩ := hZ
  have hl : lv_has ls 6 [(0, .ref a), (1, .int (nI x)), (2, .ref q)] := hl
  have hS : zg_S (zc_b E) s.heap s.heap [] := va_S.rf
  obtain ⟨ha, n, f, hb0, hn1, hn2, hn3, hf, hft⟩ := id hT
  refine lv_aload_n hx hb d_Ta_isSame_0 rfl (lv_at hl 0 rfl) ?_
  refine zg_get (ci := 7) (C := "ZoneAnswers$Tape") (T := T_Ta) (N := 2) hx hb hts zi_Ta hown hK hG ha rfl 1 (by decide) (hts _ w_52) (fun _ h9 => h9) rfl d_Ta_isSame_1 ?_
  refine lv_iload_n hx hb d_Ta_isSame_4 rfl (lv_at hl 1 rfl) ?_
  refine lv_isub hx hb d_Ta_isSame_5 ?_
  refine zi_as (y := nI (tp.length - x)) (zi_sub (a := tp.length) (b := x) (by omega)) ?_
  refine lv_aload_n hx hb d_Ta_isSame_6 rfl (lv_at hl 2 rfl) ?_
  refine zk_i (va_runV (As := []) (rest := [.int (nI (tp.length - x))]) ⟨hx, hb, hml, hown, hts⟩ (t_Da_length l E G q .null bd dd.length fd hbd hftd hdl hq) (zcV 0 hts w_899 w_900 w_901 w_8 w_902 (by decide +kernel) ⟨Nat.le_of_ble_eq_true rfl, Nat.le_of_ble_eq_true rfl⟩) (zc_preV hbase hK hN hQ hG hS hq rfl) rfl rfl hl.1 rfl (lv_room (Nat.le_of_ble_eq_true rfl)) d_Ta_isSame_7 ⟨(by decide), (by decide)⟩) hS (fun r7 G7 H locs hp7 hG hS => ?_)
  have hG : zP E G H := hp7.2 ▸ hG
  refine zi_as (y := nI dd.length) hp7.1 ?_
  refine lv_icmp_eq (tgt := 15) hx hb d_Ta_isSame_10 (by decide) (fun c10 => ?_) (fun c10 => ?_)
  · have b10 : (tp.length - x) = dd.length := (nI_eq (a := (tp.length - x)) (b := dd.length) (by omega) (by omega)).mp c10
    refine lv_aload_n hx hb d_Ta_isSame_15 rfl (lv_at hl 2 rfl) ?_
    refine zk_i (va_runV (As := []) (rest := []) ⟨hx, hb, hml, hown, hts⟩ (t_Da_length l E G q .null bd dd.length fd hbd hftd hdl hq) (zcV 0 hts w_899 w_900 w_901 w_8 w_902 (by decide +kernel) ⟨Nat.le_of_ble_eq_true rfl, Nat.le_of_ble_eq_true rfl⟩) (zc_preV hbase hK hN hQ hG hS hq rfl) rfl rfl hl.1 rfl (lv_room (Nat.le_of_ble_eq_true rfl)) d_Ta_isSame_16 ⟨(by decide), (by decide)⟩) hS (fun r16 G16 H locs hp16 hG hS => ?_)
    have hG : zP E G H := hp16.2 ▸ hG
    refine zi_as (y := nI dd.length) hp16.1 ?_
    refine lv_aload_n hx hb d_Ta_isSame_19 rfl (lv_at hl 2 rfl) ?_
    refine zg_get (ci := 2) (C := "ZoneAnswers$Datum") (T := T_Da) (N := 2) hx hb hts zi_Da hown hK hG hq rfl 1 (by decide) (hts _ w_145) (fun _ h9 => h9) rfl d_Ta_isSame_20 ?_
    refine lv_ifnonnullN hx hb d_Ta_isSame_23 ?_
    refine lv_iconst (v := 0) hx hb d_Ta_isSame_26 (by decide) ?_
    refine zi_as (y := nI 0) (nI_0.symm) ?_
    refine lv_goto (tgt := 37) hx hb d_Ta_isSame_27 (by decide) ?_
    refine lv_isub hx hb d_Ta_isSame_37 ?_
    refine zi_as (y := nI (dd.length - 0)) (zi_sub (a := dd.length) (b := 0) (by omega)) ?_
    refine lv_istore_n (lv' := [(3, .int (nI (dd.length - 0))), (0, .ref a), (1, .int (nI x)), (2, .ref q)]) hx hb d_Ta_isSame_38 rfl hl (by decide) rfl (fun ls hl => ?_)
    refine lv_iconst (v := 0) hx hb d_Ta_isSame_39 (by decide) ?_
    refine zi_as (y := nI 0) (nI_0.symm) ?_
    refine lv_istore (lv' := [(4, .int (nI 0)), (3, .int (nI (dd.length - 0))), (0, .ref a), (1, .int (nI x)), (2, .ref q)]) hx hb d_Ta_isSame_40 hl (by decide) rfl (fun ls hl => ?_)
    have loop42 : ∀ (N : Nat) (i : Nat) (H : Heap) (locs : List Loc), (dd.length - i) < N → (i ≤ dd.length) → (∀ j, j < i → (if j < dd.length then tp.getD (x + j) 0 else zlow (tp.getD (x + j) 0)) = dd.getD j 0) → zP E G H → zg_S (zc_b E) s.heap H locs → ∀ (ls : Array Slot), lv_has ls 6 [(0, .ref a), (1, .int (nI x)), (2, .ref q), (3, .int (nI dd.length)), (4, .int (nI i))] → W p l e rm_Ta_isSame s m args below meth c H locs 0 0 Q (F0 m 42 ls []) := by
      intro N
      induction N with
      | zero =>
        intro i H locs hlt
        exact absurd hlt (Nat.not_lt_zero _)
      | succ N ih =>
        intro i H locs hlt hi hq9 hG hS ls hl
        refine lv_iload hx hb d_Ta_isSame_42 (lv_at hl 4 rfl) ?_
        refine lv_aload_n hx hb d_Ta_isSame_44 rfl (lv_at hl 2 rfl) ?_
        refine zk_i (va_runV (As := []) (rest := [.int (nI i)]) ⟨hx, hb, hml, hown, hts⟩ (t_Da_length l E G q .null bd dd.length fd hbd hftd hdl hq) (zcV 0 hts w_899 w_900 w_901 w_8 w_902 (by decide +kernel) ⟨Nat.le_of_ble_eq_true rfl, Nat.le_of_ble_eq_true rfl⟩) (zc_preV hbase hK hN hQ hG hS hq rfl) rfl rfl hl.1 rfl (lv_room (Nat.le_of_ble_eq_true rfl)) d_Ta_isSame_45 ⟨(by decide), (by decide)⟩) hS (fun r45 G45 H locs hp45 hG hS => ?_)
        have hG : zP E G H := hp45.2 ▸ hG
        refine zi_as (y := nI dd.length) hp45.1 ?_
        refine lv_icmp_ge (tgt := 96) hx hb d_Ta_isSame_48 (by decide) (fun c48 => ?_) (fun c48 => ?_)
        · have b48 : dd.length ≤ i := (nI_leI (a := dd.length) (b := i) (by omega) (by omega)).mp c48
          refine lv_iconst (v := 1) hx hb d_Ta_isSame_96 (by decide) ?_
          exact hret _ _ _ _ _ _ _ _ _ hr (rfl) (⟨zb.t ⟨b10, fun j hj => hq9 j (by omega)⟩, rfl⟩) hG hS (Nat.le_refl _) (Nat.le_refl _) d_Ta_isSame_97
        · have b48 : ¬ dd.length ≤ i := fun q => c48 ((nI_leI (a := dd.length) (b := i) (by omega) (by omega)).mpr q)
          refine lv_aload_n hx hb d_Ta_isSame_51 rfl (lv_at hl 0 rfl) ?_
          refine zg_get (ci := 7) (C := "ZoneAnswers$Tape") (T := T_Ta) (N := 2) hx hb hts zi_Ta hown hK hG ha rfl 0 (by decide) (hts _ w_51) (fun _ h9 => h9) rfl d_Ta_isSame_52 ?_
          refine lv_iload_n hx hb d_Ta_isSame_55 rfl (lv_at hl 1 rfl) ?_
          refine lv_iload hx hb d_Ta_isSame_56 (lv_at hl 4 rfl) ?_
          refine lv_iadd hx hb d_Ta_isSame_58 ?_
          refine zi_as (y := nI (x + i)) (nI_add x i) ?_
          refine zg_bald hx hb hK hG 0 hb0 rfl (vp_in_nI (by omega) (by omega)) d_Ta_isSame_59 ?_
          refine zi_as (y := f (x + i)) (by rw [zi_n _ (by omega)]) ?_
          refine lv_istore (lv' := [(5, .int (f (x + i))), (0, .ref a), (1, .int (nI x)), (2, .ref q), (3, .int (nI dd.length)), (4, .int (nI i))]) hx hb d_Ta_isSame_60 hl (by decide) rfl (fun ls hl => ?_)
          refine lv_iload hx hb d_Ta_isSame_62 (lv_at hl 5 rfl) ?_
          refine lv_iload_n hx hb d_Ta_isSame_64 rfl (lv_at hl 4 rfl) ?_
          refine lv_icmp_ge (tgt := 73) hx hb d_Ta_isSame_65 (by decide) (fun c65 => ?_) (fun c65 => ?_)
          · have b65 : dd.length ≤ i := (nI_leI (a := dd.length) (b := i) (by omega) (by omega)).mp c65
            refine lv_iload hx hb d_Ta_isSame_73 (lv_at hl 0 rfl) ?_
            refine zk_i (va_runSN (As := [.int (f (x + i))]) (rest := []) ⟨hx, hb, hml, hown, hts⟩ (t_ZA_lower l E G (f (x + i)) (hft _)) ⟨va_cnB 1 hts (zw_good w_843) rfl rfl rfl (zN.at hN (w := .methodLinkNest "ZoneAnswers$Tape" 67 ⟨"ZoneAnswers", "lower", "(B)B"⟩ "ZoneAnswers") (by decide +kernel)) (hts _ w_1) (by decide +kernel) ⟨Nat.le_of_ble_eq_true rfl, Nat.le_of_ble_eq_true rfl⟩, hts _ w_842, trivial⟩ (zc_pre hbase hK hN hQ hG hS) rfl rfl hl.1 rfl (lv_room (Nat.le_of_ble_eq_true rfl)) d_Ta_isSame_75 ⟨(by decide), (by decide)⟩) hS (fun r75 G75 H locs hp75 hG hS => ?_)
            have hG : zP E G H := hp75.2 ▸ hG
            refine zi_as (y := zlow (f (x + i))) hp75.1 ?_
            refine lv_aload_n hx hb d_Ta_isSame_78 rfl (lv_at hl 3 rfl) ?_
            refine zg_get (ci := 2) (C := "ZoneAnswers$Datum") (T := T_Da) (N := 2) hx hb hts zi_Da hown hK hG hq rfl 0 (by decide) (hts _ w_140) (fun _ h9 => h9) rfl d_Ta_isSame_79 ?_
            refine lv_iload hx hb d_Ta_isSame_82 (lv_at hl 5 rfl) ?_
            refine zg_bald hx hb hK hG 0 hbd rfl (vp_in_nI (by omega) (by omega)) d_Ta_isSame_84 ?_
            refine zi_as (y := fd i) (by rw [zi_n _ (by omega)]) ?_
            refine lv_icmp_eq (tgt := 90) hx hb d_Ta_isSame_85 (by decide) (fun c85 => ?_) (fun c85 => ?_)
            · refine lv_iinc (v := nI (i + 1)) (lv' := [(4, .int (nI (i + 1))), (5, .int (f (x + i))), (0, .ref a), (1, .int (nI x)), (2, .ref q), (3, .int (nI dd.length))]) hx hb d_Ta_isSame_90 hl (k := 5) rfl (nI_add i 1) (by decide) rfl (fun ls hl => ?_)
              refine lv_goto (tgt := 42) hx hb d_Ta_isSame_93 (by decide) ?_
              exact ih (i + 1) _ _ (by omega) (by omega) (fun j hj => by rcases Nat.lt_or_ge j i with q1 | q1; exact hq9 j q1; rw [show j = i by omega, ← hf _ (by omega), ← hfd _ (by omega)]; first | (rw [if_pos (by omega)]; exact c85) | (rw [if_neg (by omega)]; exact c85)) hG hS ls (lv_sub hl [2, 3, 4, 5, 0] rfl)
            · refine lv_iconst (v := 0) hx hb d_Ta_isSame_88 (by decide) ?_
              exact hret _ _ _ _ _ _ _ _ _ hr (rfl) (⟨zb.f (fun z => c85 (by have z9 := z.2 i (by omega); rw [← hf _ (by omega), ← hfd _ (by omega)] at z9; first | (rw [if_pos (by omega)] at z9; exact z9) | (rw [if_neg (by omega)] at z9; exact z9))), rfl⟩) hG hS (Nat.le_refl _) (Nat.le_refl _) d_Ta_isSame_89
          · have b65 : ¬ dd.length ≤ i := fun q => c65 ((nI_leI (a := dd.length) (b := i) (by omega) (by omega)).mpr q)
            refine lv_iload hx hb d_Ta_isSame_68 (lv_at hl 0 rfl) ?_
            refine lv_goto (tgt := 78) hx hb d_Ta_isSame_70 (by decide) ?_
            refine lv_aload_n hx hb d_Ta_isSame_78 rfl (lv_at hl 3 rfl) ?_
            refine zg_get (ci := 2) (C := "ZoneAnswers$Datum") (T := T_Da) (N := 2) hx hb hts zi_Da hown hK hG hq rfl 0 (by decide) (hts _ w_140) (fun _ h9 => h9) rfl d_Ta_isSame_79 ?_
            refine lv_iload hx hb d_Ta_isSame_82 (lv_at hl 5 rfl) ?_
            refine zg_bald hx hb hK hG 0 hbd rfl (vp_in_nI (by omega) (by omega)) d_Ta_isSame_84 ?_
            refine zi_as (y := fd i) (by rw [zi_n _ (by omega)]) ?_
            refine lv_icmp_eq (tgt := 90) hx hb d_Ta_isSame_85 (by decide) (fun c85 => ?_) (fun c85 => ?_)
            · refine lv_iinc (v := nI (i + 1)) (lv' := [(4, .int (nI (i + 1))), (5, .int (f (x + i))), (0, .ref a), (1, .int (nI x)), (2, .ref q), (3, .int (nI dd.length))]) hx hb d_Ta_isSame_90 hl (k := 5) rfl (nI_add i 1) (by decide) rfl (fun ls hl => ?_)
              refine lv_goto (tgt := 42) hx hb d_Ta_isSame_93 (by decide) ?_
              exact ih (i + 1) _ _ (by omega) (by omega) (fun j hj => by rcases Nat.lt_or_ge j i with q1 | q1; exact hq9 j q1; rw [show j = i by omega, ← hf _ (by omega), ← hfd _ (by omega)]; first | (rw [if_pos (by omega)]; exact c85) | (rw [if_neg (by omega)]; exact c85)) hG hS ls (lv_sub hl [2, 3, 4, 5, 0] rfl)
            · refine lv_iconst (v := 0) hx hb d_Ta_isSame_88 (by decide) ?_
              exact hret _ _ _ _ _ _ _ _ _ hr (rfl) (⟨zb.f (fun z => c85 (by have z9 := z.2 i (by omega); rw [← hf _ (by omega), ← hfd _ (by omega)] at z9; first | (rw [if_pos (by omega)] at z9; exact z9) | (rw [if_neg (by omega)] at z9; exact z9))), rfl⟩) hG hS (Nat.le_refl _) (Nat.le_refl _) d_Ta_isSame_89
    exact loop42 _ 0 _ _ (Nat.lt_succ_self _) (Nat.zero_le _) (fun j h => absurd h (Nat.not_lt_zero j)) hG hS ls (lv_sub hl [2, 3, 4, 1, 0] rfl)
  · have b10 : ¬ (tp.length - x) = dd.length := fun q => c10 ((nI_eq (a := (tp.length - x)) (b := dd.length) (by omega) (by omega)).mpr q)
    refine lv_iconst (v := 0) hx hb d_Ta_isSame_13 (by decide) ?_
    exact hret _ _ _ _ _ _ _ _ _ hr (rfl) (⟨zb.f (fun z => b10 z.1), rfl⟩) hG hS (Nat.le_refl _) (Nat.le_refl _) d_Ta_isSame_14
set_option maxHeartbeats 4000000 in
set_option maxRecDepth 100000 in
/-- Tape.isSame(x, datum) -/
theorem t_Ta_isSame_s (l : Launch) (E : zc_E) (G : zg_G) (a b : Nat) (tp : List Int32) (hT : zTp E G a b tp) (hlen : tp.length ≤ 65536) (x : Nat) (hx9 : x ≤ tp.length) (q bd : Nat) (dd : List Int32) (fd : Nat → Int32) (hbd : G bd = some (.inl (E.2.1 0, dd.length, .inl fd))) (hfd : ∀ j, j < dd.length → fd j = dd.getD j 0) (hftd : sb_Fit fd) (hdl : dd.length < 2 ^ 24) (a1 b1 : Nat) (ls1 : np_N) (f1 : Nat → Int32) (ha1 : G a1 = some (.inr (3, [.ref b1, .int (nI ls1.length)]))) (hb1 : G b1 = some (.inl (E.2.1 0, np_len ls1, .inl f1))) (hf1 : np_f ls1 f1) (hg1 : np_g ls1) (hle : np_len ls1 ≤ dd.length) (hq : G q = some (.inr (2, [.ref bd, .ref a1]))) : zMi l E y_Ta_isSame c_Ta_isSame 6 (some .boolean) rm_Ta_isSame [.ref a, .int (nI x), .ref q] G (fun (r : Int32) (G2 : zg_G) => zb r (zsame tp x (dd.length - np_len ls1) dd) ∧ G2 = G) := by
  refine zMi.of (by decide) (Nat.le_of_ble_eq_true rfl) ?_
  intro p e s m args below meth c Q hZ hG hret ls hl
  obtain ⟨hx, hb, hr, hts, hown, hlocks, hml, hnm, hbase, hK, hN, hQ⟩ := hZ
  have hl : lv_has ls 6 [(0, .ref a), (1, .int (nI x)), (2, .ref q)] := hl
  have hS : zg_S (zc_b E) s.heap s.heap [] := va_S.rf
  obtain ⟨ha, n, f, hb0, hn1, hn2, hn3, hf, hft⟩ := id hT
  have zl1 := hg1.2
  have zc1 := hg1.count
  refine lv_aload_n hx hb d_Ta_isSame_0 rfl (lv_at hl 0 rfl) ?_
  refine zg_get (ci := 7) (C := "ZoneAnswers$Tape") (T := T_Ta) (N := 2) hx hb hts zi_Ta hown hK hG ha rfl 1 (by decide) (hts _ w_52) (fun _ h9 => h9) rfl d_Ta_isSame_1 ?_
  refine lv_iload_n hx hb d_Ta_isSame_4 rfl (lv_at hl 1 rfl) ?_
  refine lv_isub hx hb d_Ta_isSame_5 ?_
  refine zi_as (y := nI (tp.length - x)) (zi_sub (a := tp.length) (b := x) (by omega)) ?_
  refine lv_aload_n hx hb d_Ta_isSame_6 rfl (lv_at hl 2 rfl) ?_
  refine zk_i (va_runV (As := []) (rest := [.int (nI (tp.length - x))]) ⟨hx, hb, hml, hown, hts⟩ (t_Da_length l E G q (.ref a1) bd dd.length fd hbd hftd hdl hq) (zcV 0 hts w_899 w_900 w_901 w_8 w_902 (by decide +kernel) ⟨Nat.le_of_ble_eq_true rfl, Nat.le_of_ble_eq_true rfl⟩) (zc_preV hbase hK hN hQ hG hS hq rfl) rfl rfl hl.1 rfl (lv_room (Nat.le_of_ble_eq_true rfl)) d_Ta_isSame_7 ⟨(by decide), (by decide)⟩) hS (fun r7 G7 H locs hp7 hG hS => ?_)
  have hG : zP E G H := hp7.2 ▸ hG
  refine zi_as (y := nI dd.length) hp7.1 ?_
  refine lv_icmp_eq (tgt := 15) hx hb d_Ta_isSame_10 (by decide) (fun c10 => ?_) (fun c10 => ?_)
  · have b10 : (tp.length - x) = dd.length := (nI_eq (a := (tp.length - x)) (b := dd.length) (by omega) (by omega)).mp c10
    refine lv_aload_n hx hb d_Ta_isSame_15 rfl (lv_at hl 2 rfl) ?_
    refine zk_i (va_runV (As := []) (rest := []) ⟨hx, hb, hml, hown, hts⟩ (t_Da_length l E G q (.ref a1) bd dd.length fd hbd hftd hdl hq) (zcV 0 hts w_899 w_900 w_901 w_8 w_902 (by decide +kernel) ⟨Nat.le_of_ble_eq_true rfl, Nat.le_of_ble_eq_true rfl⟩) (zc_preV hbase hK hN hQ hG hS hq rfl) rfl rfl hl.1 rfl (lv_room (Nat.le_of_ble_eq_true rfl)) d_Ta_isSame_16 ⟨(by decide), (by decide)⟩) hS (fun r16 G16 H locs hp16 hG hS => ?_)
    have hG : zP E G H := hp16.2 ▸ hG
    refine zi_as (y := nI dd.length) hp16.1 ?_
    refine lv_aload_n hx hb d_Ta_isSame_19 rfl (lv_at hl 2 rfl) ?_
    refine zg_get (ci := 2) (C := "ZoneAnswers$Datum") (T := T_Da) (N := 2) hx hb hts zi_Da hown hK hG hq rfl 1 (by decide) (hts _ w_145) (fun _ h9 => h9) rfl d_Ta_isSame_20 ?_
    refine lv_ifnonnull (tgt := 30) hx hb d_Ta_isSame_23 (by decide) ?_
    refine lv_aload_n hx hb d_Ta_isSame_30 rfl (lv_at hl 2 rfl) ?_
    refine zg_get (ci := 2) (C := "ZoneAnswers$Datum") (T := T_Da) (N := 2) hx hb hts zi_Da hown hK hG hq rfl 1 (by decide) (hts _ w_145) (fun _ h9 => h9) rfl d_Ta_isSame_31 ?_
    refine zk_i (va_runV (As := []) (rest := [.int (nI dd.length)]) ⟨hx, hb, hml, hown, hts⟩ (t_Na_length l E G a1 b1 ls1 f1 ha1 hb1 hf1 hg1) (zcV 0 hts w_903 w_885 w_886 w_7 w_887 (by decide +kernel) ⟨Nat.le_of_ble_eq_true rfl, Nat.le_of_ble_eq_true rfl⟩) (zc_preV hbase hK hN hQ hG hS ha1 rfl) rfl rfl hl.1 rfl (lv_room (Nat.le_of_ble_eq_true rfl)) d_Ta_isSame_34 ⟨(by decide), (by decide)⟩) hS (fun r34 G34 H locs hp34 hG hS => ?_)
    have hG : zP E G H := hp34.2 ▸ hG
    refine zi_as (y := nI (np_len ls1)) hp34.1 ?_
    refine lv_isub hx hb d_Ta_isSame_37 ?_
    refine zi_as (y := nI (dd.length - (np_len ls1))) (zi_sub (a := dd.length) (b := np_len ls1) (by omega)) ?_
    refine lv_istore_n (lv' := [(3, .int (nI (dd.length - (np_len ls1)))), (0, .ref a), (1, .int (nI x)), (2, .ref q)]) hx hb d_Ta_isSame_38 rfl hl (by decide) rfl (fun ls hl => ?_)
    refine lv_iconst (v := 0) hx hb d_Ta_isSame_39 (by decide) ?_
    refine zi_as (y := nI 0) (nI_0.symm) ?_
    refine lv_istore (lv' := [(4, .int (nI 0)), (3, .int (nI (dd.length - (np_len ls1)))), (0, .ref a), (1, .int (nI x)), (2, .ref q)]) hx hb d_Ta_isSame_40 hl (by decide) rfl (fun ls hl => ?_)
    have loop42 : ∀ (N : Nat) (i : Nat) (H : Heap) (locs : List Loc), (dd.length - i) < N → (i ≤ dd.length) → (∀ j, j < i → (if j < (dd.length - np_len ls1) then tp.getD (x + j) 0 else zlow (tp.getD (x + j) 0)) = dd.getD j 0) → zP E G H → zg_S (zc_b E) s.heap H locs → ∀ (ls : Array Slot), lv_has ls 6 [(0, .ref a), (1, .int (nI x)), (2, .ref q), (3, .int (nI (dd.length - np_len ls1))), (4, .int (nI i))] → W p l e rm_Ta_isSame s m args below meth c H locs 0 0 Q (F0 m 42 ls []) := by
      intro N
      induction N with
      | zero =>
        intro i H locs hlt
        exact absurd hlt (Nat.not_lt_zero _)
      | succ N ih =>
        intro i H locs hlt hi hq9 hG hS ls hl
        refine lv_iload hx hb d_Ta_isSame_42 (lv_at hl 4 rfl) ?_
        refine lv_aload_n hx hb d_Ta_isSame_44 rfl (lv_at hl 2 rfl) ?_
        refine zk_i (va_runV (As := []) (rest := [.int (nI i)]) ⟨hx, hb, hml, hown, hts⟩ (t_Da_length l E G q (.ref a1) bd dd.length fd hbd hftd hdl hq) (zcV 0 hts w_899 w_900 w_901 w_8 w_902 (by decide +kernel) ⟨Nat.le_of_ble_eq_true rfl, Nat.le_of_ble_eq_true rfl⟩) (zc_preV hbase hK hN hQ hG hS hq rfl) rfl rfl hl.1 rfl (lv_room (Nat.le_of_ble_eq_true rfl)) d_Ta_isSame_45 ⟨(by decide), (by decide)⟩) hS (fun r45 G45 H locs hp45 hG hS => ?_)
        have hG : zP E G H := hp45.2 ▸ hG
        refine zi_as (y := nI dd.length) hp45.1 ?_
        refine lv_icmp_ge (tgt := 96) hx hb d_Ta_isSame_48 (by decide) (fun c48 => ?_) (fun c48 => ?_)
        · have b48 : dd.length ≤ i := (nI_leI (a := dd.length) (b := i) (by omega) (by omega)).mp c48
          refine lv_iconst (v := 1) hx hb d_Ta_isSame_96 (by decide) ?_
          exact hret _ _ _ _ _ _ _ _ _ hr (rfl) (⟨zb.t ⟨b10, fun j hj => hq9 j (by omega)⟩, rfl⟩) hG hS (Nat.le_refl _) (Nat.le_refl _) d_Ta_isSame_97
        · have b48 : ¬ dd.length ≤ i := fun q => c48 ((nI_leI (a := dd.length) (b := i) (by omega) (by omega)).mpr q)
          refine lv_aload_n hx hb d_Ta_isSame_51 rfl (lv_at hl 0 rfl) ?_
          refine zg_get (ci := 7) (C := "ZoneAnswers$Tape") (T := T_Ta) (N := 2) hx hb hts zi_Ta hown hK hG ha rfl 0 (by decide) (hts _ w_51) (fun _ h9 => h9) rfl d_Ta_isSame_52 ?_
          refine lv_iload_n hx hb d_Ta_isSame_55 rfl (lv_at hl 1 rfl) ?_
          refine lv_iload hx hb d_Ta_isSame_56 (lv_at hl 4 rfl) ?_
          refine lv_iadd hx hb d_Ta_isSame_58 ?_
          refine zi_as (y := nI (x + i)) (nI_add x i) ?_
          refine zg_bald hx hb hK hG 0 hb0 rfl (vp_in_nI (by omega) (by omega)) d_Ta_isSame_59 ?_
          refine zi_as (y := f (x + i)) (by rw [zi_n _ (by omega)]) ?_
          refine lv_istore (lv' := [(5, .int (f (x + i))), (0, .ref a), (1, .int (nI x)), (2, .ref q), (3, .int (nI (dd.length - np_len ls1))), (4, .int (nI i))]) hx hb d_Ta_isSame_60 hl (by decide) rfl (fun ls hl => ?_)
          refine lv_iload hx hb d_Ta_isSame_62 (lv_at hl 5 rfl) ?_
          refine lv_iload_n hx hb d_Ta_isSame_64 rfl (lv_at hl 4 rfl) ?_
          refine lv_icmp_ge (tgt := 73) hx hb d_Ta_isSame_65 (by decide) (fun c65 => ?_) (fun c65 => ?_)
          · have b65 : (dd.length - np_len ls1) ≤ i := (nI_leI (a := (dd.length - np_len ls1)) (b := i) (by omega) (by omega)).mp c65
            refine lv_iload hx hb d_Ta_isSame_73 (lv_at hl 0 rfl) ?_
            refine zk_i (va_runSN (As := [.int (f (x + i))]) (rest := []) ⟨hx, hb, hml, hown, hts⟩ (t_ZA_lower l E G (f (x + i)) (hft _)) ⟨va_cnB 1 hts (zw_good w_843) rfl rfl rfl (zN.at hN (w := .methodLinkNest "ZoneAnswers$Tape" 67 ⟨"ZoneAnswers", "lower", "(B)B"⟩ "ZoneAnswers") (by decide +kernel)) (hts _ w_1) (by decide +kernel) ⟨Nat.le_of_ble_eq_true rfl, Nat.le_of_ble_eq_true rfl⟩, hts _ w_842, trivial⟩ (zc_pre hbase hK hN hQ hG hS) rfl rfl hl.1 rfl (lv_room (Nat.le_of_ble_eq_true rfl)) d_Ta_isSame_75 ⟨(by decide), (by decide)⟩) hS (fun r75 G75 H locs hp75 hG hS => ?_)
            have hG : zP E G H := hp75.2 ▸ hG
            refine zi_as (y := zlow (f (x + i))) hp75.1 ?_
            refine lv_aload_n hx hb d_Ta_isSame_78 rfl (lv_at hl 3 rfl) ?_
            refine zg_get (ci := 2) (C := "ZoneAnswers$Datum") (T := T_Da) (N := 2) hx hb hts zi_Da hown hK hG hq rfl 0 (by decide) (hts _ w_140) (fun _ h9 => h9) rfl d_Ta_isSame_79 ?_
            refine lv_iload hx hb d_Ta_isSame_82 (lv_at hl 5 rfl) ?_
            refine zg_bald hx hb hK hG 0 hbd rfl (vp_in_nI (by omega) (by omega)) d_Ta_isSame_84 ?_
            refine zi_as (y := fd i) (by rw [zi_n _ (by omega)]) ?_
            refine lv_icmp_eq (tgt := 90) hx hb d_Ta_isSame_85 (by decide) (fun c85 => ?_) (fun c85 => ?_)
            · refine lv_iinc (v := nI (i + 1)) (lv' := [(4, .int (nI (i + 1))), (5, .int (f (x + i))), (0, .ref a), (1, .int (nI x)), (2, .ref q), (3, .int (nI (dd.length - np_len ls1)))]) hx hb d_Ta_isSame_90 hl (k := 5) rfl (nI_add i 1) (by decide) rfl (fun ls hl => ?_)
              refine lv_goto (tgt := 42) hx hb d_Ta_isSame_93 (by decide) ?_
              exact ih (i + 1) _ _ (by omega) (by omega) (fun j hj => by rcases Nat.lt_or_ge j i with q1 | q1; exact hq9 j q1; rw [show j = i by omega, ← hf _ (by omega), ← hfd _ (by omega)]; first | (rw [if_pos (by omega)]; exact c85) | (rw [if_neg (by omega)]; exact c85)) hG hS ls (lv_sub hl [2, 3, 4, 5, 0] rfl)
            · refine lv_iconst (v := 0) hx hb d_Ta_isSame_88 (by decide) ?_
              exact hret _ _ _ _ _ _ _ _ _ hr (rfl) (⟨zb.f (fun z => c85 (by have z9 := z.2 i (by omega); rw [← hf _ (by omega), ← hfd _ (by omega)] at z9; first | (rw [if_pos (by omega)] at z9; exact z9) | (rw [if_neg (by omega)] at z9; exact z9))), rfl⟩) hG hS (Nat.le_refl _) (Nat.le_refl _) d_Ta_isSame_89
          · have b65 : ¬ (dd.length - np_len ls1) ≤ i := fun q => c65 ((nI_leI (a := (dd.length - np_len ls1)) (b := i) (by omega) (by omega)).mpr q)
            refine lv_iload hx hb d_Ta_isSame_68 (lv_at hl 0 rfl) ?_
            refine lv_goto (tgt := 78) hx hb d_Ta_isSame_70 (by decide) ?_
            refine lv_aload_n hx hb d_Ta_isSame_78 rfl (lv_at hl 3 rfl) ?_
            refine zg_get (ci := 2) (C := "ZoneAnswers$Datum") (T := T_Da) (N := 2) hx hb hts zi_Da hown hK hG hq rfl 0 (by decide) (hts _ w_140) (fun _ h9 => h9) rfl d_Ta_isSame_79 ?_
            refine lv_iload hx hb d_Ta_isSame_82 (lv_at hl 5 rfl) ?_
            refine zg_bald hx hb hK hG 0 hbd rfl (vp_in_nI (by omega) (by omega)) d_Ta_isSame_84 ?_
            refine zi_as (y := fd i) (by rw [zi_n _ (by omega)]) ?_
            refine lv_icmp_eq (tgt := 90) hx hb d_Ta_isSame_85 (by decide) (fun c85 => ?_) (fun c85 => ?_)
            · refine lv_iinc (v := nI (i + 1)) (lv' := [(4, .int (nI (i + 1))), (5, .int (f (x + i))), (0, .ref a), (1, .int (nI x)), (2, .ref q), (3, .int (nI (dd.length - np_len ls1)))]) hx hb d_Ta_isSame_90 hl (k := 5) rfl (nI_add i 1) (by decide) rfl (fun ls hl => ?_)
              refine lv_goto (tgt := 42) hx hb d_Ta_isSame_93 (by decide) ?_
              exact ih (i + 1) _ _ (by omega) (by omega) (fun j hj => by rcases Nat.lt_or_ge j i with q1 | q1; exact hq9 j q1; rw [show j = i by omega, ← hf _ (by omega), ← hfd _ (by omega)]; first | (rw [if_pos (by omega)]; exact c85) | (rw [if_neg (by omega)]; exact c85)) hG hS ls (lv_sub hl [2, 3, 4, 5, 0] rfl)
            · refine lv_iconst (v := 0) hx hb d_Ta_isSame_88 (by decide) ?_
              exact hret _ _ _ _ _ _ _ _ _ hr (rfl) (⟨zb.f (fun z => c85 (by have z9 := z.2 i (by omega); rw [← hf _ (by omega), ← hfd _ (by omega)] at z9; first | (rw [if_pos (by omega)] at z9; exact z9) | (rw [if_neg (by omega)] at z9; exact z9))), rfl⟩) hG hS (Nat.le_refl _) (Nat.le_refl _) d_Ta_isSame_89
    exact loop42 _ 0 _ _ (Nat.lt_succ_self _) (Nat.zero_le _) (fun j h => absurd h (Nat.not_lt_zero j)) hG hS ls (lv_sub hl [2, 3, 4, 1, 0] rfl)
  · have b10 : ¬ (tp.length - x) = dd.length := fun q => c10 ((nI_eq (a := (tp.length - x)) (b := dd.length) (by omega) (by omega)).mpr q)
    refine lv_iconst (v := 0) hx hb d_Ta_isSame_13 (by decide) ?_
    exact hret _ _ _ _ _ _ _ _ _ hr (rfl) (⟨zb.f (fun z => b10 z.1), rfl⟩) hG hS (Nat.le_refl _) (Nat.le_refl _) d_Ta_isSame_14
