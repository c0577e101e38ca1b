theorem sE_q {s : zSt} {i : Nat} (h : i < (sX s).length) : (sX s)[i]? = some (sE s i) := by
  unfold sE
  rw [List.getD_eq_getElem?_getD, List.getElem?_eq_getElem h]; rfl
theorem w_36 : (.initialized "ZoneAnswers$Told" : Cond) ∈ zw := zw_at 36 (by decide +kernel) (by decide +kernel)
theorem w_618 : (.fieldLink "ZoneAnswers$Section" 36 "ZoneAnswers$Rrset" "type" "I" : Cond) ∈ zw := zw_at 618 (by decide +kernel) (by decide +kernel)
theorem w_627 : (.fieldLink "ZoneAnswers$Section" 40 "ZoneAnswers$Rrset" "data" "Ljava/util/ArrayList;" : Cond) ∈ zw := zw_at 627 (by decide +kernel) (by decide +kernel)
theorem w_1037 : (.methodLink "ZoneAnswers$Section" 33 ⟨"ZoneAnswers$Rrset", "size", "()I"⟩ : Cond) ∈ zw := zw_at 1037 (by decide +kernel) (by decide +kernel)
theorem w_1039 : (.instantiable "ZoneAnswers$Told" 4 : Cond) ∈ zw := zw_at 1039 (by decide +kernel) (by decide +kernel)
theorem w_1041 : (.classLink "ZoneAnswers$Section" 43 "ZoneAnswers$Datum" : Cond) ∈ zw := zw_at 1041 (by decide +kernel) (by decide +kernel)
theorem w_1042 : (.methodLink "ZoneAnswers$Section" 45 ⟨"ZoneAnswers$Told", "<init>", "(LZoneAnswers$Name;IILZoneAnswers$Datum;)V"⟩ : Cond) ∈ zw := zw_at 1042 (by decide +kernel) (by decide +kernel)
theorem w_1043 : (.instanceMethod ⟨"ZoneAnswers$Told", "<init>", "(LZoneAnswers$Name;IILZoneAnswers$Datum;)V"⟩ : Cond) ∈ zw := zw_at 1043 (by decide +kernel) (by decide +kernel)
theorem w_1044 : (.code ⟨"ZoneAnswers$Told", "<init>", "(LZoneAnswers$Name;IILZoneAnswers$Datum;)V"⟩ prog_9_method_1_code 5 none : Cond) ∈ zw := zw_at 1044 (by decide +kernel) (by decide +kernel)
abbrev c_Se_addSet : ByteArray := prog_7_method_6_code
abbrev y_Se_addSet : MethodName := ⟨"ZoneAnswers$Section", "addSet", "(LZoneAnswers$Name;LZoneAnswers$Rrset;I)V"⟩
theorem d_Se_addSet_0 : decode c_Se_addSet 0 = .ok (.iconst 0, 1) := by decide +kernel
theorem d_Se_addSet_1 : decode c_Se_addSet 1 = .ok (.istore 4, 2) := by decide +kernel
theorem d_Se_addSet_3 : decode c_Se_addSet 3 = .ok (.iload 4, 2) := by decide +kernel
theorem d_Se_addSet_5 : decode c_Se_addSet 5 = .ok (.aload_n 2, 1) := by decide +kernel
theorem d_Se_addSet_6 : decode c_Se_addSet 6 = .ok (.invokevirtual 33, 3) := by decide +kernel
theorem d_Se_addSet_9 : decode c_Se_addSet 9 = .ok (.if_icmp .ge 42, 3) := by decide +kernel
theorem d_Se_addSet_12 : decode c_Se_addSet 12 = .ok (.aload_n 0, 1) := by decide +kernel
theorem d_Se_addSet_13 : decode c_Se_addSet 13 = .ok (.getfield 10, 3) := by decide +kernel
theorem d_Se_addSet_16 : decode c_Se_addSet 16 = .ok (.new 27, 3) := by decide +kernel
theorem d_Se_addSet_19 : decode c_Se_addSet 19 = .ok (.dup, 1) := by decide +kernel
theorem d_Se_addSet_20 : decode c_Se_addSet 20 = .ok (.aload_n 1, 1) := by decide +kernel
theorem d_Se_addSet_21 : decode c_Se_addSet 21 = .ok (.aload_n 2, 1) := by decide +kernel
theorem d_Se_addSet_22 : decode c_Se_addSet 22 = .ok (.getfield 36, 3) := by decide +kernel
theorem d_Se_addSet_25 : decode c_Se_addSet 25 = .ok (.iload_n 3, 1) := by decide +kernel
theorem d_Se_addSet_26 : decode c_Se_addSet 26 = .ok (.aload_n 2, 1) := by decide +kernel
theorem d_Se_addSet_27 : decode c_Se_addSet 27 = .ok (.getfield 40, 3) := by decide +kernel
theorem d_Se_addSet_30 : decode c_Se_addSet 30 = .ok (.iload 4, 2) := by decide +kernel
theorem d_Se_addSet_32 : decode c_Se_addSet 32 = .ok (.invokevirtual 23, 3) := by decide +kernel
theorem d_Se_addSet_35 : decode c_Se_addSet 35 = .ok (.checkcast 43, 3) := by decide +kernel
theorem d_Se_addSet_38 : decode c_Se_addSet 38 = .ok (.invokespecial 45, 3) := by decide +kernel
theorem d_Se_addSet_41 : decode c_Se_addSet 41 = .ok (.invokevirtual 29, 3) := by decide +kernel
theorem d_Se_addSet_44 : decode c_Se_addSet 44 = .ok (.pop, 1) := by decide +kernel
theorem d_Se_addSet_45 : decode c_Se_addSet 45 = .ok (.iinc 4 1, 3) := by decide +kernel
theorem d_Se_addSet_48 : decode c_Se_addSet 48 = .ok (.goto (-45), 3) := by decide +kernel
theorem d_Se_addSet_51 : decode c_Se_addSet 51 = .ok (.return_, 1) := by decide +kernel
abbrev rm_Se_addSet (c0 n0 k0 : Nat) : Room := { frames := 8, cells := 2 * k0, slots := 4 * k0 + 4 * (zcp c0 (n0 + k0) - zcp c0 n0), locals := 260 }
set_option maxHeartbeats 4000000 in
set_option maxRecDepth 100000 in
/-- Section.addSet(name, set, time) -/
theorem t_Se_addSet (l : Launch) (E : zc_E) (G : zg_G) (sa la dd ix c0 : Nat) (ro : zRo) (ts : List zTt) (hES : zES E G ro sa la dd ts ix c0) (a1 : Nat) (ls1 : np_N) (hNm : zNR E G ro a1 ls1) (o9 : Nat) (s9 : zSt) (hSet : zSR E G ro o9 s9) (ti : Int32) (hn9 : ts.length + (sX s9).length < 2000) : zMv l E y_Se_addSet c_Se_addSet 5 (rm_Se_addSet c0 ts.length (sX s9).length) [.ref sa, .ref a1, .ref (sA s9), .int ti] G (fun (G2 : zg_G) => ∃ ro2 dd2 ts2, zES E G2 ro2 sa la dd2 (ts ++ ts2) ix c0 ∧ zfr ro (zKs ix) G ro2 G2 ∧ ts2.map tR = (sX s9).map (fun d => (ls1, sT s9, ti, d.2))) := by
  refine zMv.of (by decide) (Nat.le_of_ble_eq_true rfl) ?_
  intro p e s m args below meth c Q hZ hG hret ls hl
  obtain ⟨hx, hb, hr, hts, hown, hlocks, hml, hnm, hbase, hK, hN, hQ⟩ := hZ
  have hl : lv_has ls 5 [(0, .ref sa), (1, .ref a1), (2, .ref (sA s9)), (3, .int ti)] := hl
  have hS : zg_S (zc_b E) s.heap s.heap [] := va_S.rf
  refine lv_iconst (v := 0) hx hb d_Se_addSet_0 (by decide) ?_
  refine zi_as (y := nI 0) (nI_0.symm) ?_
  refine lv_istore (lv' := [(4, .int (nI 0)), (0, .ref sa), (1, .ref a1), (2, .ref (sA s9)), (3, .int ti)]) hx hb d_Se_addSet_1 hl (by decide) rfl (fun ls hl => ?_)
  have loop3 : ∀ (N : Nat) (Gv : zg_G) (i : Nat) (ro8 : zRo) (dd8 : Nat) (ts8 : List zTt) (H : Heap) (locs : List Loc), ((sX s9).length - i) < N → (i ≤ (sX s9).length) → (zES E Gv ro8 sa la dd8 (ts ++ ts8) ix c0) → (ts8.map tR = ((sX s9).take i).map (fun d => (ls1, sT s9, ti, d.2))) → (zfr ro (zKs ix) G ro8 Gv) → zP E Gv H → zg_S (zc_b E) s.heap H locs → ∀ (ls : Array Slot), lv_has ls 5 [(0, .ref sa), (1, .ref a1), (2, .ref (sA s9)), (3, .int ti), (4, .int (nI i))] → W p l e (rm_Se_addSet c0 ts.length (sX s9).length) s m args below meth c H locs (2 * i) (4 * i + 4 * (zcp c0 (ts.length + i) - zcp c0 ts.length)) Q (F0 m 3 ls []) := by
    intro N
    induction N with
    | zero =>
      intro Gv i ro8 dd8 ts8 H locs hlt
      exact absurd hlt (Nat.not_lt_zero _)
    | succ N ih =>
      intro Gv i ro8 dd8 ts8 H locs hlt hi hES8 hts8 hfr8 hG hS ls hl
      have hE8 : Gv (E.2.2.2 0) = none := hQ.out hG
      have hNm8 := hNm.fr hfr8 zKs_0
      have hSet8 := hSet.fr hfr8 hE8 zKs_0 zKs_z
      obtain ⟨bn8, fn8, hcn8, -⟩ := id hNm8
      obtain ⟨⟨⟨kq8, hql8⟩, -⟩, -⟩ := id hSet8.2.2.1
      rw [List.length_map] at hql8
      obtain ⟨⟨⟨kr8, hrl8⟩, -⟩, -⟩ := id hES8.1.2.1
      rw [List.length_map] at hrl8
      have hlt8 : ts8.length = i := by have q := congrArg List.length hts8; rw [List.length_map, List.length_map, List.length_take] at q; omega
      have hLL8 : (ts ++ ts8).length = ts.length + i := by rw [List.length_append, hlt8]
      have hmn8 := zcp_mono2 c0 (show ts.length ≤ ts.length + i by omega)
      refine lv_iload hx hb d_Se_addSet_3 (lv_at hl 4 rfl) ?_
      refine lv_aload_n hx hb d_Se_addSet_5 rfl (lv_at hl 2 rfl) ?_
      refine zk_i (va_runV (As := []) (rest := [.int (nI i)]) ⟨hx, hb, hml, hown, hts⟩ (t_Rr_size l E Gv (sA s9) (sT s9) (sU s9) (sL s9) (.ref (sD s9)) (nI ((sX s9).length)) kq8 hql8 hSet8.1) (zcV 0 hts w_1037 w_933 w_934 w_27 w_935 (by decide +kernel) ⟨Nat.le_of_ble_eq_true rfl, Nat.le_of_ble_eq_true rfl⟩) (zc_preV hbase hK hN hQ hG hS hSet8.1 rfl) rfl rfl hl.1 rfl (lv_room (Nat.le_of_ble_eq_true rfl)) d_Se_addSet_6 ⟨(by dsimp only; omega), (by have q := zcp_mono2 c0 (show ts.length + i ≤ ts.length + (sX s9).length by omega); dsimp only; omega)⟩) hS (fun r6 G6 H locs hp6 hG hS => ?_)
      have hG : zP E Gv H := hp6.2 ▸ hG
      refine zi_as (y := nI ((sX s9).length)) hp6.1 ?_
      refine lv_icmp_ge (tgt := 51) hx hb d_Se_addSet_9 (by decide) (fun c9 => ?_) (fun c9 => ?_)
      · have b9 : ((sX s9).length) ≤ i := (nI_leI (a := ((sX s9).length)) (b := i) (by omega) (by omega)).mp c9
        exact hret _ _ _ _ _ _ _ (⟨ro8, dd8, ts8, hES8, hfr8, by rw [hts8, show i = (sX s9).length by omega, List.take_length]⟩) hG hS (by dsimp only; omega) (by rw [show i = (sX s9).length by omega]; exact Nat.le_refl _) d_Se_addSet_51
      · have b9 : ¬ ((sX s9).length) ≤ i := fun q => c9 ((nI_leI (a := ((sX s9).length)) (b := i) (by omega) (by omega)).mpr q)
        have hin : i < (sX s9).length := by omega
        have hm28 := zcp_mono2 c0 (show ts.length + i + 1 ≤ ts.length + (sX s9).length by omega)
        have hce9 := zce_le c0 (ts.length + i)
        have hcm8 := zcp_mono c0 (ts.length + i)
        refine lv_aload_n hx hb d_Se_addSet_12 rfl (lv_at hl 0 rfl) ?_
        refine zg_get (ci := 6) (C := "ZoneAnswers$Section") (T := T_Se) (N := 1) hx hb hts zi_Se hown hK hG hES8.1.1 rfl 0 (by decide) (hts _ w_680) (fun _ h9 => h9) rfl d_Se_addSet_13 ?_
        refine zg_new (ci := 8) (fs := [.null, .int 0, .int 0, .null]) (C := "ZoneAnswers$Told") (T := T_To) (N := 4) hx hb hts zi_To t_To t_To_ok hown (hts _ w_1038) (hts _ w_1039) (hts _ w_36) hK hG hS hbase rfl (fun j hj => by rcases (show j = 0 ∨ j = 1 ∨ j = 2 ∨ j = 3 by omega) with rfl | rfl | rfl | rfl <;> rfl) (by dsimp only; omega) (by dsimp only; omega) d_Se_addSet_16 (fun q16 H n16 hG hS => ?_)
        obtain ⟨G1, eG1⟩ : ∃ z : zg_G, z = zg_up Gv q16 (.inr (8, [.null, .int 0, .int 0, .null])) := ⟨_, rfl⟩
        have hG : zP E G1 H := by rw [eG1]; exact hG
        have ne16_sa : sa ≠ q16 := zg_fr n16 hES8.1.1
        have k2 : G1 sa = some (.inr (6, [.ref la])) := by rw [eG1, zg_up_ne (zg_fr n16 hES8.1.1)]; exact hES8.1.1
        have ne16_la : la ≠ q16 := zg_fr n16 hrl8
        have k3 : G1 la = some (.inr (0, [.ref dd8, .int (nI ((ts ++ ts8).length)), .int kr8])) := by rw [eG1, zg_up_ne (zg_fr n16 hrl8)]; exact hrl8
        have ne16_a1 : a1 ≠ q16 := zg_fr n16 hcn8
        have k4 : G1 a1 = some (.inr (3, [.ref bn8, .int (nI ls1.length)])) := by rw [eG1, zg_up_ne (zg_fr n16 hcn8)]; exact hcn8
        have ne16_sA_s9 : sA s9 ≠ q16 := zg_fr n16 hSet8.1
        have k5 : G1 (sA s9) = some (.inr (5, [.int (sT s9), .int (sU s9), .ref (sL s9)])) := by rw [eG1, zg_up_ne (zg_fr n16 hSet8.1)]; exact hSet8.1
        have ne16_sL_s9 : sL s9 ≠ q16 := zg_fr n16 hql8
        have k6 : G1 (sL s9) = some (.inr (0, [.ref (sD s9), .int (nI ((sX s9).length)), .int kq8])) := by rw [eG1, zg_up_ne (zg_fr n16 hql8)]; exact hql8
        have k7 : G1 q16 = some (.inr (8, [.null, .int 0, .int 0, .null])) := by rw [eG1]; exact zg_up_self _ _ _
        refine lv_dup hx hb d_Se_addSet_19 rfl ?_
        refine lv_aload_n hx hb d_Se_addSet_20 rfl (lv_at hl 1 rfl) ?_
        refine lv_aload_n hx hb d_Se_addSet_21 rfl (lv_at hl 2 rfl) ?_
        refine zg_get (ci := 5) (C := "ZoneAnswers$Rrset") (T := T_Rr) (N := 3) hx hb hts zi_Rr hown hK hG k5 rfl 0 (by decide) (hts _ w_618) (fun _ h9 => h9) rfl d_Se_addSet_22 ?_
        refine lv_iload_n hx hb d_Se_addSet_25 rfl (lv_at hl 3 rfl) ?_
        refine lv_aload_n hx hb d_Se_addSet_26 rfl (lv_at hl 2 rfl) ?_
        refine zg_get (ci := 5) (C := "ZoneAnswers$Rrset") (T := T_Rr) (N := 3) hx hb hts zi_Rr hown hK hG k5 rfl 2 (by decide) (hts _ w_627) (fun _ h9 => h9) rfl d_Se_addSet_27 ?_
        refine lv_iload hx hb d_Se_addSet_30 (lv_at hl 4 rfl) ?_
        have hxN : zx z0 Gv G1 := by rw [eG1]; exact zx.nw n16
        have hEN : G1 (E.2.2.2 0) = none := hQ.out hG
        have hSetN : zSR E G1 ro8 o9 s9 := hSet8.fr (zfr.z hxN zro.rf) hEN (K := fun _ => False) id (fun _ _ z => z)
        have hGo32 := hG
        refine zk_q (va_runV (As := [.int (nI i)]) (rest := [.int ti, .int (sT s9), .ref a1, .ref q16, .ref q16, .ref la]) ⟨hx, hb, hml, hown, hts⟩ (t_AL_get_u l hSetN.2.2.1.1 i (by rw [List.length_map]; exact hin)) (zcV 1 hts w_1040 w_164 w_165 w_6 w_166 (by decide +kernel) ⟨Nat.le_of_ble_eq_true rfl, Nat.le_of_ble_eq_true rfl⟩) (zc_preV hbase hK hN hQ hG hS k6 rfl) rfl rfl hl.1 rfl (lv_room (Nat.le_of_ble_eq_true rfl)) d_Se_addSet_32 ⟨(by dsimp only; omega), (by dsimp only; omega)⟩) hS (fun r32 G32 H locs hp32 hG hS => ?_)
        have hG : zP E G1 H := hp32.2 ▸ hG
        refine zr_some (a := (sE s9 i).1) (hp32.1.trans (sE_at hin)) ?_
        obtain ⟨bd9, td9, hdc9, -⟩ := id (hSetN.2.2.2 _ (sE_mem hin))
        refine zg_castY hx hb hown (hts _ w_1041) hK hG hdc9 rfl (zN.at hN (w := .castable "ZoneAnswers$Datum" "ZoneAnswers$Datum") (by decide +kernel)) d_Se_addSet_35 ?_
        have hGo38 := hG
        refine zk_v (va_runI (As := [.ref a1, .int (sT s9), .int ti, .ref ((sE s9 i).1)]) (rest := [.ref q16, .ref la]) ⟨hx, hb, hml, hown, hts⟩ (t_To_init l E G1 q16 a1 (sE s9 i).1 (sT s9) ti k7) (zcI 4 hts w_1042 w_1043 w_36 w_1044 rfl (by decide +kernel) ⟨Nat.le_of_ble_eq_true rfl, Nat.le_of_ble_eq_true rfl⟩) (zc_pre hbase hK hN hQ hG hS) rfl rfl hl.1 rfl (lv_room (Nat.le_of_ble_eq_true rfl)) d_Se_addSet_38 ⟨(by dsimp only; omega), (by dsimp only; omega)⟩) hS (fun G38 H locs hp38 hG hS => ?_)
        have k8 : G38 sa = some (.inr (6, [.ref la])) := by rw [hp38, zg_up_ne (ne16_sa)]; exact k2
        have k9 : G38 la = some (.inr (0, [.ref dd8, .int (nI ((ts ++ ts8).length)), .int kr8])) := by rw [hp38, zg_up_ne (ne16_la)]; exact k3
        have k10 : G38 a1 = some (.inr (3, [.ref bn8, .int (nI ls1.length)])) := by rw [hp38, zg_up_ne (ne16_a1)]; exact k4
        have k11 : G38 (sA s9) = some (.inr (5, [.int (sT s9), .int (sU s9), .ref (sL s9)])) := by rw [hp38, zg_up_ne (ne16_sA_s9)]; exact k5
        have k12 : G38 (sL s9) = some (.inr (0, [.ref (sD s9), .int (nI ((sX s9).length)), .int kq8])) := by rw [hp38, zg_up_ne (ne16_sL_s9)]; exact k6
        have k13 : G38 q16 = some (.inr (8, [.ref a1, .int (sT s9), .int ti, .ref ((sE s9 i).1)])) := by rw [hp38]; exact zg_up_self _ _ _
        have k14 : G38 ((sE s9 i).1) = some (.inr (2, [.ref bd9, va_rf td9])) := by rw [hp38, zg_up_ne (zg_ne hdc9 k7 (by intro h; simp at h))]; exact hdc9
        have hE3 : G38 (E.2.2.2 0) = none := hQ.out hG
        have hx3 : zx z0 Gv G38 := by rw [hp38, eG1]; exact zx.upn (zx.nw n16) n16
        have hES3 := hES8.fr (zfr.z (K := fun _ => False) hx3 zro.rf) hE8 hE3 id id id
        have hGo41 := hG
        refine zk_i (va_runV (As := [.ref q16]) (rest := []) ⟨hx, hb, hml, hown, hts⟩ (t_AL_add_2_x l E G38 la dd8 ((ts ++ ts8).map tA) hES3.1.2.1.1 q16 ⟨8, _, k13, by simp⟩ (by rw [List.length_map]; omega) 1 (zce c0 (ts.length + i)) (fun q => ⟨Nat.le_refl _, by rw [hES3.2.2, hLL8] at q ⊢; rw [List.length_map, hLL8] at q; unfold zce; rw [if_neg (by omega)]; exact Nat.le_refl _⟩) hES3.1.els) (zcV 1 hts w_1067 w_638 w_639 w_6 w_640 (by decide +kernel) ⟨Nat.le_of_ble_eq_true rfl, Nat.le_of_ble_eq_true rfl⟩) (zc_preV hbase hK hN hQ hG hS k9 rfl) rfl rfl hl.1 rfl (lv_room (Nat.le_of_ble_eq_true rfl)) d_Se_addSet_41 ⟨(by dsimp only; omega), (by dsimp only; omega)⟩) hS (fun r41 G41 H locs hp41 hG hS => ?_)
        have hE4 : G41 (E.2.2.2 0) = none := hQ.out hG
        obtain ⟨dd9, hL9, hd9, hx9, hc9⟩ := hp41.2
        obtain ⟨ro9, hES9, hfr9⟩ := hES8.add hx3 n16 k13 hE8 hE3 hE4 hNm8 (hSet8.2.2.2 _ (sE_mem hin)) hd9 hx9 hL9 hc9
        have hts9 : (ts8 ++ [(q16, a1, ls1, sT s9, ti, sE s9 i)]).map tR = ((sX s9).take (i + 1)).map (fun d => (ls1, sT s9, ti, d.2)) := by
          rw [List.map_append, hts8, List.take_add_one, List.map_append, sE_q hin]; rfl
        rw [List.append_assoc] at hES9
        refine lv_pop hx hb d_Se_addSet_44 rfl ?_
        refine lv_iinc (v := nI (i + 1)) (lv' := [(4, .int (nI (i + 1))), (0, .ref sa), (1, .ref a1), (2, .ref (sA s9)), (3, .int ti)]) hx hb d_Se_addSet_45 hl (k := 4) rfl (nI_add i 1) (by decide) rfl (fun ls hl => ?_)
        refine lv_goto (tgt := 3) hx hb d_Se_addSet_48 (by decide) ?_
        have hce8 := zce_le c0 (ts.length + i)
        have hsz8 : zcp c0 (ts.length + (i + 1)) = zcp c0 (ts.length + i + 1) := rfl
        refine zW_more (cells2 := 2 * (i + 1)) (slots2 := 4 * (i + 1) + 4 * (zcp c0 (ts.length + (i + 1)) - zcp c0 ts.length)) (by dsimp only; omega) (by dsimp only; omega) ?_
        exact ih G41 (i + 1) ro9 dd9 (ts8 ++ [(q16, a1, ls1, sT s9, ti, sE s9 i)]) _ _ (by omega) (by omega) (hES9) (hts9) (hfr8.tr hfr9) hG hS ls (lv_sub hl [1, 2, 3, 4, 0] rfl)
  refine zW_more (cells2 := 2 * 0) (slots2 := 4 * 0 + 4 * (zcp c0 (ts.length + 0) - zcp c0 ts.length)) (by omega) (by omega) ?_
  exact loop3 _ G 0 ro dd ([]) _ _ (Nat.lt_succ_self _) (Nat.zero_le _) (by rw [List.append_nil]; exact hES) (rfl) (zfr.rf) hG hS ls (lv_sub hl [1, 2, 3, 4, 0] rfl)
