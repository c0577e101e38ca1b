/-- one more told record, that is there already -/
theorem zES.add2 {E : zc_E} {G G4 : zg_G} {ro : zRo} {sa la dd dd2 ix c0 q a1 : Nat} {ts : List zTt} {ls1 : np_N} {T U : Int32} {d9 : zDt} (h : zES E G ro sa la dd ts ix c0) (hq : G q = some (.inr (8, [.ref a1, .int T, .int U, .ref d9.1]))) (hrq : ro q = (0, 0)) (hE : G (E.2.2.2 0) = none) (hN : zNR E G ro a1 ls1) (hD : zDR E G ro d9) (hd : dd2 = dd ∨ G dd2 = none) (hx4 : zx (fun z => z = la ∨ z = dd) G G4) (hL : zL E G4 la dd2 (ts.map tA ++ [q])) (hc : zcG G4 dd2 = if (ts.map tA).length < zcG G dd then zcG G dd else zgr (zcG G dd)) : ∃ ro2, zES E G4 ro2 sa la dd2 (ts ++ [(q, a1, ls1, T, U, d9)]) ix c0 ∧ zfr ro (zKs ix) G ro2 G4 := by
  have r2 := h.1.2.1.ro hd
  have k2 := h.1.2.1.zk hx4
  have f2 : zfr ro (zKs ix) G (zrn ro dd2 (9, ix)) G4 := zfr.of k2 r2 (fun k z => z)
  have hsa := f2 _ _ h.1.1 (by rw [h.2.1]; exact zKs_0)
  have hq4 := f2 _ _ hq (by rw [hrq]; exact zKs_0)
  refine ⟨_, ⟨⟨hsa.1, ?_, fun t ht => ?_⟩, hsa.2.trans h.2.1, ?_⟩, f2⟩
  · rw [List.map_append]
    exact h.1.2.1.mk hE hL
  · rcases List.mem_append.mp ht with z | z
    · exact (h.1.2.2 t z).fr f2 zKs_0
    · rw [List.mem_singleton.mp z]
      exact ⟨hq4.1, hN.fr f2 zKs_0, hD.fr f2 zKs_0, hq4.2.trans hrq⟩
  · rw [hc, h.2.2, List.length_map, List.length_append]
    exact (zcp_s c0 ts.length).symm
theorem vpr_n {V : zVt} {top x : np_N} {sec : Bool} {W : zW} (h : ¬ sec = true ∨ aHas W.2.1 x 47) : vpr V top sec W x = W := zif_n (fun z => h.elim (fun w => w z.1) z.2)
theorem vpr_y {V : zVt} {top x : np_N} {sec : Bool} {W : zW} (h : sec = true) (h2 : ¬ aHas W.2.1 x 47) : vpr V top sec W x = w2 W [(x, 47, vlt V top, vlk V top x)] := zif_y ⟨h, h2⟩
theorem w_689 : (.fieldLink "ZoneAnswers$Answer" 35 "ZoneAnswers$Answer" "secure" "Z" : Cond) ∈ zw := zw_at 689 (by decide +kernel) (by decide +kernel)
theorem w_1081 : (.methodLink "ZoneAnswers$Answer" 153 ⟨"ZoneAnswers$Zone", "ownerName", "(I)LZoneAnswers$Name;"⟩ : Cond) ∈ zw := zw_at 1081 (by decide +kernel) (by decide +kernel)
theorem w_1082 : (.instanceMethod ⟨"ZoneAnswers$Zone", "ownerName", "(I)LZoneAnswers$Name;"⟩ : Cond) ∈ zw := zw_at 1082 (by decide +kernel) (by decide +kernel)
theorem w_1083 : (.selects "ZoneAnswers$Zone" ⟨"ZoneAnswers$Zone", "ownerName", "(I)LZoneAnswers$Name;"⟩ ⟨"ZoneAnswers$Zone", "ownerName", "(I)LZoneAnswers$Name;"⟩ : Cond) ∈ zw := zw_at 1083 (by decide +kernel) (by decide +kernel)
theorem w_1084 : (.code ⟨"ZoneAnswers$Zone", "ownerName", "(I)LZoneAnswers$Name;"⟩ prog_10_method_21_code 2 (some (.object "ZoneAnswers$Name")) : Cond) ∈ zw := zw_at 1084 (by decide +kernel) (by decide +kernel)
theorem w_1085 : (.methodLink "ZoneAnswers$Answer" 156 ⟨"ZoneAnswers$Section", "has", "(LZoneAnswers$Name;I)Z"⟩ : Cond) ∈ zw := zw_at 1085 (by decide +kernel) (by decide +kernel)
theorem w_1086 : (.instanceMethod ⟨"ZoneAnswers$Section", "has", "(LZoneAnswers$Name;I)Z"⟩ : Cond) ∈ zw := zw_at 1086 (by decide +kernel) (by decide +kernel)
theorem w_1087 : (.selects "ZoneAnswers$Section" ⟨"ZoneAnswers$Section", "has", "(LZoneAnswers$Name;I)Z"⟩ ⟨"ZoneAnswers$Section", "has", "(LZoneAnswers$Name;I)Z"⟩ : Cond) ∈ zw := zw_at 1087 (by decide +kernel) (by decide +kernel)
theorem w_1088 : (.code ⟨"ZoneAnswers$Section", "has", "(LZoneAnswers$Name;I)Z"⟩ prog_7_method_7_code 5 (some .boolean) : Cond) ∈ zw := zw_at 1088 (by decide +kernel) (by decide +kernel)
theorem w_1091 : (.classLink "ZoneAnswers$Answer" 160 "ZoneAnswers$Told" : Cond) ∈ zw := zw_at 1091 (by decide +kernel) (by decide +kernel)
theorem w_1097 : (.methodLink "ZoneAnswers$Answer" 162 ⟨"ZoneAnswers$Zone", "link", "(I)LZoneAnswers$Datum;"⟩ : Cond) ∈ zw := zw_at 1097 (by decide +kernel) (by decide +kernel)
theorem w_1098 : (.instanceMethod ⟨"ZoneAnswers$Zone", "link", "(I)LZoneAnswers$Datum;"⟩ : Cond) ∈ zw := zw_at 1098 (by decide +kernel) (by decide +kernel)
theorem w_1099 : (.selects "ZoneAnswers$Zone" ⟨"ZoneAnswers$Zone", "link", "(I)LZoneAnswers$Datum;"⟩ ⟨"ZoneAnswers$Zone", "link", "(I)LZoneAnswers$Datum;"⟩ : Cond) ∈ zw := zw_at 1099 (by decide +kernel) (by decide +kernel)
theorem w_1100 : (.code ⟨"ZoneAnswers$Zone", "link", "(I)LZoneAnswers$Datum;"⟩ prog_10_method_23_code 6 (some (.object "ZoneAnswers$Datum")) : Cond) ∈ zw := zw_at 1100 (by decide +kernel) (by decide +kernel)
theorem w_1129 : (.methodLink "ZoneAnswers$Answer" 166 ⟨"ZoneAnswers$Told", "<init>", "(LZoneAnswers$Name;IILZoneAnswers$Datum;)V"⟩ : Cond) ∈ zw := zw_at 1129 (by decide +kernel) (by decide +kernel)
theorem w_1130 : (.methodLink "ZoneAnswers$Answer" 169 ⟨"ZoneAnswers$Section", "add", "(LZoneAnswers$Told;)V"⟩ : Cond) ∈ zw := zw_at 1130 (by decide +kernel) (by decide +kernel)
theorem w_1131 : (.instanceMethod ⟨"ZoneAnswers$Section", "add", "(LZoneAnswers$Told;)V"⟩ : Cond) ∈ zw := zw_at 1131 (by decide +kernel) (by decide +kernel)
theorem w_1132 : (.selects "ZoneAnswers$Section" ⟨"ZoneAnswers$Section", "add", "(LZoneAnswers$Told;)V"⟩ ⟨"ZoneAnswers$Section", "add", "(LZoneAnswers$Told;)V"⟩ : Cond) ∈ zw := zw_at 1132 (by decide +kernel) (by decide +kernel)
theorem w_1133 : (.code ⟨"ZoneAnswers$Section", "add", "(LZoneAnswers$Told;)V"⟩ prog_7_method_5_code 2 none : Cond) ∈ zw := zw_at 1133 (by decide +kernel) (by decide +kernel)
abbrev c_An_prove : ByteArray := prog_2_method_9_code
abbrev y_An_prove : MethodName := ⟨"ZoneAnswers$Answer", "prove", "(I)V"⟩
theorem d_An_prove_0 : decode c_An_prove 0 = .ok (.aload_n 0, 1) := by decide +kernel
theorem d_An_prove_1 : decode c_An_prove 1 = .ok (.getfield 9, 3) := by decide +kernel
theorem d_An_prove_4 : decode c_An_prove 4 = .ok (.iload_n 1, 1) := by decide +kernel
theorem d_An_prove_5 : decode c_An_prove 5 = .ok (.invokevirtual 153, 3) := by decide +kernel
theorem d_An_prove_8 : decode c_An_prove 8 = .ok (.astore_n 2, 1) := by decide +kernel
theorem d_An_prove_9 : decode c_An_prove 9 = .ok (.aload_n 0, 1) := by decide +kernel
theorem d_An_prove_10 : decode c_An_prove 10 = .ok (.getfield 35, 3) := by decide +kernel
theorem d_An_prove_13 : decode c_An_prove 13 = .ok (.ifCond .eq 48, 3) := by decide +kernel
theorem d_An_prove_16 : decode c_An_prove 16 = .ok (.aload_n 0, 1) := by decide +kernel
theorem d_An_prove_17 : decode c_An_prove 17 = .ok (.getfield 22, 3) := by decide +kernel
theorem d_An_prove_20 : decode c_An_prove 20 = .ok (.aload_n 2, 1) := by decide +kernel
theorem d_An_prove_21 : decode c_An_prove 21 = .ok (.bipush 47, 2) := by decide +kernel
theorem d_An_prove_23 : decode c_An_prove 23 = .ok (.invokevirtual 156, 3) := by decide +kernel
theorem d_An_prove_26 : decode c_An_prove 26 = .ok (.ifCond .ne 35, 3) := by decide +kernel
theorem d_An_prove_29 : decode c_An_prove 29 = .ok (.aload_n 0, 1) := by decide +kernel
theorem d_An_prove_30 : decode c_An_prove 30 = .ok (.getfield 22, 3) := by decide +kernel
theorem d_An_prove_33 : decode c_An_prove 33 = .ok (.new 160, 3) := by decide +kernel
theorem d_An_prove_36 : decode c_An_prove 36 = .ok (.dup, 1) := by decide +kernel
theorem d_An_prove_37 : decode c_An_prove 37 = .ok (.aload_n 2, 1) := by decide +kernel
theorem d_An_prove_38 : decode c_An_prove 38 = .ok (.bipush 47, 2) := by decide +kernel
theorem d_An_prove_40 : decode c_An_prove 40 = .ok (.aload_n 0, 1) := by decide +kernel
theorem d_An_prove_41 : decode c_An_prove 41 = .ok (.getfield 9, 3) := by decide +kernel
theorem d_An_prove_44 : decode c_An_prove 44 = .ok (.invokevirtual 150, 3) := by decide +kernel
theorem d_An_prove_47 : decode c_An_prove 47 = .ok (.aload_n 0, 1) := by decide +kernel
theorem d_An_prove_48 : decode c_An_prove 48 = .ok (.getfield 9, 3) := by decide +kernel
theorem d_An_prove_51 : decode c_An_prove 51 = .ok (.iload_n 1, 1) := by decide +kernel
theorem d_An_prove_52 : decode c_An_prove 52 = .ok (.invokevirtual 162, 3) := by decide +kernel
theorem d_An_prove_55 : decode c_An_prove 55 = .ok (.invokespecial 166, 3) := by decide +kernel
theorem d_An_prove_58 : decode c_An_prove 58 = .ok (.invokevirtual 169, 3) := by decide +kernel
theorem d_An_prove_61 : decode c_An_prove 61 = .ok (.return_, 1) := by decide +kernel
abbrev rm_An_prove (c9 s9 : Nat) : Room := { frames := 10, cells := c9, slots := s9, locals := 330 }
set_option maxHeartbeats 4000000 in
set_option maxRecDepth 100000 in
/-- Answer.prove(place) -/
theorem t_An_prove (l : Launch) (E : zc_E) (G : zg_G) (k : Nat → Nat) (ro : zRo) (rc ty se : Int32) (os : List zOt) (top : np_N) (d1 d2 d3 : Nat) (t1 t2 t3 : List zTt) (hCx : zCx E G ro k rc ty se os top d1 d2 d3 t1 t2 t3) (hGZ : zGZ os top) (hdw : zdw os) (hzn : znr os < 2000) (pl : Nat) (hpl : pl < os.length) (hB9 : zB9 (vpr (zV os) top (zscu se) (zWt t1 t2 t3) (oM (oe os pl)))) : zMv l E y_An_prove c_An_prove 3 (rm_An_prove (zPc (vpr (zV os) top (zscu se) (zWt t1 t2 t3) (oM (oe os pl))) - zPc (zWt t1 t2 t3)) (zPh os k (vpr (zV os) top (zscu se) (zWt t1 t2 t3) (oM (oe os pl))) - zPh os k (zWt t1 t2 t3))) [.ref (k 0), .int (nI pl)] G (fun (G2 : zg_G) => ∃ ro2 e1 e2 e3 u1 u2 u3, zCx E G2 ro2 k rc ty se os top e1 e2 e3 u1 u2 u3 ∧ zfr ro zKa G ro2 G2 ∧ zWt u1 u2 u3 = vpr (zV os) top (zscu se) (zWt t1 t2 t3) (oM (oe os pl))) := by
  refine zMv.of (by decide) (Nat.le_of_ble_eq_true rfl) ?_
  intro p e s m args below meth c Q hZ hG hret ls hl
  obtain ⟨hx, hb, hr, hts, hown, hlocks, hml, hnm, hbase, hK, hN, hQ⟩ := hZ
  have hl : lv_has ls 3 [(0, .ref (k 0)), (1, .int (nI pl))] := hl
  have hS : zg_S (zc_b E) s.heap s.heap [] := va_S.rf
  obtain ⟨⟨hz1, hz2, hz3, hz4, hz5, soa, u9, hz6, hz7, hz8, hz9, hzA⟩, ⟨ha1, ha2, hs1, hs2, hs3⟩, hT1⟩ := id hCx
  obtain ⟨bo, fo, hno1, hno2, hno3, hno4, hno5, -⟩ := id hz4
  have hne : 0 < os.length := hGZ.2.2.1
  have hsz := hGZ.1.sz
  have hol : os.length ≤ 2000 := by have := hsz.1; omega
  have hso := hGZ.1.1
  have hE00 : G (E.2.2.2 0) = none := hQ.out hG
  have hl0 := zWt_l t1 t2 t3
  obtain ⟨k9, cap9, f9, hla, hd9, h09, hc9, hzz9, hf9⟩ := hz3.1.1.un2 (by rw [List.length_map]; exact hne)
  rw [List.length_map] at hla hc9
  have how := hz3.2 _ (oe_mem hpl)
  obtain ⟨bp, fp, hp1, hp2, hp3, hp4, hp5, -⟩ := id how.2.2.1
  have hszp := (hsz.2 pl hpl).1
  have hb2 : t2.length < 2000 := by have q := (hB9.le (vpr_le (zV os) top (zscu se) (zWt t1 t2 t3) (oM (oe os pl)))).2.1; rw [hl0.2.1] at q; exact q
  refine lv_aload_n hx hb d_An_prove_0 rfl (lv_at hl 0 rfl) ?_
  refine zg_get (ci := 1) (C := "ZoneAnswers$Answer") (T := T_An) (N := 6) hx hb hts zi_An hown hK hG ha1 rfl 0 (by decide) (hts _ w_684) (fun _ h9 => h9) rfl d_An_prove_1 ?_
  refine lv_iload_n hx hb d_An_prove_4 rfl (lv_at hl 1 rfl) ?_
  refine zk_q (va_runV (As := [.int (nI pl)]) (rest := []) ⟨hx, hb, hml, hown, hts⟩ (t_Zo_ownerName l E G (k 1) (k 11) (k 12) (k 13) (k 14) rc hz1 (k 15) os.length cap9 k9 f9 hla hd9 hc9 (by omega) pl (oA (oe os pl)) (oN (oe os pl)) (oL (oe os pl)) (oC (oe os pl)) hpl ((hf9 pl).trans (oe_m hpl)) how.1) (zcV 1 hts w_1081 w_1082 w_1083 w_3 w_1084 (by decide +kernel) ⟨Nat.le_of_ble_eq_true rfl, Nat.le_of_ble_eq_true rfl⟩) (zc_preV hbase hK hN hQ hG hS hz1 rfl) rfl rfl hl.1 rfl (lv_room (Nat.le_of_ble_eq_true rfl)) d_An_prove_5 ⟨(by dsimp only; omega), (by dsimp only; omega)⟩) hS (fun r5 G5 H locs hp5 hG hS => ?_)
  have hG : zP E G H := hp5.2 ▸ hG
  refine zr_some (a := oN (oe os pl)) hp5.1 ?_
  refine lv_astore_n (lv' := [(2, .ref (oN (oe os pl))), (0, .ref (k 0)), (1, .int (nI pl))]) hx hb d_An_prove_8 rfl hl (by decide) rfl (fun ls hl => ?_)
  refine lv_aload_n hx hb d_An_prove_9 rfl (lv_at hl 1 rfl) ?_
  refine zg_get (ci := 1) (C := "ZoneAnswers$Answer") (T := T_An) (N := 6) hx hb hts zi_An hown hK hG ha1 rfl 5 (by decide) (hts _ w_689) (fun _ h9 => h9) rfl d_An_prove_10 ?_
  refine lv_if_eq (tgt := 61) hx hb d_An_prove_13 (by decide) (fun c13 => ?_) (fun c13 => ?_)
  · exact hret _ _ _ _ _ _ _ (⟨ro, d1, d2, d3, t1, t2, t3, hCx, zfr.rf, (vpr_n (Or.inl (zscu_n c13))).symm⟩) hG hS (by dsimp only; omega) (by dsimp only; omega) d_An_prove_61
  · refine lv_aload_n hx hb d_An_prove_16 rfl (lv_at hl 1 rfl) ?_
    refine zg_get (ci := 1) (C := "ZoneAnswers$Answer") (T := T_An) (N := 6) hx hb hts zi_An hown hK hG ha1 rfl 2 (by decide) (hts _ w_686) (fun _ h9 => h9) rfl d_An_prove_17 ?_
    refine lv_aload_n hx hb d_An_prove_20 rfl (lv_at hl 0 rfl) ?_
    refine lv_bipush (v := 47) hx hb d_An_prove_21 (by decide) ?_
    refine zk_i (va_runV (As := [.ref (oN (oe os pl)), .int 47]) (rest := []) ⟨hx, hb, hml, hown, hts⟩ (t_Se_has l E G (k 3) (k 6) d2 2 ro t2 hs2.1 (by omega) (oN (oe os pl)) bp (oM (oe os pl)) fp hp1 hp2 hp3 hp4 47) (zcV 2 hts w_1085 w_1086 w_1087 w_29 w_1088 (by decide +kernel) ⟨Nat.le_of_ble_eq_true rfl, Nat.le_of_ble_eq_true rfl⟩) (zc_preV hbase hK hN hQ hG hS hs2.1.1 rfl) rfl rfl hl.1 rfl (lv_room (Nat.le_of_ble_eq_true rfl)) d_An_prove_23 ⟨(by dsimp only; omega), (by dsimp only; omega)⟩) hS (fun r23 G23 H locs hp23 hG hS => ?_)
    have hG : zP E G H := hp23.2 ▸ hG
    refine lv_if_ne (tgt := 61) hx hb d_An_prove_26 (by decide) (fun c26 => ?_) (fun c26 => ?_)
    · exact hret _ _ _ _ _ _ _ (⟨ro, d1, d2, d3, t1, t2, t3, hCx, zfr.rf, (vpr_n (Or.inr (aHas_t.mp (hp23.1.nz c26)))).symm⟩) hG hS (by dsimp only; omega) (by dsimp only; omega) d_An_prove_61
    · have hnh : ¬ aHas (zWt t1 t2 t3).2.1 (oM (oe os pl)) 47 := fun z => hp23.1.z c26 (aHas_t.mpr z)
      have hph := zPh_k (os := os) (k := k) (W := zWt t1 t2 t3) (e := (oM (oe os pl), 47, vlt (zV os) top, vlk (zV os) top (oM (oe os pl)))) rfl
      have hpc := zPc_k (W := zWt t1 t2 t3) (e := (oM (oe os pl), 47, vlt (zV os) top, vlk (zV os) top (oM (oe os pl)))) rfl
      rw [← vpr_y (zscu_y c13) hnh] at hph hpc
      rw [hl0.2.1] at hph
      have hlc := zlc_ge hpl
      dsimp only at hph
      have hB99 := hB9
      rw [vpr_y (zscu_y c13) hnh] at hB99
      have hlB : t2.length + 1 < 2000 := by have q := hB99.2.1; unfold w2 at q; dsimp only at q; rw [List.length_append, hl0.2.1] at q; exact q
      refine lv_aload_n hx hb d_An_prove_29 rfl (lv_at hl 1 rfl) ?_
      refine zg_get (ci := 1) (C := "ZoneAnswers$Answer") (T := T_An) (N := 6) hx hb hts zi_An hown hK hG ha1 rfl 2 (by decide) (hts _ w_686) (fun _ h9 => h9) rfl d_An_prove_30 ?_
      refine zg_new (ci := 8) (fs := [.null, .int 0, .int 0, .null]) (C := "ZoneAnswers$Told") (T := T_To) (N := 4) hx hb hts zi_To t_To t_To_ok hown (hts _ w_1091) (hts _ w_1039) (hts _ w_36) hK hG hS hbase rfl (fun j hj => by rcases (show j = 0 ∨ j = 1 ∨ j = 2 ∨ j = 3 by omega) with rfl | rfl | rfl | rfl <;> rfl) (by dsimp only; omega) (by dsimp only; omega) d_An_prove_33 (fun q33 H n33 hG hS => ?_)
      obtain ⟨G1, eG1⟩ : ∃ z : zg_G, z = zg_up G q33 (.inr (8, [.null, .int 0, .int 0, .null])) := ⟨_, rfl⟩
      have hG : zP E G1 H := by rw [eG1]; exact hG
      have ne33_k_0 : k 0 ≠ q33 := zg_fr n33 ha1
      have k2 : G1 (k 0) = some (.inr (1, [.ref (k 1), .ref (k 2), .ref (k 3), .ref (k 4), .int ty, .int se])) := by rw [eG1, zg_up_ne (zg_fr n33 ha1)]; exact ha1
      have ne33_k_1 : k 1 ≠ q33 := zg_fr n33 hz1
      have k3 : G1 (k 1) = some (.inr (9, [.ref (k 11), .ref (k 12), .ref (k 13), .ref (k 14), .int rc])) := by rw [eG1, zg_up_ne (zg_fr n33 hz1)]; exact hz1
      have ne33_k_2 : k 2 ≠ q33 := zg_fr n33 hs1.1.1
      have k4 : G1 (k 2) = some (.inr (6, [.ref (k 5)])) := by rw [eG1, zg_up_ne (zg_fr n33 hs1.1.1)]; exact hs1.1.1
      have ne33_k_3 : k 3 ≠ q33 := zg_fr n33 hs2.1.1
      have k5 : G1 (k 3) = some (.inr (6, [.ref (k 6)])) := by rw [eG1, zg_up_ne (zg_fr n33 hs2.1.1)]; exact hs2.1.1
      have ne33_k_4 : k 4 ≠ q33 := zg_fr n33 hs3.1.1
      have k6 : G1 (k 4) = some (.inr (6, [.ref (k 7)])) := by rw [eG1, zg_up_ne (zg_fr n33 hs3.1.1)]; exact hs3.1.1
      have ne33_k_12 : k 12 ≠ q33 := zg_fr n33 hno1
      have k7 : G1 (k 12) = some (.inr (3, [.ref bo, .int (nI top.length)])) := by rw [eG1, zg_up_ne (zg_fr n33 hno1)]; exact hno1
      have ne33_oN__oe_os_pl_ : oN (oe os pl) ≠ q33 := zg_fr n33 hp1
      have k8 : G1 (oN (oe os pl)) = some (.inr (3, [.ref bp, .int (nI (oM (oe os pl)).length)])) := by rw [eG1, zg_up_ne (zg_fr n33 hp1)]; exact hp1
      have k9 : G1 q33 = some (.inr (8, [.null, .int 0, .int 0, .null])) := by rw [eG1]; exact zg_up_self _ _ _
      have hE1 : G1 (E.2.2.2 0) = none := hQ.out hG
      have hx1 : zx z0 G G1 := by rw [eG1]; exact zx.nw n33
      have hC1 := hCx.z (zfr.z (K := fun _ => False) hx1 zro.rf) hE00 hE1
      obtain ⟨⟨hz1A, hz2A, hz3A, hz4A, hz5A, soaA, u9A, hz6A, hz7A, hz8A, hz9A, hzAA⟩, ⟨ha1A, ha2A, hs1A, hs2A, hs3A⟩, hT1A⟩ := id hC1
      obtain ⟨boA, foA, hno1A, hno2A, hno3A, hno4A, hno5A, -⟩ := id hz4A
      refine lv_dup hx hb d_An_prove_36 rfl ?_
      refine lv_aload_n hx hb d_An_prove_37 rfl (lv_at hl 0 rfl) ?_
      refine lv_bipush (v := 47) hx hb d_An_prove_38 (by decide) ?_
      refine lv_aload_n hx hb d_An_prove_40 rfl (lv_at hl 1 rfl) ?_
      refine zg_get (ci := 1) (C := "ZoneAnswers$Answer") (T := T_An) (N := 6) hx hb hts zi_An hown hK hG ha1A rfl 0 (by decide) (hts _ w_684) (fun _ h9 => h9) rfl d_An_prove_41 ?_
      obtain ⟨i9, si9, hi9, hM9, hs9, hT9, hA9, hU9, hX9⟩ := zZn.start (E := E) (G := G) (ro := ro) (rc := rc) hGZ.1 hz5A hz8A
      have hstA := ((hz3A.2 _ (oe_mem hi9)).2.2.2.2 _ (oS_mem hs9)).1
      rw [hA9, hT9] at hstA
      obtain ⟨fsA, hfs1A, hfs2A, hfs3A⟩ := id hz6A
      have hltA : (if zr4 fsA (soaA.length - 4) < 0 then sU (oS (oe os i9) si9) else if zr4 fsA (soaA.length - 4) < sU (oS (oe os i9) si9) then zr4 fsA (soaA.length - 4) else sU (oS (oe os i9) si9)) = vlt (zV os) top := by
        rw [zr4_cg (g := fun j => soaA.getD j 0) (fun j h1 h2 => hfs2A j (by omega)), hU9]
        unfold vlt; rw [hz8A]; rfl
      have hGo44 := hG
      refine zk_i (va_runV (As := []) (rest := [.int 47, .ref (oN (oe os pl)), .ref q33, .ref q33, .ref (k 3)]) ⟨hx, hb, hml, hown, hts⟩ (t_Zo_linkTime l E G1 (k 1) (k 11) (k 13) (.ref (k 12)) rc 6 (sU (oS (oe os i9) si9)) (.ref (sL (oS (oe os i9) si9))) (k 14) soaA.length fsA hfs1A hfs3A (by omega) hz1A hstA hz9A) (zcV 0 hts w_1092 w_1093 w_1094 w_3 w_1095 (by decide +kernel) ⟨Nat.le_of_ble_eq_true rfl, Nat.le_of_ble_eq_true rfl⟩) (zc_preV hbase hK hN hQ hG hS hz1A rfl) rfl rfl hl.1 rfl (lv_room (Nat.le_of_ble_eq_true rfl)) d_An_prove_44 ⟨(by dsimp only; omega), (by dsimp only; omega)⟩) hS (fun r44 G44 H locs hp44 hG hS => ?_)
      have hG : zP E G1 H := hp44.2 ▸ hG
      refine zi_as (y := vlt (zV os) top) (hp44.1.trans hltA) ?_
      refine lv_aload_n hx hb d_An_prove_47 rfl (lv_at hl 1 rfl) ?_
      refine zg_get (ci := 1) (C := "ZoneAnswers$Answer") (T := T_An) (N := 6) hx hb hts zi_An hown hK hG ha1A rfl 0 (by decide) (hts _ w_684) (fun _ h9 => h9) rfl d_An_prove_48 ?_
      refine lv_iload_n hx hb d_An_prove_51 rfl (lv_at hl 2 rfl) ?_
      have hGo52 := hG
      refine zk_q (va_runV (As := [.int (nI pl)]) (rest := [.int (vlt (zV os) top), .int 47, .ref (oN (oe os pl)), .ref q33, .ref q33, .ref (k 3)]) ⟨hx, hb, hml, hown, hts⟩ (t_Zo_link l E G1 (k 1) (k 11) (k 12) (k 13) (k 14) rc hz1A ro (k 15) os hz3A hne hol pl hpl (hGZ.1.2 pl hpl).1 (by omega)) (zcV 1 hts w_1097 w_1098 w_1099 w_3 w_1100 (by decide +kernel) ⟨Nat.le_of_ble_eq_true rfl, Nat.le_of_ble_eq_true rfl⟩) (zc_preV hbase hK hN hQ hG hS hz1A rfl) rfl rfl hl.1 rfl (lv_room (Nat.le_of_ble_eq_true rfl)) d_An_prove_52 ⟨(by dsimp only; omega), (by dsimp only; omega)⟩) hS (fun r52 G52 H locs hp52 hG hS => ?_)
      obtain ⟨dq, bq, nx, er52, ndq, nbq, hx52, hdq, hbq, hnx⟩ := hp52
      refine zr_some (a := dq) er52 ?_
      have hk9q : G52 q33 = _ := hx52.o k9
      have hx2 : zx z0 G G52 := hx1.tr hx52
      have nd0 : G dq = none := zx.no hx1 ndq
      have nb0 : G bq = none := zx.no hx1 nbq
      have hndq : dq ≠ q33 := fun z => by rw [z, k9] at ndq; cases ndq
      have hnbq : bq ≠ q33 := fun z => by rw [z, k9] at nbq; cases nbq
      have hGo55 := hG
      refine zk_v (va_runI (As := [.ref (oN (oe os pl)), .int 47, .int (vlt (zV os) top), .ref dq]) (rest := [.ref q33, .ref (k 3)]) ⟨hx, hb, hml, hown, hts⟩ (t_To_init l E G52 q33 (oN (oe os pl)) dq 47 (vlt (zV os) top) hk9q) (zcI 4 hts w_1129 w_1043 w_36 w_1044 rfl (by decide +kernel) ⟨Nat.le_of_ble_eq_true rfl, Nat.le_of_ble_eq_true rfl⟩) (zc_pre hbase hK hN hQ hG hS) rfl rfl hl.1 rfl (lv_room (Nat.le_of_ble_eq_true rfl)) d_An_prove_55 ⟨(by dsimp only; omega), (by dsimp only; omega)⟩) hS (fun G55 H locs hp55 hG hS => ?_)
      have k10 : G55 q33 = some (.inr (8, [.ref (oN (oe os pl)), .int 47, .int (vlt (zV os) top), .ref dq])) := by rw [hp55]; exact zg_up_self _ _ _
      have k11 : G55 dq = some (.inr (2, [.ref bq, .null])) := by rw [hp55, zg_up_ne (hndq)]; exact hdq
      have hE3 : G55 (E.2.2.2 0) = none := hQ.out hG
      have hx3 : zx z0 G G55 := by rw [hp55]; exact zx.upn hx2 n33
      obtain ⟨ro3, er3⟩ : ∃ z : zRo, z = zrn (zrn (zrn ro q33 (0, 0)) dq (0, 0)) bq (0, 0) := ⟨_, rfl⟩
      have hr3 : zro G ro ro3 := by rw [er3]; exact ((zro.nw n33).tr2 (zro.nw nd0)).tr2 (zro.nw nb0)
      have hf3 : zfr ro (fun _ => False) G ro3 G55 := zfr.z hx3 hr3
      have hC3 := hCx.z hf3 hE00 hE3
      have hBq : zBy E G55 bq (vlk (zV os) top (oM (oe os pl))) := by
        obtain ⟨f8, h8, h8b⟩ := hbq
        have e8 : vlk (zV os) top (oM (oe os pl)) = np_enc (oM (oe os nx)) ++ (wws (zlT (oe os pl))).1 := by unfold vlk; rw [hGZ.nx hpl hnx, vty_y (hGZ.ty hpl)]
        rw [e8]; exact ⟨f8, by rw [hp55, zg_up_ne hnbq]; exact h8, h8b⟩
      have hbd : bq ≠ dq := by
        obtain ⟨f8, h8, -⟩ := id hBq
        exact fun z => by rw [z, k11] at h8; cases h8
      have hrb3 : ro3 bq = (0, 0) := by rw [er3]; exact zrn_self _ _ _
      have hrd3 : ro3 dq = (0, 0) := by rw [er3, zrn_ne (Ne.symm hbd)]; exact zrn_self _ _ _
      have hrq3 : ro3 q33 = (0, 0) := by rw [er3, zrn_ne (Ne.symm hnbq), zrn_ne (Ne.symm hndq)]; exact zrn_self _ _ _
      have hD3 : zDR E G55 ro3 (dq, vlk (zV os) top (oM (oe os pl)), none) := ⟨bq, none, k11, hBq, hrd3, hrb3, Or.inl ⟨rfl, rfl⟩⟩
      have hN3 : zNR E G55 ro3 (oN (oe os pl)) (oM (oe os pl)) := how.2.2.1.fr hf3 id
      obtain ⟨⟨hz1B, hz2B, hz3B, hz4B, hz5B, soaB, u9B, hz6B, hz7B, hz8B, hz9B, hzAB⟩, ⟨ha1B, ha2B, hs1B, hs2B, hs3B⟩, hT1B⟩ := id hC3
      obtain ⟨boB, foB, hno1B, hno2B, hno3B, hno4B, hno5B, -⟩ := id hz4B
      have hGo58 := hG
      refine zk_v (va_runV (As := [.ref q33]) (rest := []) ⟨hx, hb, hml, hown, hts⟩ (t_Se_add_x l E G55 (k 3) (k 6) d2 q33 (t2.map tA) hs2B.1.1 hs2B.1.2.1.1 ⟨8, _, k10, by simp⟩ (by rw [List.length_map]; omega) 1 (zce (k 9) t2.length) (fun z => ⟨Nat.le_refl _, by rw [hs2B.2.2] at z ⊢; rw [List.length_map] at z; unfold zce; rw [if_neg (by omega)]; exact Nat.le_refl _⟩) hs2B.1.els) (zcV 1 hts w_1130 w_1131 w_1132 w_29 w_1133 (by decide +kernel) ⟨Nat.le_of_ble_eq_true rfl, Nat.le_of_ble_eq_true rfl⟩) (zc_preV hbase hK hN hQ hG hS hs2B.1.1 rfl) rfl rfl hl.1 rfl (lv_room (Nat.le_of_ble_eq_true rfl)) d_An_prove_58 ⟨(by dsimp only; omega), (by dsimp only; omega)⟩) hS (fun G58 H locs hp58 hG hS => ?_)
      have hE4 : G58 (E.2.2.2 0) = none := hQ.out hG
      obtain ⟨dd4, hL4, hd4, hx4, hc4⟩ := hp58
      obtain ⟨ro4, hES4, hf4⟩ := hs2B.add2 (d9 := (dq, vlk (zV os) top (oM (oe os pl)), none)) k10 hrq3 hE3 hN3 hD3 hd4 hx4 hL4 hc4
      have hC4 := hC3.s2 hE3 hE4 hf4 hES4
      have hfr4 : zfr ro zKa G ro4 G58 := (hf3.w (fun _ z => z.elim)).tr (hf4.w zKs_a)
      have hW4 : zWt t1 (t2 ++ [(q33, oN (oe os pl), oM (oe os pl), 47, vlt (zV os) top, (dq, vlk (zV os) top (oM (oe os pl)), none))]) t3 = vpr (zV os) top (zscu se) (zWt t1 t2 t3) (oM (oe os pl)) := by rw [zWt_2, vpr_y (zscu_y c13) hnh]; rfl
      exact hret _ _ _ _ _ _ _ (⟨ro4, d1, dd4, d3, t1, (t2 ++ [(q33, oN (oe os pl), oM (oe os pl), 47, vlt (zV os) top, (dq, vlk (zV os) top (oM (oe os pl)), none))]), t3, hC4, hfr4, hW4⟩) hG hS (by dsimp only; omega) (by dsimp only; omega) d_An_prove_61
