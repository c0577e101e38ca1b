theorem zgw.go {os : List zOt} {k si : Nat} (h : zgw os k si) (h0 : 0 < (sX (oS (oe os k) si)).length) : zgo os := ⟨h.1, fun i hi => ⟨(h.2 i hi).1, (h.2 i hi).2.1, fun j hj => by
  by_cases z : i = k ∧ j = si
  · rw [z.1, z.2]; exact h0
  · exact (h.2 i hi).2.2 j hj z⟩⟩
theorem zany_set {xs : List zSt} {i : Nat} {s : zSt} {t : Int32} (hi : i < xs.length) (e : sT s = sT xs[i]) : (xs.set i s).any (fun s => decide (sT s = t)) = xs.any (fun s => decide (sT s = t)) := by
  have e1 : (xs.set i s).map sT = xs.map sT := by
    refine List.ext_getElem (by simp) (fun j h1 h2 => ?_)
    rw [List.getElem_map, List.getElem_map, List.getElem_set]
    by_cases z : i = j
    · subst z; rw [if_pos rfl, e]
    · rw [if_neg z]
  have e2 : ∀ ys : List zSt, ys.any (fun s => decide (sT s = t)) = (ys.map sT).any (fun x => decide (x = t)) := fun ys => by rw [List.any_map]; rfl
  rw [e2, e2, e1]
theorem zctd_D {os : List zOt} {i si d9 : Nat} {s : zSt} (h : zctd os) (hi : i < os.length) (hs : si < (oX (oe os i)).length) (e : sT s = sT (oS (oe os i) si)) : zctd (os.set i (oSetX (oe os i) d9 ((oX (oe os i)).set si s))) := by
  have h9 : ∀ j, oe (os.set i (oSetX (oe os i) d9 ((oX (oe os i)).set si s))) j = if j = i then oSetX (oe os i) d9 ((oX (oe os i)).set si s) else oe os j := fun j => oe_set hi
  refine zctd_cg h (List.length_set) (fun j hj => ?_) (fun j hj => ?_) (fun j hj => ?_) (fun j hj => ?_) <;> rw [h9] <;> by_cases z : j = i
  · rw [if_pos z, z]; rfl
  · rw [if_neg z]
  · rw [if_pos z, z]; rfl
  · rw [if_neg z]
  · rw [if_pos z, z]; rfl
  · rw [if_neg z]
  · rw [if_pos z, z]; exact zany_set hs (by rw [e, oS_at hs])
  · rw [if_neg z]
theorem zctd_0 {os : List zOt} (h : zctd os) (h0 : 0 < os.length) : oC (oe os 0) = none := h 0 h0
theorem oC_set {os : List zOt} {i d : Nat} {ys : List zSt} (hi : i < os.length) (j : Nat) : oC (oe (os.set i (oSetX (oe os i) d ys)) j) = oC (oe os j) := by
  rw [oe_set hi]
  by_cases z : j = i
  · rw [if_pos z, z]; rfl
  · rw [if_neg z]
theorem w_975 : (.methodLink "ZoneAnswers$Zone" 125 ⟨"ZoneAnswers$Owner", "drop", "(LZoneAnswers$Rrset;)V"⟩ : Cond) ∈ zw := zw_at 975 (by decide +kernel) (by decide +kernel)
theorem w_976 : (.instanceMethod ⟨"ZoneAnswers$Owner", "drop", "(LZoneAnswers$Rrset;)V"⟩ : Cond) ∈ zw := zw_at 976 (by decide +kernel) (by decide +kernel)
theorem w_977 : (.selects "ZoneAnswers$Owner" ⟨"ZoneAnswers$Owner", "drop", "(LZoneAnswers$Rrset;)V"⟩ ⟨"ZoneAnswers$Owner", "drop", "(LZoneAnswers$Rrset;)V"⟩ : Cond) ∈ zw := zw_at 977 (by decide +kernel) (by decide +kernel)
theorem w_978 : (.code ⟨"ZoneAnswers$Owner", "drop", "(LZoneAnswers$Rrset;)V"⟩ prog_5_method_6_code 3 none : Cond) ∈ zw := zw_at 978 (by decide +kernel) (by decide +kernel)
theorem w_980 : (.methodLink "ZoneAnswers$Zone" 129 ⟨"ZoneAnswers$Zone", "tidy", "(LZoneAnswers$Owner;)V"⟩ : Cond) ∈ zw := zw_at 980 (by decide +kernel) (by decide +kernel)
theorem w_982 : (.instanceMethod ⟨"ZoneAnswers$Zone", "tidy", "(LZoneAnswers$Owner;)V"⟩ : Cond) ∈ zw := zw_at 982 (by decide +kernel) (by decide +kernel)
theorem w_983 : (.code ⟨"ZoneAnswers$Zone", "tidy", "(LZoneAnswers$Owner;)V"⟩ prog_10_method_14_code 3 none : Cond) ∈ zw := zw_at 983 (by decide +kernel) (by decide +kernel)
theorem wp_13 : (.selects "ZoneAnswers$Zone" ⟨"ZoneAnswers$Zone", "tidy", "(LZoneAnswers$Owner;)V"⟩ ⟨"ZoneAnswers$Zone", "tidy", "(LZoneAnswers$Owner;)V"⟩ : Cond) ∈ zw := zw_pv 13 (y := ⟨"ZoneAnswers$Zone", "tidy", "(LZoneAnswers$Owner;)V"⟩) rfl (by decide +kernel)
abbrev c_Zo_remove : ByteArray := prog_10_method_12_code
abbrev y_Zo_remove : MethodName := ⟨"ZoneAnswers$Zone", "remove", "(LZoneAnswers$Owner;LZoneAnswers$Rrset;I)V"⟩
theorem d_Zo_remove_0 : decode c_Zo_remove 0 = .ok (.aload_n 2, 1) := by decide +kernel
theorem d_Zo_remove_1 : decode c_Zo_remove 1 = .ok (.getfield 68, 3) := by decide +kernel
theorem d_Zo_remove_4 : decode c_Zo_remove 4 = .ok (.iload_n 3, 1) := by decide +kernel
theorem d_Zo_remove_5 : decode c_Zo_remove 5 = .ok (.invokevirtual 118, 3) := by decide +kernel
theorem d_Zo_remove_8 : decode c_Zo_remove 8 = .ok (.pop, 1) := by decide +kernel
theorem d_Zo_remove_9 : decode c_Zo_remove 9 = .ok (.aload_n 0, 1) := by decide +kernel
theorem d_Zo_remove_10 : decode c_Zo_remove 10 = .ok (.dup, 1) := by decide +kernel
theorem d_Zo_remove_11 : decode c_Zo_remove 11 = .ok (.getfield 21, 3) := by decide +kernel
theorem d_Zo_remove_14 : decode c_Zo_remove 14 = .ok (.iconst 1, 1) := by decide +kernel
theorem d_Zo_remove_15 : decode c_Zo_remove 15 = .ok (.isub, 1) := by decide +kernel
theorem d_Zo_remove_16 : decode c_Zo_remove 16 = .ok (.putfield 21, 3) := by decide +kernel
theorem d_Zo_remove_19 : decode c_Zo_remove 19 = .ok (.aload_n 2, 1) := by decide +kernel
theorem d_Zo_remove_20 : decode c_Zo_remove 20 = .ok (.getfield 68, 3) := by decide +kernel
theorem d_Zo_remove_23 : decode c_Zo_remove 23 = .ok (.invokevirtual 121, 3) := by decide +kernel
theorem d_Zo_remove_26 : decode c_Zo_remove 26 = .ok (.ifCond .eq 13, 3) := by decide +kernel
theorem d_Zo_remove_29 : decode c_Zo_remove 29 = .ok (.aload_n 1, 1) := by decide +kernel
theorem d_Zo_remove_30 : decode c_Zo_remove 30 = .ok (.aload_n 2, 1) := by decide +kernel
theorem d_Zo_remove_31 : decode c_Zo_remove 31 = .ok (.invokevirtual 125, 3) := by decide +kernel
theorem d_Zo_remove_34 : decode c_Zo_remove 34 = .ok (.aload_n 0, 1) := by decide +kernel
theorem d_Zo_remove_35 : decode c_Zo_remove 35 = .ok (.aload_n 1, 1) := by decide +kernel
theorem d_Zo_remove_36 : decode c_Zo_remove 36 = .ok (.invokevirtual 129, 3) := by decide +kernel
theorem d_Zo_remove_39 : decode c_Zo_remove 39 = .ok (.return_, 1) := by decide +kernel
abbrev rm_Zo_remove : Room := { frames := 9, cells := 0, slots := 0, locals := 300 }
set_option maxHeartbeats 4000000 in
set_option maxRecDepth 100000 in
/-- Zone.remove(owner, set, place) -/
theorem t_Zo_remove (l : Launch) (E : zc_E) (G : zg_G) (a la tn st sd : Nat) (rc : Int32) (ha : G a = some (.inr (9, [.ref la, .ref tn, .ref st, .ref sd, .int rc]))) (ro : zRo) (dd : Nat) (os : List zOt) (hZR : zZR E G ro la dd os) (hra : ro a = (1, 0)) (hgo : zgo os) (hol : os.length ≤ 2000) (i si j : Nat) (hi : i < os.length) (hs : si < (oX (oe os i)).length) (hj : j < (sX (oS (oe os i) si)).length) (hsl : (oX (oe os i)).length < 2000) (hdl : (sX (oS (oe os i) si)).length < 2000) (h0 : 0 < i ∨ 1 < (oX (oe os i)).length) : zMv l E y_Zo_remove c_Zo_remove 4 rm_Zo_remove [.ref a, .ref (oA (oe os i)), .ref (sA (oS (oe os i) si)), .int (nI j)] G (fun (G2 : zg_G) => ∃ os2, zZR E G2 ro la dd os2 ∧ zfr ro zKz G ro G2 ∧ G2 a = some (.inr (9, [.ref la, .ref tn, .ref st, .ref sd, .int (rc - 1)])) ∧ zgo os2 ∧ os2.length ≤ os.length ∧ 0 < os2.length ∧ znr os2 + 1 = znr os ∧ (∀ x t, zgt os2 x t = if x = oM (oe os i) ∧ t = sT (oS (oe os i) si) then zdr (zgt os x t) j else zgt os x t) ∧ (zctd os → zctd os2) ∧ (∀ x t q, zsa os x t q → ¬ (x = oM (oe os i) ∧ t = sT (oS (oe os i) si)) → zsa os2 x t q) ∧ G2 (sA (oS (oe os i) si)) = some (.inr (5, [.int (sT (oS (oe os i) si)), .int (sU (oS (oe os i) si)), .ref (sL (oS (oe os i) si))])) ∧ ∃ kk, G2 (sL (oS (oe os i) si)) = some (.inr (0, [.ref (sD (oS (oe os i) si)), .int (nI ((zdr (sX (oS (oe os i) si)) j).length)), .int kk]))) := by
  refine zMv.of (by decide) (Nat.le_of_ble_eq_true rfl) ?_
  intro p e s m args below meth c Q hZ hG hret ls hl
  obtain ⟨hx, hb, hr, hts, hown, hlocks, hml, hnm, hbase, hK, hN, hQ⟩ := hZ
  have hl : lv_has ls 4 [(0, .ref a), (1, .ref (oA (oe os i))), (2, .ref (sA (oS (oe os i) si))), (3, .int (nI j))] := hl
  have hS : zg_S (zc_b E) s.heap s.heap [] := va_S.rf
  have hE00 : G (E.2.2.2 0) = none := hQ.out hG
  have hO9 := hZR.2 _ (oe_mem hi)
  have hS9 := hO9.2.2.2.2 _ (oS_mem hs)
  have hss := (hgo.2 i hi).1
  obtain ⟨⟨⟨kl9, hal0⟩, -⟩, -⟩ := id hS9.2.2.1
  rw [List.length_map] at hal0
  have hzl : (zdr (sX (oS (oe os i) si)) j).length = (sX (oS (oe os i) si)).length - 1 := zdr_len hj
  refine lv_aload_n hx hb d_Zo_remove_0 rfl (lv_at hl 2 rfl) ?_
  refine zg_get (ci := 5) (C := "ZoneAnswers$Rrset") (T := T_Rr) (N := 3) hx hb hts zi_Rr hown hK hG hS9.1 rfl 2 (by decide) (hts _ w_628) (fun _ h9 => h9) rfl d_Zo_remove_1 ?_
  refine lv_iload_n hx hb d_Zo_remove_4 rfl (lv_at hl 3 rfl) ?_
  have hGo5 := hG
  refine zk_q (va_runV (As := [.int (nI j)]) (rest := []) ⟨hx, hb, hml, hown, hts⟩ (t_AL_remove_u l hS9.2.2.1.1 hS9.els j (by rw [List.length_map]; exact hj)) (zcV 1 hts w_963 w_964 w_965 w_6 w_966 (by decide +kernel) ⟨Nat.le_of_ble_eq_true rfl, Nat.le_of_ble_eq_true rfl⟩) (zc_preV hbase hK hN hQ hG hS hal0 rfl) rfl rfl hl.1 rfl (lv_room (Nat.le_of_ble_eq_true rfl)) d_Zo_remove_5 ⟨(by decide), (by decide)⟩) hS (fun r5 G5 H locs hp5 hG hS => ?_)
  have hE1 : G5 (E.2.2.2 0) = none := hQ.out hG
  obtain ⟨-, hL1, hx1⟩ := id hp5
  obtain ⟨hfr1, hZ1⟩ := hZR.delD hgo.1 hi hss hs hE1 hx1 hL1
  have haz1 : G5 a = some (.inr (9, [.ref la, .ref tn, .ref st, .ref sd, .int rc])) := hS9.2.2.1.1.keep hE00 hx1 ha (by decide)
  have hsc1 : G5 (sA (oS (oe os i) si)) = some (.inr (5, [.int (sT (oS (oe os i) si)), .int (sU (oS (oe os i) si)), .ref (sL (oS (oe os i) si))])) := hS9.2.2.1.1.keep hE00 hx1 hS9.1 (by decide)
  obtain ⟨⟨kn9, hal1⟩, -⟩ := id hL1
  rw [← zdr_map, List.length_map] at hal1
  obtain ⟨hgt1, hnr1, hW1⟩ := zgo_D (d9 := oD (oe os i)) (d2 := sD (oS (oe os i) si)) hgo hi hs hj
  obtain ⟨os1, eos1⟩ : ∃ z, z = os.set i (oSetX (oe os i) (oD (oe os i)) ((oX (oe os i)).set si (sSetX (oS (oe os i) si) (sD (oS (oe os i) si)) (zdr (sX (oS (oe os i) si)) j)))) := ⟨_, rfl⟩
  rw [← eos1] at hZ1 hnr1 hW1
  have hlen1 : os1.length = os.length := by rw [eos1, List.length_set]
  have hoe1 : oe os1 i = oSetX (oe os i) (oD (oe os i)) ((oX (oe os i)).set si (sSetX (oS (oe os i) si) (sD (oS (oe os i) si)) (zdr (sX (oS (oe os i) si)) j))) := by rw [eos1, oe_set hi, if_pos rfl]
  have hSS1 : oS (oe os1 i) si = sSetX (oS (oe os i) si) (sD (oS (oe os i) si)) (zdr (sX (oS (oe os i) si)) j) := by rw [hoe1, oS_set hs, if_pos rfl]
  have hX1 : (oX (oe os1 i)).length = (oX (oe os i)).length := by rw [hoe1]; exact List.length_set
  have hct1 : zctd os → zctd os1 := fun h9 => by rw [eos1]; exact zctd_D h9 hi hs rfl
  have hsa1 : ∀ x t q, zsa os x t q → zsa os1 x t q := fun x t q h9 => by rw [eos1]; exact zsa_set h9 hi (fun s hs _ e => by rw [← e]; exact zsa_D (fun h => by rw [← oS_at h]; exact ⟨rfl, rfl⟩) hs)
  refine zr_some (a := _) hp5.1 ?_
  refine lv_pop hx hb d_Zo_remove_8 rfl ?_
  refine lv_aload_n hx hb d_Zo_remove_9 rfl (lv_at hl 0 rfl) ?_
  refine lv_dup hx hb d_Zo_remove_10 rfl ?_
  refine zg_get (ci := 9) (C := "ZoneAnswers$Zone") (T := T_Zo) (N := 5) hx hb hts zi_Zo hown hK hG haz1 rfl 4 (by decide) (hts _ w_95) (fun _ h9 => h9) rfl d_Zo_remove_11 ?_
  refine lv_iconst (v := 1) hx hb d_Zo_remove_14 (by decide) ?_
  refine lv_isub hx hb d_Zo_remove_15 ?_
  refine zg_put (ci := 9) (v := .int (rc - 1)) (ty := .int) (C := "ZoneAnswers$Zone") (T := T_Zo) (N := 5) hx hb hts zi_Zo t_Zo t_Zo_ok n_Zo hown hK hG hS haz1 rfl 4 (by decide) (hts _ w_95) (fun _ h9 => h9) rfl (by decide +kernel) rfl rfl (Nat.le_of_ble_eq_true rfl) d_Zo_remove_16 (fun H locs hG hS => ?_)
  obtain ⟨G1, eG1⟩ : ∃ z : zg_G, z = zg_up G5 a (.inr (9, [.ref la, .ref tn, .ref st, .ref sd, .int (rc - 1)])) := ⟨_, rfl⟩
  have hG : zP E G1 H := by rw [eG1]; exact hG
  have k2 : G1 a = some (.inr (9, [.ref la, .ref tn, .ref st, .ref sd, .int (rc - 1)])) := by rw [eG1]; exact zg_up_self _ _ _
  have k3 : G1 (sA (oS (oe os i) si)) = some (.inr (5, [.int (sT (oS (oe os i) si)), .int (sU (oS (oe os i) si)), .ref (sL (oS (oe os i) si))])) := by rw [eG1, zg_up_ne (zg_ne hsc1 haz1 (by intro h; simp at h))]; exact hsc1
  have k4 : G1 (sL (oS (oe os i) si)) = some (.inr (0, [.ref (sD (oS (oe os i) si)), .int (nI ((zdr (sX (oS (oe os i) si)) j).length)), .int kn9])) := by rw [eG1, zg_up_ne (zg_ne hal1 haz1 (by intro h; simp at h))]; exact hal1
  have hZ3 : zZR E G1 ro la dd os1 := by rw [eG1]; exact hZ1.upz haz1 hra hE1
  have hfr3 : zfr ro zKz G ro G1 := hfr1.tr (by rw [eG1]; exact zfr.up (by rw [hra]; exact zKz_n (by decide) (by decide)))
  have hE3 : G1 (E.2.2.2 0) = none := hQ.out hG
  refine lv_aload_n hx hb d_Zo_remove_19 rfl (lv_at hl 2 rfl) ?_
  refine zg_get (ci := 5) (C := "ZoneAnswers$Rrset") (T := T_Rr) (N := 3) hx hb hts zi_Rr hown hK hG k3 rfl 2 (by decide) (hts _ w_628) (fun _ h9 => h9) rfl d_Zo_remove_20 ?_
  refine zk_i (va_runV (As := []) (rest := []) ⟨hx, hb, hml, hown, hts⟩ (t_AL_isEmpty l E G1 (sL (oS (oe os i) si)) (.ref (sD (oS (oe os i) si))) (nI ((zdr (sX (oS (oe os i) si)) j).length)) kn9 k4) (zcV 0 hts w_971 w_972 w_973 w_6 w_974 (by decide +kernel) ⟨Nat.le_of_ble_eq_true rfl, Nat.le_of_ble_eq_true rfl⟩) (zc_preV hbase hK hN hQ hG hS k4 rfl) rfl rfl hl.1 rfl (lv_room (Nat.le_of_ble_eq_true rfl)) d_Zo_remove_23 ⟨(by decide), (by decide)⟩) hS (fun r23 G23 H locs hp23 hG hS => ?_)
  have hG : zP E G1 H := hp23.2 ▸ hG
  refine lv_if_eq (tgt := 39) hx hb d_Zo_remove_26 (by decide) (fun c26 => ?_) (fun c26 => ?_)
  · have hnz := (zE1 (by omega) hp23.1).1 c26
    exact hret _ _ _ _ _ _ _ (⟨os1, hZ3, hfr3, k2, hW1.go (by rw [hSS1]; exact hnz), by omega, by omega, hnr1, fun x t => by rw [eos1]; exact hgt1 x t, hct1, fun x t q h9 _ => hsa1 x t q h9, k3, kn9, k4⟩) hG hS (Nat.le_refl _) (Nat.le_refl _) d_Zo_remove_39
  · have hem : zdr (sX (oS (oe os i) si)) j = [] := List.eq_nil_of_length_eq_zero ((zE1 (by omega) hp23.1).2 c26)
    refine lv_aload_n hx hb d_Zo_remove_29 rfl (lv_at hl 1 rfl) ?_
    refine lv_aload_n hx hb d_Zo_remove_30 rfl (lv_at hl 2 rfl) ?_
    have hA1 : oA (oe os1 i) = oA (oe os i) := by rw [hoe1]; rfl
    have hsA1 : sA (oS (oe os1 i) si) = sA (oS (oe os i) si) := by rw [hSS1]; rfl
    have hdrop := t_Ow_drop l E G1 ro (oe os1 i) (hZ3.2 _ (oe_mem (by omega))) (by omega) si (by omega) (fun q hq => (hZ3.2 _ (oe_mem (show i < os1.length by omega))).sne (hW1.2 i (by omega)).1 (by omega) (by omega) (by omega))
    rw [hA1, hsA1] at hdrop
    have hGo31 := hG
    refine zk_v (va_runV (As := [.ref (sA (oS (oe os i) si))]) (rest := []) ⟨hx, hb, hml, hown, hts⟩ (hdrop) (zcV 1 hts w_975 w_976 w_977 w_12 w_978 (by decide +kernel) ⟨Nat.le_of_ble_eq_true rfl, Nat.le_of_ble_eq_true rfl⟩) (zc_preV hbase hK hN hQ hG hS (hA1 ▸ (hZ3.2 _ (oe_mem (show i < os1.length by omega))).1) rfl) rfl rfl hl.1 rfl (lv_room (Nat.le_of_ble_eq_true rfl)) d_Zo_remove_31 ⟨(by decide), (by decide)⟩) hS (fun G31 H locs hp31 hG hS => ?_)
    have hE4 : G31 (E.2.2.2 0) = none := hQ.out hG
    obtain ⟨hL4, hx4⟩ := hp31
    have hi1 : i < os1.length := by omega
    have hO1 := hZ3.2 _ (oe_mem hi1)
    obtain ⟨hfr4, hZ4⟩ := hZ3.delS hW1.1 hi1 hE4 hx4 hL4
    have haz4 : G31 a = some (.inr (9, [.ref la, .ref tn, .ref st, .ref sd, .int (rc - 1)])) := hO1.2.2.2.1.1.keep hE3 hx4 k2 (by decide)
    have hsc4 : G31 (sA (oS (oe os i) si)) = some (.inr (5, [.int (sT (oS (oe os i) si)), .int (sU (oS (oe os i) si)), .ref (sL (oS (oe os i) si))])) := hO1.2.2.2.1.1.keep hE3 hx4 k3 (by decide)
    have hal4 : G31 (sL (oS (oe os i) si)) = some (.inr (0, [.ref (sD (oS (oe os i) si)), .int (nI ((zdr (sX (oS (oe os i) si)) j).length)), .int kn9])) := hO1.2.2.2.1.1.keep0 hE3 hx4 k4 (fun z => by have q1 := hS9.2.2.1.2.1; rw [z, hO1.2.2.2.1.2.1] at q1; simp at q1)
    obtain ⟨hgt4, hnr4, hge4⟩ := zgw_S (d9 := oD (oe os1 i)) hW1 hi1 (show si < (oX (oe os1 i)).length by omega) (by rw [hSS1]; exact hem)
    obtain ⟨os4, eos4⟩ : ∃ z, z = os1.set i (oSetX (oe os1 i) (oD (oe os1 i)) (zdr (oX (oe os1 i)) si)) := ⟨_, rfl⟩
    rw [← eos4] at hZ4 hnr4 hge4
    have hlen4 : os4.length = os1.length := by rw [eos4, List.length_set]
    have hoe4 : oe os4 i = oSetX (oe os1 i) (oD (oe os1 i)) (zdr (oX (oe os1 i)) si) := by rw [eos4, oe_set hi1, if_pos rfl]
    have hX4 : (oX (oe os4 i)).length = (oX (oe os i)).length - 1 := by rw [hoe4]; show (zdr (oX (oe os1 i)) si).length = _; rw [zdr_len (by omega), hX1]
    have hC4 : ∀ q, oC (oe os4 q) = oC (oe os q) := fun q => by rw [eos4, oC_set hi1, eos1, oC_set hi]
    have hA4 : oA (oe os4 i) = oA (oe os i) := by rw [hoe4]; exact hA1
    have h04 : oX (oe os4 i) = [] → 0 < i := fun z => by
      have q2 : (oX (oe os4 i)).length = 0 := by rw [z]; rfl
      rcases h0 with q | q
      · exact q
      · omega
    have htidy := t_Zo_tidy l E G31 a la tn st sd (rc - 1) haz4 ro dd os4 hZ4 hra (by omega) i (by omega) hge4 (by omega) h04
    rw [hA4] at htidy
    refine lv_aload_n hx hb d_Zo_remove_34 rfl (lv_at hl 0 rfl) ?_
    refine lv_aload_n hx hb d_Zo_remove_35 rfl (lv_at hl 1 rfl) ?_
    have hGo36 := hG
    refine zk_v (va_runV (As := [.ref (oA (oe os i))]) (rest := []) ⟨hx, hb, hml, hown, hts⟩ (htidy) (zcV 1 hts w_980 w_982 wp_13 w_3 w_983 (by decide +kernel) ⟨Nat.le_of_ble_eq_true rfl, Nat.le_of_ble_eq_true rfl⟩) (zc_preV hbase hK hN hQ hG hS haz4 rfl) rfl rfl hl.1 rfl (lv_room (Nat.le_of_ble_eq_true rfl)) d_Zo_remove_36 ⟨(by decide), (by decide)⟩) hS (fun G36 H locs hp36 hG hS => ?_)
    obtain ⟨os5, hZ5, hfr5, haz5, hgo5, hl5, hp5, hnr5, hgt5, hx5, -, hos5⟩ := hp36
    have hsc5 : G36 (sA (oS (oe os i) si)) = some (.inr (5, [.int (sT (oS (oe os i) si)), .int (sU (oS (oe os i) si)), .ref (sL (oS (oe os i) si))])) := hx5 _ _ (fun z => by
      rcases z with z | z | ⟨q, hq, z⟩
      · obtain ⟨⟨⟨k0, h9⟩, -⟩, -⟩ := id hZ4.1; rw [z, h9] at hsc4; cases hsc4
      · exact zL.nd hZ4.1.1 hQ hGo36 _ _ (by rw [← z]; exact hsc4)
      · rw [z, (hZ4.2 _ (oe_mem hq)).1] at hsc4; cases hsc4) hsc4
    have hal5 : G36 (sL (oS (oe os i) si)) = some (.inr (0, [.ref (sD (oS (oe os i) si)), .int (nI ((zdr (sX (oS (oe os i) si)) j).length)), .int kn9])) := hx5 _ _ (fun z => by
      rcases z with z | z | ⟨q, hq, z⟩
      · have q1 := hS9.2.2.1.2.1; rw [z, hZ4.1.2.1] at q1; simp at q1
      · exact zL.nd hZ4.1.1 hQ hGo36 _ _ (by rw [← z]; exact hal4)
      · rw [z, (hZ4.2 _ (oe_mem hq)).1] at hal4; cases hal4) hal4
    have hct5 : zctd os → zctd (zmc os5) := fun h9 => zctd_mc (by
      rcases hos5 trivial with z | ⟨z1, z⟩
      · rw [z, hC4]; exact zctd_0 h9 (by omega)
      · rw [z, oe_dr (by omega), if_pos (h04 z1), hC4]; exact zctd_0 h9 (by omega))
    have hsa9 : ∀ x t q, zsa os x t q → ¬ (x = oM (oe os i) ∧ t = sT (oS (oe os i) si)) → zsa (zmc os5) x t q := fun x t q h9 hn => by
      have q4 : zsa os4 x t q := by
        rw [eos4]
        refine zsa_set (hsa1 x t q h9) hi1 (fun s hs1 e1 e2 => ⟨s, zdr_ne hs1 (fun hh e3 => hn ⟨?_, ?_⟩), e2, rfl⟩)
        · rw [e1, hoe1]; rfl
        · rw [← e2, e3, ← oS_at hh, hSS1]; rfl
      refine zsa_mc ?_
      rcases hos5 trivial with z | ⟨z1, z⟩
      · rw [z]; exact q4
      · rw [z]; exact zsa_dr q4 z1
    have hgt9 : ∀ x t, zgt (zmc os5) x t = if x = oM (oe os i) ∧ t = sT (oS (oe os i) si) then zdr (zgt os x t) j else zgt os x t := fun x t => by rw [zmc_gt, hgt5, eos4, hgt4, eos1, hgt1]
    exact hret _ _ _ _ _ _ _ (⟨zmc os5, hZ5, (hfr3.tr hfr4).tr hfr5, haz5, zmc_go hgo5, by rw [zmc_len]; omega, by rw [zmc_len]; exact hp5, by rw [zmc_nr]; omega, hgt9, hct5, hsa9, hsc5, kn9, hal5⟩) hG hS (Nat.le_refl _) (Nat.le_refl _) d_Zo_remove_39
