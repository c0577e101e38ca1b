theorem zKz_11 : zKz (11, 0) := Or.inr (Or.inl rfl)
theorem nI_z {n : Nat} (h : n < 2 ^ 31) : nI n = 0 ↔ n = 0 := by
  rw [← nI_0]; exact nI_eq h (by decide)
theorem zE1 {n : Nat} {r : Int32} (h : n < 2 ^ 31) (hr : r = if nI n = 0 then 1 else 0) : (r = 0 → 0 < n) ∧ (¬ r = 0 → n = 0) := by
  constructor
  · intro z
    rcases Nat.eq_zero_or_pos n with w | w
    · rw [hr, if_pos ((nI_z h).mpr w)] at z; exact absurd z (by decide)
    · exact w
  · intro z
    rcases Nat.eq_zero_or_pos n with w | w
    · exact w
    · exact absurd (by rw [hr, if_neg (fun q => absurd ((nI_z h).mp q) (by omega))]) z
theorem w_963 : (.methodLink "ZoneAnswers$Zone" 118 ⟨"java/util/ArrayList", "remove", "(I)Ljava/lang/Object;"⟩ : Cond) ∈ zw := zw_at 963 (by decide +kernel) (by decide +kernel)
theorem w_971 : (.methodLink "ZoneAnswers$Zone" 121 ⟨"java/util/ArrayList", "isEmpty", "()Z"⟩ : Cond) ∈ zw := zw_at 971 (by decide +kernel) (by decide +kernel)
abbrev c_Zo_tidy : ByteArray := prog_10_method_14_code
abbrev y_Zo_tidy : MethodName := ⟨"ZoneAnswers$Zone", "tidy", "(LZoneAnswers$Owner;)V"⟩
theorem d_Zo_tidy_0 : decode c_Zo_tidy 0 = .ok (.aload_n 1, 1) := by decide +kernel
theorem d_Zo_tidy_1 : decode c_Zo_tidy 1 = .ok (.getfield 133, 3) := by decide +kernel
theorem d_Zo_tidy_4 : decode c_Zo_tidy 4 = .ok (.invokevirtual 121, 3) := by decide +kernel
theorem d_Zo_tidy_7 : decode c_Zo_tidy 7 = .ok (.ifCond .eq 32, 3) := by decide +kernel
theorem d_Zo_tidy_10 : decode c_Zo_tidy 10 = .ok (.aload_n 0, 1) := by decide +kernel
theorem d_Zo_tidy_11 : decode c_Zo_tidy 11 = .ok (.aload_n 1, 1) := by decide +kernel
theorem d_Zo_tidy_12 : decode c_Zo_tidy 12 = .ok (.getfield 85, 3) := by decide +kernel
theorem d_Zo_tidy_15 : decode c_Zo_tidy 15 = .ok (.invokevirtual 98, 3) := by decide +kernel
theorem d_Zo_tidy_18 : decode c_Zo_tidy 18 = .ok (.istore_n 2, 1) := by decide +kernel
theorem d_Zo_tidy_19 : decode c_Zo_tidy 19 = .ok (.iload_n 2, 1) := by decide +kernel
theorem d_Zo_tidy_20 : decode c_Zo_tidy 20 = .ok (.aload_n 0, 1) := by decide +kernel
theorem d_Zo_tidy_21 : decode c_Zo_tidy 21 = .ok (.getfield 12, 3) := by decide +kernel
theorem d_Zo_tidy_24 : decode c_Zo_tidy 24 = .ok (.invokevirtual 75, 3) := by decide +kernel
theorem d_Zo_tidy_27 : decode c_Zo_tidy 27 = .ok (.if_icmp .ge 12, 3) := by decide +kernel
theorem d_Zo_tidy_30 : decode c_Zo_tidy 30 = .ok (.aload_n 0, 1) := by decide +kernel
theorem d_Zo_tidy_31 : decode c_Zo_tidy 31 = .ok (.getfield 12, 3) := by decide +kernel
theorem d_Zo_tidy_34 : decode c_Zo_tidy 34 = .ok (.iload_n 2, 1) := by decide +kernel
theorem d_Zo_tidy_35 : decode c_Zo_tidy 35 = .ok (.invokevirtual 118, 3) := by decide +kernel
theorem d_Zo_tidy_38 : decode c_Zo_tidy 38 = .ok (.pop, 1) := by decide +kernel
theorem d_Zo_tidy_39 : decode c_Zo_tidy 39 = .ok (.aload_n 0, 1) := by decide +kernel
theorem d_Zo_tidy_40 : decode c_Zo_tidy 40 = .ok (.invokevirtual 115, 3) := by decide +kernel
theorem d_Zo_tidy_43 : decode c_Zo_tidy 43 = .ok (.return_, 1) := by decide +kernel
abbrev rm_Zo_tidy : Room := { frames := 7, cells := 0, slots := 0, locals := 240 }
set_option maxHeartbeats 4000000 in
set_option maxRecDepth 100000 in
/-- Zone.tidy(owner) -/
theorem t_Zo_tidy (l : Launch) (E : zc_E) (G : zg_G) (a la tn st sd : Nat) (rc : Int32) (ha : G a = some (.inr (9, [.ref la, .ref tn, .ref st, .ref sd, .int rc]))) (ro : zRo) (dd : Nat) (os : List zOt) (hZR : zZR E G ro la dd os) (hra : ro a = (1, 0)) (hol : os.length ≤ 2000) (i : Nat) (hi : i < os.length) (hge : zge os i) (hsl : (oX (oe os i)).length < 2000) (h0 : oX (oe os i) = [] → 0 < i) : zMv l E y_Zo_tidy c_Zo_tidy 3 rm_Zo_tidy [.ref a, .ref (oA (oe os i))] G (fun (G2 : zg_G) => ∃ os2, zZR E G2 ro la dd (zmc os2) ∧ zfr ro zKz G ro G2 ∧ G2 a = some (.inr (9, [.ref la, .ref tn, .ref st, .ref sd, .int rc])) ∧ zgo os2 ∧ os2.length ≤ os.length ∧ 0 < os2.length ∧ znr os2 = znr os ∧ (∀ x t, zgt os2 x t = zgt os x t) ∧ zx (fun q => q = la ∨ q = dd ∨ ∃ j, j < os.length ∧ q = oA (oe os j)) G G2 ∧ (0 < (oX (oe os i)).length → os2 = os) ∧ (True → os2 = os ∨ (oX (oe os i) = [] ∧ os2 = zdr os i))) := by
  refine zMv.of (by decide) (Nat.le_of_ble_eq_true rfl) ?_
  intro p e s m args below meth c Q hZ hG hret ls hl
  obtain ⟨hx, hb, hr, hts, hown, hlocks, hml, hnm, hbase, hK, hN, hQ⟩ := hZ
  have hl : lv_has ls 3 [(0, .ref a), (1, .ref (oA (oe os i)))] := hl
  have hS : zg_S (zc_b E) s.heap s.heap [] := va_S.rf
  obtain ⟨⟨⟨kq9, hla9⟩, -⟩, -⟩ := id hZR.1
  rw [List.length_map] at hla9
  have hE00 : G (E.2.2.2 0) = none := hQ.out hG
  obtain ⟨ho1, ho2, hNm, ⟨⟨⟨kl9, ho10⟩, -⟩, -⟩, -⟩ := id (hZR.2 _ (oe_mem hi))
  rw [List.length_map] at ho10
  refine lv_aload_n hx hb d_Zo_tidy_0 rfl (lv_at hl 1 rfl) ?_
  refine zg_get (ci := 4) (C := "ZoneAnswers$Owner") (T := T_Ow) (N := 3) hx hb hts zi_Ow hown hK hG ho1 rfl 1 (by decide) (hts _ w_209) (fun _ h9 => h9) rfl d_Zo_tidy_1 ?_
  refine zk_i (va_runV (As := []) (rest := []) ⟨hx, hb, hml, hown, hts⟩ (t_AL_isEmpty l E G (oL (oe os i)) (.ref (oD (oe os i))) (nI ((oX (oe os i)).length)) kl9 ho10) (zcV 0 hts w_971 w_972 w_973 w_6 w_974 (by decide +kernel) ⟨Nat.le_of_ble_eq_true rfl, Nat.le_of_ble_eq_true rfl⟩) (zc_preV hbase hK hN hQ hG hS ho10 rfl) rfl rfl hl.1 rfl (lv_room (Nat.le_of_ble_eq_true rfl)) d_Zo_tidy_4 ⟨(by decide), (by decide)⟩) hS (fun r4 G4 H locs hp4 hG hS => ?_)
  have hG : zP E G H := hp4.2 ▸ hG
  refine lv_if_eq (tgt := 39) hx hb d_Zo_tidy_7 (by decide) (fun c7 => ?_) (fun c7 => ?_)
  · have hnz := (zE1 (by omega) hp4.1).1 c7
    refine lv_aload_n hx hb d_Zo_tidy_39 rfl (lv_at hl 0 rfl) ?_
    have hGo40 := hG
    refine zk_v (va_runV (As := []) (rest := []) ⟨hx, hb, hml, hown, hts⟩ (t_Zo_markCuts l E G a la tn st sd rc ha ro dd os hZR (by omega) (by omega) (hge.go hnz).1 (fun o ho => by obtain ⟨j, hj, e⟩ := oe_ix ho; rw [← e]; exact ((hge.go hnz).2 j hj).2.1)) (zcV 0 hts w_645 w_647 wp_9 w_3 w_648 (by decide +kernel) ⟨Nat.le_of_ble_eq_true rfl, Nat.le_of_ble_eq_true rfl⟩) (zc_preV hbase hK hN hQ hG hS ha rfl) rfl rfl hl.1 rfl (lv_room (Nat.le_of_ble_eq_true rfl)) d_Zo_tidy_40 ⟨(by decide), (by decide)⟩) hS (fun G40 H locs hp40 hG hS => ?_)
    obtain ⟨hZ5, hx5⟩ := hp40
    have haz5 : G40 a = some (.inr (9, [.ref la, .ref tn, .ref st, .ref sd, .int rc])) := hx5 a _ (fun ⟨j, hj, e⟩ => zg_ne ha (hZR.2 _ (oe_mem hj)).1 (by intro h; simp at h) e) ha
    exact hret _ _ _ _ _ _ _ (⟨os, hZ5, hZR.frC hx5, haz5, hge.go hnz, Nat.le_refl _, by omega, rfl, fun _ _ => rfl, hx5.w (fun _ z => Or.inr (Or.inr z)), fun _ => rfl, fun _ => Or.inl rfl⟩) hG hS (Nat.le_refl _) (Nat.le_refl _) d_Zo_tidy_43
  · have hoz : oX (oe os i) = [] := List.eq_nil_of_length_eq_zero ((zE1 (by omega) hp4.1).2 c7)
    have hi0 := h0 hoz
    refine lv_aload_n hx hb d_Zo_tidy_10 rfl (lv_at hl 0 rfl) ?_
    refine lv_aload_n hx hb d_Zo_tidy_11 rfl (lv_at hl 1 rfl) ?_
    refine zg_get (ci := 4) (C := "ZoneAnswers$Owner") (T := T_Ow) (N := 3) hx hb hts zi_Ow hown hK hG ho1 rfl 0 (by decide) (hts _ w_206) (fun _ h9 => h9) rfl d_Zo_tidy_12 ?_
    have hGo15 := hG
    refine zk_i (va_runV (As := [.ref (oN (oe os i))]) (rest := []) ⟨hx, hb, hml, hown, hts⟩ (t_Zo_place_g l ha hZR hge.1 hNm) (zcV 1 hts w_155 w_157 wp_0 w_3 w_158 (by decide +kernel) ⟨Nat.le_of_ble_eq_true rfl, Nat.le_of_ble_eq_true rfl⟩) (zc_preV hbase hK hN hQ hG hS ha rfl) rfl rfl hl.1 rfl (lv_room (Nat.le_of_ble_eq_true rfl)) d_Zo_tidy_15 ⟨(by decide), (by decide)⟩) hS (fun r15 G15 H locs hp15 hG hS => ?_)
    obtain ⟨⟨kp8, e8, hk1, hk2, hk3⟩, e9⟩ := hp15
    have hG : zP E G H := e9 ▸ hG
    have ekp := zge_at hge.1 hi hk1 hk2 hk3
    refine zi_as (y := nI i) (by rw [e8, ekp]) ?_
    refine lv_istore_n (lv' := [(2, .int (nI i)), (0, .ref a), (1, .ref (oA (oe os i)))]) hx hb d_Zo_tidy_18 rfl hl (by decide) rfl (fun ls hl => ?_)
    refine lv_iload_n hx hb d_Zo_tidy_19 rfl (lv_at hl 0 rfl) ?_
    refine lv_aload_n hx hb d_Zo_tidy_20 rfl (lv_at hl 1 rfl) ?_
    refine zg_get (ci := 9) (C := "ZoneAnswers$Zone") (T := T_Zo) (N := 5) hx hb hts zi_Zo hown hK hG ha rfl 0 (by decide) (hts _ w_91) (fun _ h9 => h9) rfl d_Zo_tidy_21 ?_
    refine zk_i (va_runV (As := []) (rest := [.int (nI i)]) ⟨hx, hb, hml, hown, hts⟩ (t_AL_size l E G la (.ref dd) (nI os.length) kq9 hla9) (zcV 0 hts w_159 w_160 w_161 w_6 w_162 (by decide +kernel) ⟨Nat.le_of_ble_eq_true rfl, Nat.le_of_ble_eq_true rfl⟩) (zc_preV hbase hK hN hQ hG hS hla9 rfl) rfl rfl hl.1 rfl (lv_room (Nat.le_of_ble_eq_true rfl)) d_Zo_tidy_24 ⟨(by decide), (by decide)⟩) hS (fun r24 G24 H locs hp24 hG hS => ?_)
    have hG : zP E G H := hp24.2 ▸ hG
    refine zi_as (y := nI os.length) hp24.1 ?_
    refine lv_icmp_ge (tgt := 39) hx hb d_Zo_tidy_27 (by decide) (fun c27 => ?_) (fun c27 => ?_)
    · have b27 : os.length ≤ i := (nI_leI (a := os.length) (b := i) (by omega) (by omega)).mp c27
      exact absurd hi (by omega)
    · have b27 : ¬ os.length ≤ i := fun q => c27 ((nI_leI (a := os.length) (b := i) (by omega) (by omega)).mpr q)
      refine lv_aload_n hx hb d_Zo_tidy_30 rfl (lv_at hl 1 rfl) ?_
      refine zg_get (ci := 9) (C := "ZoneAnswers$Zone") (T := T_Zo) (N := 5) hx hb hts zi_Zo hown hK hG ha rfl 0 (by decide) (hts _ w_91) (fun _ h9 => h9) rfl d_Zo_tidy_31 ?_
      refine lv_iload_n hx hb d_Zo_tidy_34 rfl (lv_at hl 0 rfl) ?_
      have hGo35 := hG
      refine zk_q (va_runV (As := [.int (nI i)]) (rest := []) ⟨hx, hb, hml, hown, hts⟩ (t_AL_remove_u l hZR.1.1 hZR.els i (by rw [List.length_map]; exact hi)) (zcV 1 hts w_963 w_964 w_965 w_6 w_966 (by decide +kernel) ⟨Nat.le_of_ble_eq_true rfl, Nat.le_of_ble_eq_true rfl⟩) (zc_preV hbase hK hN hQ hG hS hla9 rfl) rfl rfl hl.1 rfl (lv_room (Nat.le_of_ble_eq_true rfl)) d_Zo_tidy_35 ⟨(by decide), (by decide)⟩) hS (fun r35 G35 H locs hp35 hG hS => ?_)
      have hE1 : G35 (E.2.2.2 0) = none := hQ.out hG
      obtain ⟨hfr1, hZ1⟩ := hZR.delO hE1 hp35.2.2 hp35.2.1
      have haz1 : G35 a = some (.inr (9, [.ref la, .ref tn, .ref st, .ref sd, .int rc])) := hZR.1.1.keep hE00 hp35.2.2 ha (by decide)
      obtain ⟨hgo1, hgt1, hnr1⟩ := zge_dr hge hi hoz
      have hl1 : (zdr os i).length = os.length - 1 := zdr_len hi
      refine zr_some (a := _) hp35.1 ?_
      refine lv_pop hx hb d_Zo_tidy_38 rfl ?_
      refine lv_aload_n hx hb d_Zo_tidy_39 rfl (lv_at hl 1 rfl) ?_
      have hGo40 := hG
      refine zk_v (va_runV (As := []) (rest := []) ⟨hx, hb, hml, hown, hts⟩ (t_Zo_markCuts l E G35 a la tn st sd rc haz1 ro dd (zdr os i) hZ1 (by omega) (by omega) hgo1.1 (fun o ho => by obtain ⟨j, hj, e⟩ := oe_ix ho; rw [← e]; exact (hgo1.2 j hj).2.1)) (zcV 0 hts w_645 w_647 wp_9 w_3 w_648 (by decide +kernel) ⟨Nat.le_of_ble_eq_true rfl, Nat.le_of_ble_eq_true rfl⟩) (zc_preV hbase hK hN hQ hG hS haz1 rfl) rfl rfl hl.1 rfl (lv_room (Nat.le_of_ble_eq_true rfl)) d_Zo_tidy_40 ⟨(by decide), (by decide)⟩) hS (fun G40 H locs hp40 hG hS => ?_)
      obtain ⟨hZ5, hx5⟩ := hp40
      have haz5 : G40 a = some (.inr (9, [.ref la, .ref tn, .ref st, .ref sd, .int rc])) := hx5 a _ (fun ⟨j, hj, e⟩ => zg_ne haz1 (hZ1.2 _ (oe_mem hj)).1 (by intro h; simp at h) e) haz1
      exact hret _ _ _ _ _ _ _ (⟨zdr os i, hZ5, hfr1.tr (hZ1.frC hx5), haz5, hgo1, by omega, by omega, hnr1, hgt1, ((hp35.2.2).w (fun _ z => z.elim Or.inl (fun z => Or.inr (Or.inl z)))).tr (hx5.w (fun q z => by obtain ⟨j, hj, e⟩ := z; rw [oe_dr hi] at e; by_cases w : j < i; rw [if_pos w] at e; exact Or.inr (Or.inr ⟨j, by omega, e⟩); rw [if_neg w] at e; exact Or.inr (Or.inr ⟨j + 1, by omega, e⟩))), fun z => absurd hoz (List.ne_nil_of_length_pos z), fun _ => Or.inr ⟨hoz, rfl⟩⟩) hG hS (Nat.le_refl _) (Nat.le_refl _) d_Zo_tidy_43
