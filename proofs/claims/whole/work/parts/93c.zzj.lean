def zrm (t : Int32) (xs : List zSt) (m : Nat) : List zSt := xs.take m ++ zkf t (xs.drop m)
theorem zrm_n (t : Int32) (xs : List zSt) : zrm t xs xs.length = xs := by
  unfold zrm; rw [List.take_length, List.drop_length]; exact List.append_nil _
theorem zrm_0 (t : Int32) (xs : List zSt) : zrm t xs 0 = zkf t xs := rfl
theorem zrm_at {t : Int32} {xs : List zSt} {m : Nat} (h : m < xs.length) : (zrm t xs (m + 1))[m]? = some xs[m] := by
  unfold zrm
  rw [List.getElem?_append_left (by rw [List.length_take]; omega), List.getElem?_take_of_lt (Nat.lt_succ_self m), List.getElem?_eq_getElem h]
theorem zkf_dr {t : Int32} {xs : List zSt} {m : Nat} (h : m < xs.length) : zkf t (xs.drop m) = (if zkt t (sT xs[m]) = true then [xs[m]] else []) ++ zkf t (xs.drop (m + 1)) := by
  rw [List.drop_eq_getElem_cons h]
  unfold zkf
  rw [List.filter_cons]
  split <;> rfl
theorem zrm_y {t : Int32} {xs : List zSt} {m : Nat} (h : m < xs.length) (hk : zkt t (sT xs[m]) = true) : zrm t xs m = zrm t xs (m + 1) := by
  unfold zrm
  rw [zkf_dr h, if_pos hk, List.take_succ_eq_append_getElem h, List.append_assoc]
theorem zrm_x {t : Int32} {xs : List zSt} {m : Nat} (h : m < xs.length) (hk : zkt t (sT xs[m]) = false) : zdr (zrm t xs (m + 1)) m = zrm t xs m := by
  unfold zrm zdr
  have e1 : (xs.take (m + 1)).length = m + 1 := by rw [List.length_take]; omega
  rw [List.take_append_of_le_length (by omega), List.take_take, Nat.min_eq_left (Nat.le_succ m), List.drop_append_of_le_length (by omega), List.drop_of_length_le (by omega), List.nil_append, zkf_dr h, if_neg (by rw [hk]; decide), List.nil_append]
theorem zrm_len {t : Int32} {xs : List zSt} {m : Nat} (h : m ≤ xs.length) : m ≤ (zrm t xs m).length ∧ (zrm t xs m).length ≤ xs.length := by
  unfold zrm zkf
  rw [List.length_append, List.length_take]
  have := List.length_filter_le (fun s => zkt t (sT s)) (xs.drop m)
  rw [List.length_drop] at this
  omega
theorem zgn_dr {t : Int32} {xs : List zSt} {m : Nat} (h : m < xs.length) : zgn t (xs.drop m) = zgn t (xs.drop (m + 1)) + (if zkt t (sT xs[m]) = true then 0 else (sX xs[m]).length) := by
  rw [List.drop_eq_getElem_cons h]
  unfold zgn
  rw [List.filter_cons]
  by_cases hk : zkt t (sT xs[m]) = true
  · rw [if_pos hk, hk]; rfl
  · rw [if_neg hk, if_pos (by simp only [Bool.not_eq_true] at hk; rw [hk]; rfl), List.map_cons, List.sum_cons]; omega
theorem zng_y {m : Nat} (h : nI m - 1 < 0) (hm : m < 2 ^ 31) : m = 0 := by
  rcases Nat.eq_zero_or_pos m with z | z
  · exact z
  · rw [show nI m - 1 = nI (m - 1) from zi_sub (a := m) (b := 1) z] at h
    exact absurd h (nI_pos (by omega))
theorem zng_n {m : Nat} (h : ¬ nI m - 1 < 0) : 0 < m := by
  rcases Nat.eq_zero_or_pos m with z | z
  · exact absurd (by rw [z]; decide) h
  · exact z
theorem w_620 : (.fieldLink "ZoneAnswers$Zone" 136 "ZoneAnswers$Rrset" "type" "I" : Cond) ∈ zw := zw_at 620 (by decide +kernel) (by decide +kernel)
theorem w_933 : (.instanceMethod ⟨"ZoneAnswers$Rrset", "size", "()I"⟩ : Cond) ∈ zw := zw_at 933 (by decide +kernel) (by decide +kernel)
theorem w_934 : (.selects "ZoneAnswers$Rrset" ⟨"ZoneAnswers$Rrset", "size", "()I"⟩ ⟨"ZoneAnswers$Rrset", "size", "()I"⟩ : Cond) ∈ zw := zw_at 934 (by decide +kernel) (by decide +kernel)
theorem w_935 : (.code ⟨"ZoneAnswers$Rrset", "size", "()I"⟩ prog_6_method_2_code 1 (some .int) : Cond) ∈ zw := zw_at 935 (by decide +kernel) (by decide +kernel)
theorem w_999 : (.classLink "ZoneAnswers$Zone" 47 "ZoneAnswers$Rrset" : Cond) ∈ zw := zw_at 999 (by decide +kernel) (by decide +kernel)
theorem w_1000 : (.methodLink "ZoneAnswers$Zone" 139 ⟨"ZoneAnswers$Rrset", "size", "()I"⟩ : Cond) ∈ zw := zw_at 1000 (by decide +kernel) (by decide +kernel)
abbrev c_Zo_removeAll : ByteArray := prog_10_method_13_code
abbrev y_Zo_removeAll : MethodName := ⟨"ZoneAnswers$Zone", "removeAll", "(LZoneAnswers$Owner;I)I"⟩
theorem d_Zo_removeAll_0 : decode c_Zo_removeAll 0 = .ok (.iconst 0, 1) := by decide +kernel
theorem d_Zo_removeAll_1 : decode c_Zo_removeAll 1 = .ok (.istore_n 3, 1) := by decide +kernel
theorem d_Zo_removeAll_2 : decode c_Zo_removeAll 2 = .ok (.aload_n 1, 1) := by decide +kernel
theorem d_Zo_removeAll_3 : decode c_Zo_removeAll 3 = .ok (.getfield 133, 3) := by decide +kernel
theorem d_Zo_removeAll_6 : decode c_Zo_removeAll 6 = .ok (.invokevirtual 75, 3) := by decide +kernel
theorem d_Zo_removeAll_9 : decode c_Zo_removeAll 9 = .ok (.iconst 1, 1) := by decide +kernel
theorem d_Zo_removeAll_10 : decode c_Zo_removeAll 10 = .ok (.isub, 1) := by decide +kernel
theorem d_Zo_removeAll_11 : decode c_Zo_removeAll 11 = .ok (.istore 4, 2) := by decide +kernel
theorem d_Zo_removeAll_13 : decode c_Zo_removeAll 13 = .ok (.iload 4, 2) := by decide +kernel
theorem d_Zo_removeAll_15 : decode c_Zo_removeAll 15 = .ok (.ifCond .lt 67, 3) := by decide +kernel
theorem d_Zo_removeAll_18 : decode c_Zo_removeAll 18 = .ok (.aload_n 1, 1) := by decide +kernel
theorem d_Zo_removeAll_19 : decode c_Zo_removeAll 19 = .ok (.getfield 133, 3) := by decide +kernel
theorem d_Zo_removeAll_22 : decode c_Zo_removeAll 22 = .ok (.iload 4, 2) := by decide +kernel
theorem d_Zo_removeAll_24 : decode c_Zo_removeAll 24 = .ok (.invokevirtual 79, 3) := by decide +kernel
theorem d_Zo_removeAll_27 : decode c_Zo_removeAll 27 = .ok (.checkcast 47, 3) := by decide +kernel
theorem d_Zo_removeAll_30 : decode c_Zo_removeAll 30 = .ok (.astore 5, 2) := by decide +kernel
theorem d_Zo_removeAll_32 : decode c_Zo_removeAll 32 = .ok (.aload 5, 2) := by decide +kernel
theorem d_Zo_removeAll_34 : decode c_Zo_removeAll 34 = .ok (.getfield 136, 3) := by decide +kernel
theorem d_Zo_removeAll_37 : decode c_Zo_removeAll 37 = .ok (.iload_n 2, 1) := by decide +kernel
theorem d_Zo_removeAll_38 : decode c_Zo_removeAll 38 = .ok (.if_icmp .eq 20, 3) := by decide +kernel
theorem d_Zo_removeAll_41 : decode c_Zo_removeAll 41 = .ok (.iload_n 2, 1) := by decide +kernel
theorem d_Zo_removeAll_42 : decode c_Zo_removeAll 42 = .ok (.sipush 255, 3) := by decide +kernel
theorem d_Zo_removeAll_45 : decode c_Zo_removeAll 45 = .ok (.if_icmp .ne 31, 3) := by decide +kernel
theorem d_Zo_removeAll_48 : decode c_Zo_removeAll 48 = .ok (.aload 5, 2) := by decide +kernel
theorem d_Zo_removeAll_50 : decode c_Zo_removeAll 50 = .ok (.getfield 136, 3) := by decide +kernel
theorem d_Zo_removeAll_53 : decode c_Zo_removeAll 53 = .ok (.bipush 6, 2) := by decide +kernel
theorem d_Zo_removeAll_55 : decode c_Zo_removeAll 55 = .ok (.if_icmp .eq 21, 3) := by decide +kernel
theorem d_Zo_removeAll_58 : decode c_Zo_removeAll 58 = .ok (.iload_n 3, 1) := by decide +kernel
theorem d_Zo_removeAll_59 : decode c_Zo_removeAll 59 = .ok (.aload 5, 2) := by decide +kernel
theorem d_Zo_removeAll_61 : decode c_Zo_removeAll 61 = .ok (.invokevirtual 139, 3) := by decide +kernel
theorem d_Zo_removeAll_64 : decode c_Zo_removeAll 64 = .ok (.iadd, 1) := by decide +kernel
theorem d_Zo_removeAll_65 : decode c_Zo_removeAll 65 = .ok (.istore_n 3, 1) := by decide +kernel
theorem d_Zo_removeAll_66 : decode c_Zo_removeAll 66 = .ok (.aload_n 1, 1) := by decide +kernel
theorem d_Zo_removeAll_67 : decode c_Zo_removeAll 67 = .ok (.getfield 133, 3) := by decide +kernel
theorem d_Zo_removeAll_70 : decode c_Zo_removeAll 70 = .ok (.iload 4, 2) := by decide +kernel
theorem d_Zo_removeAll_72 : decode c_Zo_removeAll 72 = .ok (.invokevirtual 118, 3) := by decide +kernel
theorem d_Zo_removeAll_75 : decode c_Zo_removeAll 75 = .ok (.pop, 1) := by decide +kernel
theorem d_Zo_removeAll_76 : decode c_Zo_removeAll 76 = .ok (.iinc 4 (-1), 3) := by decide +kernel
theorem d_Zo_removeAll_79 : decode c_Zo_removeAll 79 = .ok (.goto (-66), 3) := by decide +kernel
theorem d_Zo_removeAll_82 : decode c_Zo_removeAll 82 = .ok (.aload_n 0, 1) := by decide +kernel
theorem d_Zo_removeAll_83 : decode c_Zo_removeAll 83 = .ok (.dup, 1) := by decide +kernel
theorem d_Zo_removeAll_84 : decode c_Zo_removeAll 84 = .ok (.getfield 21, 3) := by decide +kernel
theorem d_Zo_removeAll_87 : decode c_Zo_removeAll 87 = .ok (.iload_n 3, 1) := by decide +kernel
theorem d_Zo_removeAll_88 : decode c_Zo_removeAll 88 = .ok (.isub, 1) := by decide +kernel
theorem d_Zo_removeAll_89 : decode c_Zo_removeAll 89 = .ok (.putfield 21, 3) := by decide +kernel
theorem d_Zo_removeAll_92 : decode c_Zo_removeAll 92 = .ok (.aload_n 0, 1) := by decide +kernel
theorem d_Zo_removeAll_93 : decode c_Zo_removeAll 93 = .ok (.aload_n 1, 1) := by decide +kernel
theorem d_Zo_removeAll_94 : decode c_Zo_removeAll 94 = .ok (.invokevirtual 129, 3) := by decide +kernel
theorem d_Zo_removeAll_97 : decode c_Zo_removeAll 97 = .ok (.iload_n 3, 1) := by decide +kernel
theorem d_Zo_removeAll_98 : decode c_Zo_removeAll 98 = .ok (.ireturn, 1) := by decide +kernel
abbrev rm_Zo_removeAll : Room := { frames := 9, cells := 0, slots := 0, locals := 300 }
set_option maxHeartbeats 4000000 in
set_option maxRecDepth 100000 in
/-- Zone.removeAll(owner, type) -/
theorem t_Zo_removeAll (l : Launch) (E : zc_E) (G : zg_G) (a la tn st sd : Nat) (rc : Int32) (ha : G a = some (.inr (9, [.ref la, .ref tn, .ref st, .ref sd, .int rc]))) (ro : zRo) (dd : Nat) (os : List zOt) (hZR : zZR E G ro la dd os) (hra : ro a = (1, 0)) (hgo : zgo os) (hol : os.length ≤ 2000) (i : Nat) (hi : i < os.length) (hsl : (oX (oe os i)).length < 2000) (t : Int32) (h0 : zkf t (oX (oe os i)) = [] → 0 < i) : zMi l E y_Zo_removeAll c_Zo_removeAll 6 (some .int) rm_Zo_removeAll [.ref a, .ref (oA (oe os i)), .int t] G (fun (r : Int32) (G2 : zg_G) => ∃ os2, r = nI (zgn t (oX (oe os i))) ∧ zZR E G2 ro la dd os2 ∧ zfr ro zKz G ro G2 ∧ G2 a = some (.inr (9, [.ref la, .ref tn, .ref st, .ref sd, .int (rc - nI (zgn t (oX (oe os i))))])) ∧ zgo os2 ∧ os2.length ≤ os.length ∧ 0 < os2.length ∧ znr os2 + zgn t (oX (oe os i)) = znr os ∧ (∀ x t2, zgt os2 x t2 = if x = oM (oe os i) ∧ ¬ zkt t t2 = true then [] else zgt os x t2) ∧ (zctd os → zctd os2) ∧ (∀ x t2 q, zsa os x t2 q → ¬ (x = oM (oe os i) ∧ ¬ zkt t t2 = true) → zsa os2 x t2 q)) := by
  refine zMi.of (by decide) (Nat.le_of_ble_eq_true rfl) ?_
  intro p e s m args below meth c Q hZ hG hret ls hl
  obtain ⟨hx, hb, hr, hts, hown, hlocks, hml, hnm, hbase, hK, hN, hQ⟩ := hZ
  have hl : lv_has ls 6 [(0, .ref a), (1, .ref (oA (oe os i))), (2, .int t)] := hl
  have hS : zg_S (zc_b E) s.heap s.heap [] := va_S.rf
  have hO9 := hZR.2 _ (oe_mem hi)
  obtain ⟨⟨⟨kl9, hal0⟩, -⟩, -⟩ := id hO9.2.2.2.1
  rw [List.length_map] at hal0
  refine lv_iconst (v := 0) hx hb d_Zo_removeAll_0 (by decide) ?_
  refine zi_as (y := nI (zgn t (List.drop ((oX (oe os i)).length) (oX (oe os i))))) (by rw [List.drop_length]; rfl) ?_
  refine lv_istore_n (lv' := [(3, .int (nI (zgn t (List.drop ((oX (oe os i)).length) (oX (oe os i)))))), (0, .ref a), (1, .ref (oA (oe os i))), (2, .int t)]) hx hb d_Zo_removeAll_1 rfl hl (by decide) rfl (fun ls hl => ?_)
  refine lv_aload_n hx hb d_Zo_removeAll_2 rfl (lv_at hl 2 rfl) ?_
  refine zg_get (ci := 4) (C := "ZoneAnswers$Owner") (T := T_Ow) (N := 3) hx hb hts zi_Ow hown hK hG hO9.1 rfl 1 (by decide) (hts _ w_209) (fun _ h9 => h9) rfl d_Zo_removeAll_3 ?_
  refine zk_i (va_runV (As := []) (rest := []) ⟨hx, hb, hml, hown, hts⟩ (t_AL_size l E G (oL (oe os i)) (.ref (oD (oe os i))) (nI ((oX (oe os i)).length)) kl9 hal0) (zcV 0 hts w_159 w_160 w_161 w_6 w_162 (by decide +kernel) ⟨Nat.le_of_ble_eq_true rfl, Nat.le_of_ble_eq_true rfl⟩) (zc_preV hbase hK hN hQ hG hS hal0 rfl) rfl rfl hl.1 rfl (lv_room (Nat.le_of_ble_eq_true rfl)) d_Zo_removeAll_6 ⟨(by decide), (by decide)⟩) hS (fun r6 G6 H locs hp6 hG hS => ?_)
  have hG : zP E G H := hp6.2 ▸ hG
  refine zi_as (y := nI ((oX (oe os i)).length)) hp6.1 ?_
  refine lv_iconst (v := 1) hx hb d_Zo_removeAll_9 (by decide) ?_
  refine lv_isub hx hb d_Zo_removeAll_10 ?_
  refine lv_istore (lv' := [(4, .int ((nI ((oX (oe os i)).length)) - 1)), (3, .int (nI (zgn t (List.drop ((oX (oe os i)).length) (oX (oe os i)))))), (0, .ref a), (1, .ref (oA (oe os i))), (2, .int t)]) hx hb d_Zo_removeAll_11 hl (by decide) rfl (fun ls hl => ?_)
  have loop13 : ∀ (N : Nat) (Gv : zg_G) (mm : Nat) (H : Heap) (locs : List Loc), mm < N → (mm ≤ (oX (oe os i)).length) → (zZR E Gv ro la dd (os.set i (oSetX (oe os i) (oD (oe os i)) (zrm t (oX (oe os i)) mm)))) → (zfr ro zKz G ro Gv) → (Gv a = some (.inr (9, [.ref la, .ref tn, .ref st, .ref sd, .int rc]))) → zP E Gv H → zg_S (zc_b E) s.heap H locs → ∀ (ls : Array Slot), lv_has ls 6 [(0, .ref a), (1, .ref (oA (oe os i))), (2, .int t), (3, .int (nI (zgn t (List.drop mm (oX (oe os i)))))), (4, .int (nI mm - 1))] → W p l e rm_Zo_removeAll s m args below meth c H locs 0 0 Q (F0 m 13 ls []) := by
    intro N
    induction N with
    | zero =>
      intro Gv mm H locs hlt
      exact absurd hlt (Nat.not_lt_zero _)
    | succ N ih =>
      intro Gv mm H locs hlt hm hZ8 hfl kk_a hG hS ls hl
      have hE8 : Gv (E.2.2.2 0) = none := hQ.out hG
      obtain ⟨os8, e8⟩ : ∃ z, z = os.set i (oSetX (oe os i) (oD (oe os i)) (zrm t (oX (oe os i)) mm)) := ⟨_, rfl⟩
      rw [← e8] at hZ8
      have hln8 : os8.length = os.length := by rw [e8, List.length_set]
      have hoe8 : oe os8 i = oSetX (oe os i) (oD (oe os i)) (zrm t (oX (oe os i)) mm) := by rw [e8, oe_set hi, if_pos rfl]
      have hO8 := hZ8.2 _ (oe_mem (show i < os8.length by omega))
      rw [hoe8] at hO8
      obtain ⟨⟨⟨kl8, hal8⟩, -⟩, -⟩ := id hO8.2.2.2.1
      rw [List.length_map] at hal8
      have hlm8 := zrm_len (t := t) hm
      have hso8 : zso os8 := by rw [e8]; exact zso_set hgo.1 hi rfl
      refine lv_iload hx hb d_Zo_removeAll_13 (lv_at hl 4 rfl) ?_
      refine lv_if_lt (tgt := 82) hx hb d_Zo_removeAll_15 (by decide) (fun c15 => ?_) (fun c15 => ?_)
      · refine lv_aload_n hx hb d_Zo_removeAll_82 rfl (lv_at hl 0 rfl) ?_
        refine lv_dup hx hb d_Zo_removeAll_83 rfl ?_
        refine zg_get (ci := 9) (C := "ZoneAnswers$Zone") (T := T_Zo) (N := 5) hx hb hts zi_Zo hown hK hG kk_a rfl 4 (by decide) (hts _ w_95) (fun _ h9 => h9) rfl d_Zo_removeAll_84 ?_
        refine lv_iload_n hx hb d_Zo_removeAll_87 rfl (lv_at hl 3 rfl) ?_
        refine lv_isub hx hb d_Zo_removeAll_88 ?_
        refine zg_put (ci := 9) (v := .int (rc - (nI (zgn t (List.drop mm (oX (oe os i))))))) (ty := .int) (C := "ZoneAnswers$Zone") (T := T_Zo) (N := 5) hx hb hts zi_Zo t_Zo t_Zo_ok n_Zo hown hK hG hS kk_a rfl 4 (by decide) (hts _ w_95) (fun _ h9 => h9) rfl (by decide +kernel) rfl rfl (Nat.le_of_ble_eq_true rfl) d_Zo_removeAll_89 (fun H locs hG hS => ?_)
        obtain ⟨G1, eG1⟩ : ∃ z : zg_G, z = zg_up Gv a (.inr (9, [.ref la, .ref tn, .ref st, .ref sd, .int (rc - (nI (zgn t (List.drop mm (oX (oe os i))))))])) := ⟨_, rfl⟩
        have hG : zP E G1 H := by rw [eG1]; exact hG
        have k2 : G1 a = some (.inr (9, [.ref la, .ref tn, .ref st, .ref sd, .int (rc - (nI (zgn t (List.drop mm (oX (oe os i))))))])) := by rw [eG1]; exact zg_up_self _ _ _
        have hZ3 : zZR E G1 ro la dd os8 := by rw [eG1]; exact hZ8.upz kk_a hra hE8
        have hfr3 : zfr ro zKz G ro G1 := hfl.tr (by rw [eG1]; exact zfr.up (by rw [hra]; exact zKz_n (by decide) (by decide)))
        have hm0 := zng_y c15 (by omega)
        rw [hm0, zrm_0] at e8 hoe8
        obtain ⟨hgt4, hnr4, hge4⟩ := zgo_F (d9 := oD (oe os i)) (t := t) hgo hi
        rw [← e8] at hnr4 hge4
        have hC8 : ∀ q, oC (oe os8 q) = oC (oe os q) := fun q => by rw [e8, oC_set hi]
        have hX8 : oX (oe os8 i) = zkf t (oX (oe os i)) := by rw [hoe8]; rfl
        have hA8 : oA (oe os8 i) = oA (oe os i) := by rw [hoe8]; rfl
        have hlk : (zkf t (oX (oe os i))).length ≤ (oX (oe os i)).length := List.length_filter_le _ _
        have htidy := t_Zo_tidy l E G1 a la tn st sd (rc - nI (zgn t (List.drop mm (oX (oe os i))))) k2 ro dd os8 hZ3 hra (by omega) i (by omega) hge4 (by rw [hX8]; omega) (by rw [hX8]; exact h0)
        rw [hA8] at htidy
        refine lv_aload_n hx hb d_Zo_removeAll_92 rfl (lv_at hl 0 rfl) ?_
        refine lv_aload_n hx hb d_Zo_removeAll_93 rfl (lv_at hl 1 rfl) ?_
        have hGo94 := hG
        refine zk_v (va_runV (As := [.ref (oA (oe os i))]) (rest := []) ⟨hx, hb, hml, hown, hts⟩ (htidy) (zcV 1 hts w_980 w_982 wp_13 w_3 w_983 (by decide +kernel) ⟨Nat.le_of_ble_eq_true rfl, Nat.le_of_ble_eq_true rfl⟩) (zc_preV hbase hK hN hQ hG hS k2 rfl) rfl rfl hl.1 rfl (lv_room (Nat.le_of_ble_eq_true rfl)) d_Zo_removeAll_94 ⟨(by decide), (by decide)⟩) hS (fun G94 H locs hp94 hG hS => ?_)
        obtain ⟨os5, hZ5, hfr5, haz5, hgo5, hl5, hp5, hnr5, hgt5, hx5, -, hos5⟩ := hp94
        rw [hm0] at haz5
        have hct5 : zctd os → zctd (zmc os5) := fun h9 => zctd_mc (by
          rcases hos5 trivial with z | ⟨z1, z⟩
          · rw [z, hC8]; exact zctd_0 h9 (by omega)
          · rw [z, oe_dr (by omega), if_pos (h0 (hX8 ▸ z1)), hC8]; exact zctd_0 h9 (by omega))
        have hsa9 : ∀ x t2 q, zsa os x t2 q → ¬ (x = oM (oe os i) ∧ ¬ zkt t t2 = true) → zsa (zmc os5) x t2 q := fun x t2 q h9 hn => by
          have q4 : zsa os8 x t2 q := by
            rw [e8]
            refine zsa_set h9 hi (fun s hs1 e1 e2 => ⟨s, List.mem_filter.mpr ⟨hs1, ?_⟩, e2, rfl⟩)
            rw [e2]; exact Classical.not_not.mp (fun w => hn ⟨e1, w⟩)
          refine zsa_mc ?_
          rcases hos5 trivial with z | ⟨z1, z⟩
          · rw [z]; exact q4
          · rw [z]; exact zsa_dr q4 z1
        have hgt9 : ∀ x t2, zgt (zmc os5) x t2 = if x = oM (oe os i) ∧ ¬ zkt t t2 = true then [] else zgt os x t2 := fun x t2 => by rw [zmc_gt, hgt5, e8, hgt4]
        refine lv_iload_n hx hb d_Zo_removeAll_97 rfl (lv_at hl 3 rfl) ?_
        exact hret _ _ _ _ _ _ _ _ _ hr (rfl) (⟨zmc os5, by rw [hm0]; rfl, hZ5, hfr3.tr hfr5, haz5, zmc_go hgo5, by rw [zmc_len]; omega, by rw [zmc_len]; exact hp5, by rw [zmc_nr]; omega, hgt9, hct5, hsa9⟩) hG hS (Nat.le_refl _) (Nat.le_refl _) d_Zo_removeAll_98
      · have hm1 := zng_n c15
        have hx9 : mm - 1 < (oX (oe os i)).length := by omega
        have es9 : oS (oe os i) (mm - 1) = (oX (oe os i))[mm - 1] := oS_at hx9
        have hat9 : (zrm t (oX (oe os i)) mm)[mm - 1]? = some (oS (oe os i) (mm - 1)) := by have q := zrm_at (t := t) hx9; rw [Nat.sub_add_cancel hm1] at q; rw [q, es9]
        have hS8 := hO8.2.2.2.2 (oS (oe os i) (mm - 1)) (List.mem_of_getElem? hat9)
        obtain ⟨⟨⟨ks8, hsl8⟩, -⟩, -⟩ := id hS8.2.2.1
        rw [List.length_map] at hsl8
        have hgn9 := zgn_dr (t := t) hx9
        rw [← es9, Nat.sub_add_cancel hm1] at hgn9
        have hl : lv_has ls 6 [(0, .ref a), (1, .ref (oA (oe os i))), (2, .int t), (3, .int (nI (zgn t (List.drop mm (oX (oe os i)))))), (4, .int (nI (mm - 1)))] := (show nI mm - 1 = nI (mm - 1) from zi_sub (a := mm) (b := 1) hm1) ▸ hl
        refine lv_aload_n hx hb d_Zo_removeAll_18 rfl (lv_at hl 1 rfl) ?_
        refine zg_get (ci := 4) (C := "ZoneAnswers$Owner") (T := T_Ow) (N := 3) hx hb hts zi_Ow hown hK hG hO8.1 rfl 1 (by decide) (hts _ w_209) (fun _ h9 => h9) rfl d_Zo_removeAll_19 ?_
        refine lv_iload hx hb d_Zo_removeAll_22 (lv_at hl 4 rfl) ?_
        have hGo24 := hG
        refine zk_q (va_runV (As := [.int (nI (mm - 1))]) (rest := []) ⟨hx, hb, hml, hown, hts⟩ (t_AL_get_u l hO8.2.2.2.1.1 (mm - 1) (by rw [List.length_map]; show mm - 1 < (zrm t (oX (oe os i)) mm).length; omega)) (zcV 1 hts w_163 w_164 w_165 w_6 w_166 (by decide +kernel) ⟨Nat.le_of_ble_eq_true rfl, Nat.le_of_ble_eq_true rfl⟩) (zc_preV hbase hK hN hQ hG hS hal8 rfl) rfl rfl hl.1 rfl (lv_room (Nat.le_of_ble_eq_true rfl)) d_Zo_removeAll_24 ⟨(by decide), (by decide)⟩) hS (fun r24 G24 H locs hp24 hG hS => ?_)
        have hG : zP E Gv H := hp24.2 ▸ hG
        refine zr_some (a := sA (oS (oe os i) (mm - 1))) (hp24.1.trans (by rw [List.getElem?_map]; exact congrArg (Option.map sA) hat9)) ?_
        refine zg_castY hx hb hown (hts _ w_999) hK hG hS8.1 rfl (zN.at hN (w := .castable "ZoneAnswers$Rrset" "ZoneAnswers$Rrset") (by decide +kernel)) d_Zo_removeAll_27 ?_
        refine lv_astore (lv' := [(5, .ref (sA (oS (oe os i) (mm - 1)))), (0, .ref a), (1, .ref (oA (oe os i))), (2, .int t), (3, .int (nI (zgn t (List.drop mm (oX (oe os i)))))), (4, .int (nI (mm - 1)))]) hx hb d_Zo_removeAll_30 hl (by decide) rfl (fun ls hl => ?_)
        refine lv_aload hx hb d_Zo_removeAll_32 (lv_at hl 0 rfl) ?_
        refine zg_get (ci := 5) (C := "ZoneAnswers$Rrset") (T := T_Rr) (N := 3) hx hb hts zi_Rr hown hK hG hS8.1 rfl 0 (by decide) (hts _ w_620) (fun _ h9 => h9) rfl d_Zo_removeAll_34 ?_
        refine lv_iload_n hx hb d_Zo_removeAll_37 rfl (lv_at hl 3 rfl) ?_
        refine lv_icmp_eq (tgt := 58) hx hb d_Zo_removeAll_38 (by decide) (fun c38 => ?_) (fun c38 => ?_)
        · have hkt : zkt t (sT (oS (oe os i) (mm - 1))) = false := by unfold zkt; rw [decide_eq_true c38]; rfl
          refine lv_iload_n hx hb d_Zo_removeAll_58 rfl (lv_at hl 4 rfl) ?_
          refine lv_aload hx hb d_Zo_removeAll_59 (lv_at hl 0 rfl) ?_
          refine zk_i (va_runV (As := []) (rest := [.int (nI (zgn t (List.drop mm (oX (oe os i)))))]) ⟨hx, hb, hml, hown, hts⟩ (t_Rr_size l E Gv (sA (oS (oe os i) (mm - 1))) (sT (oS (oe os i) (mm - 1))) (sU (oS (oe os i) (mm - 1))) (sL (oS (oe os i) (mm - 1))) (.ref (sD (oS (oe os i) (mm - 1)))) (nI ((sX (oS (oe os i) (mm - 1))).length)) ks8 hsl8 hS8.1) (zcV 0 hts w_1000 w_933 w_934 w_27 w_935 (by decide +kernel) ⟨Nat.le_of_ble_eq_true rfl, Nat.le_of_ble_eq_true rfl⟩) (zc_preV hbase hK hN hQ hG hS hS8.1 rfl) rfl rfl hl.1 rfl (lv_room (Nat.le_of_ble_eq_true rfl)) d_Zo_removeAll_61 ⟨(by decide), (by decide)⟩) hS (fun r61 G61 H locs hp61 hG hS => ?_)
          have hG : zP E Gv H := hp61.2 ▸ hG
          refine zi_as (y := nI ((sX (oS (oe os i) (mm - 1))).length)) hp61.1 ?_
          refine lv_iadd hx hb d_Zo_removeAll_64 ?_
          refine zi_as (y := nI (zgn t (List.drop (mm - 1) (oX (oe os i))))) (by rw [if_neg (by rw [hkt]; decide)] at hgn9; rw [hgn9]; exact nI_add _ _) ?_
          refine lv_istore_n (lv' := [(3, .int (nI (zgn t (List.drop (mm - 1) (oX (oe os i)))))), (5, .ref (sA (oS (oe os i) (mm - 1)))), (0, .ref a), (1, .ref (oA (oe os i))), (2, .int t), (4, .int (nI (mm - 1)))]) hx hb d_Zo_removeAll_65 rfl hl (by decide) rfl (fun ls hl => ?_)
          refine lv_aload_n hx hb d_Zo_removeAll_66 rfl (lv_at hl 3 rfl) ?_
          refine zg_get (ci := 4) (C := "ZoneAnswers$Owner") (T := T_Ow) (N := 3) hx hb hts zi_Ow hown hK hG hO8.1 rfl 1 (by decide) (hts _ w_209) (fun _ h9 => h9) rfl d_Zo_removeAll_67 ?_
          refine lv_iload hx hb d_Zo_removeAll_70 (lv_at hl 5 rfl) ?_
          have hGo72 := hG
          refine zk_q (va_runV (As := [.int (nI (mm - 1))]) (rest := []) ⟨hx, hb, hml, hown, hts⟩ (t_AL_remove_u l hO8.2.2.2.1.1 hO8.els (mm - 1) (by rw [List.length_map]; show mm - 1 < (zrm t (oX (oe os i)) mm).length; omega)) (zcV 1 hts w_963 w_964 w_965 w_6 w_966 (by decide +kernel) ⟨Nat.le_of_ble_eq_true rfl, Nat.le_of_ble_eq_true rfl⟩) (zc_preV hbase hK hN hQ hG hS hal8 rfl) rfl rfl hl.1 rfl (lv_room (Nat.le_of_ble_eq_true rfl)) d_Zo_removeAll_72 ⟨(by decide), (by decide)⟩) hS (fun r72 G72 H locs hp72 hG hS => ?_)
          have hE1 : G72 (E.2.2.2 0) = none := hQ.out hG
          have hi8 : i < os8.length := by omega
          obtain ⟨hfr1, hZ1⟩ := zZR.delS (si := mm - 1) hZ8 hso8 hi8 hE1 (by rw [hoe8]; exact hp72.2.2) (by rw [hoe8]; exact hp72.2.1)
          have haz1 : G72 a = some (.inr (9, [.ref la, .ref tn, .ref st, .ref sd, .int rc])) := hO8.2.2.2.1.1.keep hE8 hp72.2.2 kk_a (by decide)
          have hrx := zrm_x (t := t) hx9 (by rw [← es9]; exact hkt)
          rw [Nat.sub_add_cancel hm1] at hrx
          have hZ2 : zZR E G72 ro la dd (os.set i (oSetX (oe os i) (oD (oe os i)) (zrm t (oX (oe os i)) (mm - 1)))) := by
            rw [hoe8, e8, List.set_set] at hZ1
            rw [← hrx]; exact hZ1
          refine zr_some (a := _) hp72.1 ?_
          refine lv_pop hx hb d_Zo_removeAll_75 rfl ?_
          refine lv_iinc (v := nI (mm - 1) - 1) (lv' := [(4, .int (nI (mm - 1) - 1)), (3, .int (nI (zgn t (List.drop (mm - 1) (oX (oe os i)))))), (5, .ref (sA (oS (oe os i) (mm - 1)))), (0, .ref a), (1, .ref (oA (oe os i))), (2, .int t)]) hx hb d_Zo_removeAll_76 hl (k := 5) rfl (by rw [Int32.sub_eq_add_neg]; rfl) (by decide) rfl (fun ls hl => ?_)
          refine lv_goto (tgt := 13) hx hb d_Zo_removeAll_79 (by decide) ?_
          exact ih G72 (mm - 1) _ _ (by omega) (by omega) (hZ2) (hfl.tr hfr1) (haz1) hG hS ls (lv_sub hl [3, 4, 5, 1, 0] rfl)
        · refine lv_iload_n hx hb d_Zo_removeAll_41 rfl (lv_at hl 3 rfl) ?_
          refine lv_sipush (v := 255) hx hb d_Zo_removeAll_42 (by decide) ?_
          refine lv_icmp_ne (tgt := 76) hx hb d_Zo_removeAll_45 (by decide) (fun c45 => ?_) (fun c45 => ?_)
          · have hkt : zkt t (sT (oS (oe os i) (mm - 1))) = true := by unfold zkt; rw [decide_eq_false c38, decide_eq_false c45]; rfl
            refine lv_iinc (v := nI (mm - 1) - 1) (lv' := [(4, .int (nI (mm - 1) - 1)), (5, .ref (sA (oS (oe os i) (mm - 1)))), (0, .ref a), (1, .ref (oA (oe os i))), (2, .int t), (3, .int (nI (zgn t (List.drop mm (oX (oe os i))))))]) hx hb d_Zo_removeAll_76 hl (k := 5) rfl (by rw [Int32.sub_eq_add_neg]; rfl) (by decide) rfl (fun ls hl => ?_)
            refine lv_goto (tgt := 13) hx hb d_Zo_removeAll_79 (by decide) ?_
            rw [if_pos hkt, Nat.add_zero] at hgn9; rw [← hgn9] at hl
            have hZ2 : zZR E Gv ro la dd (os.set i (oSetX (oe os i) (oD (oe os i)) (zrm t (oX (oe os i)) (mm - 1)))) := by have q := zrm_y (t := t) hx9 (by rw [← es9]; exact hkt); rw [Nat.sub_add_cancel hm1] at q; rw [q, ← e8]; exact hZ8
            exact ih Gv (mm - 1) _ _ (by omega) (by omega) (hZ2) (hfl) (kk_a) hG hS ls (lv_sub hl [2, 3, 4, 5, 0] rfl)
          · refine lv_aload hx hb d_Zo_removeAll_48 (lv_at hl 0 rfl) ?_
            refine zg_get (ci := 5) (C := "ZoneAnswers$Rrset") (T := T_Rr) (N := 3) hx hb hts zi_Rr hown hK hG hS8.1 rfl 0 (by decide) (hts _ w_620) (fun _ h9 => h9) rfl d_Zo_removeAll_50 ?_
            refine lv_bipush (v := 6) hx hb d_Zo_removeAll_53 (by decide) ?_
            refine lv_icmp_eq (tgt := 76) hx hb d_Zo_removeAll_55 (by decide) (fun c55 => ?_) (fun c55 => ?_)
            · have hkt : zkt t (sT (oS (oe os i) (mm - 1))) = true := by unfold zkt; rw [decide_eq_false c38, decide_eq_true c55]; simp
              refine lv_iinc (v := nI (mm - 1) - 1) (lv' := [(4, .int (nI (mm - 1) - 1)), (5, .ref (sA (oS (oe os i) (mm - 1)))), (0, .ref a), (1, .ref (oA (oe os i))), (2, .int t), (3, .int (nI (zgn t (List.drop mm (oX (oe os i))))))]) hx hb d_Zo_removeAll_76 hl (k := 5) rfl (by rw [Int32.sub_eq_add_neg]; rfl) (by decide) rfl (fun ls hl => ?_)
              refine lv_goto (tgt := 13) hx hb d_Zo_removeAll_79 (by decide) ?_
              rw [if_pos hkt, Nat.add_zero] at hgn9; rw [← hgn9] at hl
              have hZ2 : zZR E Gv ro la dd (os.set i (oSetX (oe os i) (oD (oe os i)) (zrm t (oX (oe os i)) (mm - 1)))) := by have q := zrm_y (t := t) hx9 (by rw [← es9]; exact hkt); rw [Nat.sub_add_cancel hm1] at q; rw [q, ← e8]; exact hZ8
              exact ih Gv (mm - 1) _ _ (by omega) (by omega) (hZ2) (hfl) (kk_a) hG hS ls (lv_sub hl [2, 3, 4, 5, 0] rfl)
            · have hkt : zkt t (sT (oS (oe os i) (mm - 1))) = false := by unfold zkt; rw [decide_eq_true c45, decide_eq_false c55]; simp
              refine lv_iload_n hx hb d_Zo_removeAll_58 rfl (lv_at hl 4 rfl) ?_
              refine lv_aload hx hb d_Zo_removeAll_59 (lv_at hl 0 rfl) ?_
              refine zk_i (va_runV (As := []) (rest := [.int (nI (zgn t (List.drop mm (oX (oe os i)))))]) ⟨hx, hb, hml, hown, hts⟩ (t_Rr_size l E Gv (sA (oS (oe os i) (mm - 1))) (sT (oS (oe os i) (mm - 1))) (sU (oS (oe os i) (mm - 1))) (sL (oS (oe os i) (mm - 1))) (.ref (sD (oS (oe os i) (mm - 1)))) (nI ((sX (oS (oe os i) (mm - 1))).length)) ks8 hsl8 hS8.1) (zcV 0 hts w_1000 w_933 w_934 w_27 w_935 (by decide +kernel) ⟨Nat.le_of_ble_eq_true rfl, Nat.le_of_ble_eq_true rfl⟩) (zc_preV hbase hK hN hQ hG hS hS8.1 rfl) rfl rfl hl.1 rfl (lv_room (Nat.le_of_ble_eq_true rfl)) d_Zo_removeAll_61 ⟨(by decide), (by decide)⟩) hS (fun r61 G61 H locs hp61 hG hS => ?_)
              have hG : zP E Gv H := hp61.2 ▸ hG
              refine zi_as (y := nI ((sX (oS (oe os i) (mm - 1))).length)) hp61.1 ?_
              refine lv_iadd hx hb d_Zo_removeAll_64 ?_
              refine zi_as (y := nI (zgn t (List.drop (mm - 1) (oX (oe os i))))) (by rw [if_neg (by rw [hkt]; decide)] at hgn9; rw [hgn9]; exact nI_add _ _) ?_
              refine lv_istore_n (lv' := [(3, .int (nI (zgn t (List.drop (mm - 1) (oX (oe os i)))))), (5, .ref (sA (oS (oe os i) (mm - 1)))), (0, .ref a), (1, .ref (oA (oe os i))), (2, .int t), (4, .int (nI (mm - 1)))]) hx hb d_Zo_removeAll_65 rfl hl (by decide) rfl (fun ls hl => ?_)
              refine lv_aload_n hx hb d_Zo_removeAll_66 rfl (lv_at hl 3 rfl) ?_
              refine zg_get (ci := 4) (C := "ZoneAnswers$Owner") (T := T_Ow) (N := 3) hx hb hts zi_Ow hown hK hG hO8.1 rfl 1 (by decide) (hts _ w_209) (fun _ h9 => h9) rfl d_Zo_removeAll_67 ?_
              refine lv_iload hx hb d_Zo_removeAll_70 (lv_at hl 5 rfl) ?_
              have hGo72 := hG
              refine zk_q (va_runV (As := [.int (nI (mm - 1))]) (rest := []) ⟨hx, hb, hml, hown, hts⟩ (t_AL_remove_u l hO8.2.2.2.1.1 hO8.els (mm - 1) (by rw [List.length_map]; show mm - 1 < (zrm t (oX (oe os i)) mm).length; omega)) (zcV 1 hts w_963 w_964 w_965 w_6 w_966 (by decide +kernel) ⟨Nat.le_of_ble_eq_true rfl, Nat.le_of_ble_eq_true rfl⟩) (zc_preV hbase hK hN hQ hG hS hal8 rfl) rfl rfl hl.1 rfl (lv_room (Nat.le_of_ble_eq_true rfl)) d_Zo_removeAll_72 ⟨(by decide), (by decide)⟩) hS (fun r72 G72 H locs hp72 hG hS => ?_)
              have hE1 : G72 (E.2.2.2 0) = none := hQ.out hG
              have hi8 : i < os8.length := by omega
              obtain ⟨hfr1, hZ1⟩ := zZR.delS (si := mm - 1) hZ8 hso8 hi8 hE1 (by rw [hoe8]; exact hp72.2.2) (by rw [hoe8]; exact hp72.2.1)
              have haz1 : G72 a = some (.inr (9, [.ref la, .ref tn, .ref st, .ref sd, .int rc])) := hO8.2.2.2.1.1.keep hE8 hp72.2.2 kk_a (by decide)
              have hrx := zrm_x (t := t) hx9 (by rw [← es9]; exact hkt)
              rw [Nat.sub_add_cancel hm1] at hrx
              have hZ2 : zZR E G72 ro la dd (os.set i (oSetX (oe os i) (oD (oe os i)) (zrm t (oX (oe os i)) (mm - 1)))) := by
                rw [hoe8, e8, List.set_set] at hZ1
                rw [← hrx]; exact hZ1
              refine zr_some (a := _) hp72.1 ?_
              refine lv_pop hx hb d_Zo_removeAll_75 rfl ?_
              refine lv_iinc (v := nI (mm - 1) - 1) (lv' := [(4, .int (nI (mm - 1) - 1)), (3, .int (nI (zgn t (List.drop (mm - 1) (oX (oe os i)))))), (5, .ref (sA (oS (oe os i) (mm - 1)))), (0, .ref a), (1, .ref (oA (oe os i))), (2, .int t)]) hx hb d_Zo_removeAll_76 hl (k := 5) rfl (by rw [Int32.sub_eq_add_neg]; rfl) (by decide) rfl (fun ls hl => ?_)
              refine lv_goto (tgt := 13) hx hb d_Zo_removeAll_79 (by decide) ?_
              exact ih G72 (mm - 1) _ _ (by omega) (by omega) (hZ2) (hfl.tr hfr1) (haz1) hG hS ls (lv_sub hl [3, 4, 5, 1, 0] rfl)
  exact loop13 _ G ((oX (oe os i)).length) _ _ (Nat.lt_succ_self _) (Nat.le_refl _) (by rw [zrm_n, show oSetX (oe os i) (oD (oe os i)) (oX (oe os i)) = os[i] from oe_at hi, List.set_getElem_self]; exact hZR) (zfr.rf) (ha) hG hS ls (lv_sub hl [2, 3, 4, 1, 0] rfl)
