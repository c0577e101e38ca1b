
abbrev rm_Zo_markCuts : Room := { frames := 4, cells := 0, slots := 0, locals := 110 }
set_option maxHeartbeats 4000000 in
set_option maxRecDepth 100000 in
/-- Zone.markCuts() -/
theorem t_Zo_markCuts (l : Launch) (E : zc_E) (G : zg_G) (a la tn st sd : Nat) (rc : Int32) (ha : G a = some (.inr (9, [.ref la, .ref tn, .ref st, .ref sd, .int rc]))) (ro : zRo) (dd : Nat) (os : List zOt) (hZR : zZR E G ro la dd os) (hne : 0 < os.length) (hol : os.length ≤ 2000) (hso : zso os) (hse : ∀ o ∈ os, 0 < (oX o).length) : zMv l E y_Zo_markCuts c_Zo_markCuts 4 rm_Zo_markCuts [.ref a] G (fun (G2 : zg_G) => zZR E G2 ro la dd (zmc os) ∧ zx (fun q => ∃ j, j < os.length ∧ q = oA (oe os j)) G G2) := by
  refine zMv.of (by decide) (Nat.le_of_ble_eq_true rfl) ?_
  intro p e s m args below meth c Q hZ hG hret ls hl
  obtain ⟨hx, hb, hr, hts, hown, hlocks, hml, hnm, hbase, hK, hN, hQ⟩ := hZ
  have hl : lv_has ls 4 [(0, .ref a)] := hl
  have hS : zg_S (zc_b E) s.heap s.heap [] := va_S.rf
  have hE00 := hQ.out hG
  have hx0 : zx (fun q => ∃ j, j < os.length ∧ q = oA (oe os j)) G G := zx.rf
  refine lv_null hx hb d_Zo_markCuts_0 ?_
  refine lv_astore_nN (lv' := [(1, .null), (0, .ref a)]) hx hb d_Zo_markCuts_1 rfl hl (by decide) rfl (fun ls hl => ?_)
  refine lv_iconst (v := 1) hx hb d_Zo_markCuts_2 (by decide) ?_
  refine zi_as (y := nI 1) (by decide) ?_
  refine lv_istore_n (lv' := [(2, .int (nI 1)), (1, .null), (0, .ref a)]) hx hb d_Zo_markCuts_3 rfl hl (by decide) rfl (fun ls hl => ?_)
  have loop4 : ∀ (N : Nat) (Gv : zg_G) (i : Nat) (cv : Option Nat) (H : Heap) (locs : List Loc), (os.length - i) < N → (i ≤ os.length) → (1 ≤ i) → (cv = zca os i) → (zZR E Gv ro la dd (zmi os i)) → (Gv a = some (.inr (9, [.ref la, .ref tn, .ref st, .ref sd, .int rc]))) → (zx (fun q => ∃ j, j < os.length ∧ q = oA (oe os j)) G Gv) → zP E Gv H → zg_S (zc_b E) s.heap H locs → ∀ (ls : Array Slot), lv_has ls 4 [(0, .ref a), (1, va_rf cv), (2, .int (nI i))] → W p l e rm_Zo_markCuts s m args below meth c H locs 0 0 Q (F0 m 4 ls []) := by
    intro N
    induction N with
    | zero =>
      intro Gv i cv H locs hlt
      exact absurd hlt (Nat.not_lt_zero _)
    | succ N ih =>
      intro Gv i cv H locs hlt hi hi1 hcv hZ8 kk_a hxl hG hS ls hl
      obtain ⟨os8, e8⟩ : ∃ z, z = zmi os i := ⟨_, rfl⟩
      rw [← e8] at hZ8
      have hln8 : os8.length = os.length := by rw [e8]; exact zmi_len _ _
      have hA8 : ∀ j, j < os.length → oA (oe os8 j) = oA (oe os j) := fun j hj => by rw [e8]; exact (zmi_o hj).1
      have hM8 : ∀ j, j < os.length → oM (oe os8 j) = oM (oe os j) := fun j hj => by rw [e8]; exact (zmi_o hj).2.2.1
      have hX8 : ∀ j, j < os.length → oX (oe os8 j) = oX (oe os j) := fun j hj => by rw [e8]; exact (zmi_o hj).2.2.2.2.2
      have hso8 : zso os8 := by rw [e8]; exact zmi_so hso
      obtain ⟨k9x, cap8, f8, hla8, hd8, h08, hc8, hz8, hf8⟩ := hZ8.1.1.un2 (by rw [List.length_map, hln8]; exact hne)
      rw [List.length_map] at hla8 hc8
      rcases cv with _ | cq
      · have hnk : ∀ k, zcs os i = some k → ¬ oM (oe os k) <:+ oM (oe os i) := fun k hk => by unfold zca at hcv; rw [hk] at hcv; cases hcv
        have hl : lv_has ls 4 [(0, .ref a), (1, .null), (2, .int (nI i))] := hl
        refine lv_iload_n hx hb d_Zo_markCuts_4 rfl (lv_at hl 2 rfl) ?_
        refine lv_aload_n hx hb d_Zo_markCuts_5 rfl (lv_at hl 0 rfl) ?_
        refine zg_get (ci := 9) (C := "ZoneAnswers$Zone") (T := T_Zo) (N := 5) hx hb hts zi_Zo hown hK hG kk_a rfl 0 (by decide) (hts _ w_91) (fun _ h9 => h9) rfl d_Zo_markCuts_6 ?_
        refine zk_i (va_runV (As := []) (rest := [.int (nI i)]) ⟨hx, hb, hml, hown, hts⟩ (t_AL_size l E Gv la (.ref dd) (nI os8.length) k9x hla8) (zcV 0 hts w_159 w_160 w_161 w_6 w_162 (by decide +kernel) ⟨Nat.le_of_ble_eq_true rfl, Nat.le_of_ble_eq_true rfl⟩) (zc_preV hbase hK hN hQ hG hS hla8 rfl) rfl rfl hl.1 rfl (lv_room (Nat.le_of_ble_eq_true rfl)) d_Zo_markCuts_9 ⟨(by decide), (by decide)⟩) hS (fun r9 G9 H locs hp9 hG hS => ?_)
        have hG : zP E Gv H := hp9.2 ▸ hG
        refine zi_as (y := nI os8.length) hp9.1 ?_
        refine lv_icmp_ge (tgt := 70) hx hb d_Zo_markCuts_12 (by decide) (fun c12 => ?_) (fun c12 => ?_)
        · have b12 : os8.length ≤ i := (nI_leI (a := os8.length) (b := i) (by omega) (by omega)).mp c12
          exact hret _ _ _ _ _ _ _ (⟨by unfold zmc; rw [← show i = os.length by omega, ← e8]; exact hZ8, hxl⟩) hG hS (Nat.le_refl _) (Nat.le_refl _) d_Zo_markCuts_70
        · have b12 : ¬ os8.length ≤ i := fun q => c12 ((nI_leI (a := os8.length) (b := i) (by omega) (by omega)).mpr q)
          have hin : i < os8.length := by omega
          obtain ⟨ho1, ho2, ⟨bt, ft, ho3, ho4, ho5, ho6, ho7, ho8, ho9⟩, ⟨⟨⟨kl9, ho10⟩, -⟩, -⟩, -⟩ := hZ8.2 _ (oe_mem hin)
          rw [List.length_map] at ho10
          have hcn := ho6.count
          refine lv_aload_n hx hb d_Zo_markCuts_15 rfl (lv_at hl 0 rfl) ?_
          refine zg_get (ci := 9) (C := "ZoneAnswers$Zone") (T := T_Zo) (N := 5) hx hb hts zi_Zo hown hK hG kk_a rfl 0 (by decide) (hts _ w_91) (fun _ h9 => h9) rfl d_Zo_markCuts_16 ?_
          refine lv_iload_n hx hb d_Zo_markCuts_19 rfl (lv_at hl 2 rfl) ?_
          have hGo20 := hG
          refine zk_q (va_runV (As := [.int (nI i)]) (rest := []) ⟨hx, hb, hml, hown, hts⟩ (t_AL_get l E Gv la dd os8.length cap8 k9x f8 hla8 hd8 hc8 (by omega) i hin) (zcV 1 hts w_163 w_164 w_165 w_6 w_166 (by decide +kernel) ⟨Nat.le_of_ble_eq_true rfl, Nat.le_of_ble_eq_true rfl⟩) (zc_preV hbase hK hN hQ hG hS hla8 rfl) rfl rfl hl.1 rfl (lv_room (Nat.le_of_ble_eq_true rfl)) d_Zo_markCuts_20 ⟨(by decide), (by decide)⟩) hS (fun r20 G20 H locs hp20 hG hS => ?_)
          have hG : zP E Gv H := hp20.2 ▸ hG
          refine zr_some (a := oA (oe os8 i)) (hp20.1.trans ((hf8 i).trans (oe_m hin))) ?_
          refine zg_castY hx hb hown (hts _ w_177) hK hG ho1 rfl (zN.at hN (w := .castable "ZoneAnswers$Owner" "ZoneAnswers$Owner") (by decide +kernel)) d_Zo_markCuts_23 ?_
          refine lv_astore_n (lv' := [(3, .ref (oA (oe os8 i))), (0, .ref a), (1, .null), (2, .int (nI i))]) hx hb d_Zo_markCuts_26 rfl hl (by decide) rfl (fun ls hl => ?_)
          refine lv_aload_nN hx hb d_Zo_markCuts_27 rfl (lv_at hl 2 rfl) ?_
          refine lv_ifnullN (tgt := 45) hx hb d_Zo_markCuts_28 (by decide) ?_
          refine lv_aload_n hx hb d_Zo_markCuts_45 rfl (lv_at hl 0 rfl) ?_
          refine lv_iconst (v := 2) hx hb d_Zo_markCuts_46 (by decide) ?_
          have hGo47 := hG
          refine zk_q (va_runV (As := [.int 2]) (rest := []) ⟨hx, hb, hml, hown, hts⟩ (t_Ow_find_t l (hZ8.2 _ (oe_mem hin)) (by rw [hX8 i (by omega)]; exact hse _ (oe_mem (by omega))) 2) (zcV 1 hts w_653 w_654 w_655 w_12 w_656 (by decide +kernel) ⟨Nat.le_of_ble_eq_true rfl, Nat.le_of_ble_eq_true rfl⟩) (zc_preV hbase hK hN hQ hG hS ho1 rfl) rfl rfl hl.1 rfl (lv_room (Nat.le_of_ble_eq_true rfl)) d_Zo_markCuts_47 ⟨(by decide), (by decide)⟩) hS (fun r47 G47 H locs hp47 hG hS => ?_)
          rcases hp47 with ⟨⟨j9, hj1, hj2, hj3, er47⟩ | ⟨hj, er47⟩, eg47⟩
          · have hG : zP E Gv H := eg47 ▸ hG
            refine zr_some (a := sA (oS (oe os8 i) j9)) er47 ?_
            have hhT : zhT (oe os i) 2 := ⟨j9, by rw [← hX8 i (by omega)]; exact hj1, by rw [← hj2]; unfold oS; rw [hX8 i (by omega)]⟩
            refine lv_ifnull hx hb d_Zo_markCuts_50 ?_
            refine lv_aload_n hx hb d_Zo_markCuts_53 rfl (lv_at hl 0 rfl) ?_
            refine lv_goto (tgt := 58) hx hb d_Zo_markCuts_54 (by decide) ?_
            refine lv_astore_n (lv' := [(1, .ref (oA (oe os8 i))), (3, .ref (oA (oe os8 i))), (0, .ref a), (2, .int (nI i))]) hx hb d_Zo_markCuts_58 rfl hl (by decide) rfl (fun ls hl => ?_)
            refine lv_aload_n hx hb d_Zo_markCuts_59 rfl (lv_at hl 1 rfl) ?_
            refine lv_aload_n hx hb d_Zo_markCuts_60 rfl (lv_at hl 0 rfl) ?_
            have hE8 := hQ.out hG
            refine zg_put (ci := 4) (v := .ref (oA (oe os8 i))) (ty := .object "ZoneAnswers$Owner") (C := "ZoneAnswers$Owner") (T := T_Ow) (N := 3) hx hb hts zi_Ow t_Ow t_Ow_ok n_Ow hown hK hG hS ho1 rfl 2 (by decide) (hts _ w_212) (fun _ h9 => h9) rfl (by decide +kernel) rfl rfl (Nat.le_of_ble_eq_true rfl) d_Zo_markCuts_61 (fun H locs hG hS => ?_)
            obtain ⟨G1, eG1⟩ : ∃ z : zg_G, z = zg_up Gv (oA (oe os8 i)) (.inr (4, [.ref (oN (oe os8 i)), .ref (oL (oe os8 i)), .ref (oA (oe os8 i))])) := ⟨_, rfl⟩
            have hG : zP E G1 H := by rw [eG1]; exact hG
            have hx2 : zx (fun q => ∃ j, j < os.length ∧ q = oA (oe os j)) G G1 := hxl.tr (by rw [eG1]; exact zx.up (⟨i, by omega, hA8 i (by omega)⟩))
            have k3 : G1 a = some (.inr (9, [.ref la, .ref tn, .ref st, .ref sd, .int rc])) := by rw [eG1, zg_up_ne (zg_ne kk_a ho1 (by intro h; simp at h))]; exact kk_a
            have k4 : G1 (oA (oe os8 i)) = some (.inr (4, [.ref (oN (oe os8 i)), .ref (oL (oe os8 i)), .ref (oA (oe os8 i))])) := by rw [eG1]; exact zg_up_self _ _ _
            refine lv_iinc (v := nI (i + 1)) (lv' := [(2, .int (nI (i + 1))), (1, .ref (oA (oe os8 i))), (3, .ref (oA (oe os8 i))), (0, .ref a)]) hx hb d_Zo_markCuts_64 hl (k := 3) rfl (nI_add i 1) (by decide) rfl (fun ls hl => ?_)
            refine lv_goto (tgt := 4) hx hb d_Zo_markCuts_67 (by decide) ?_
            have hnx : zca os (i + 1) = some (oA (oe os8 i)) := by unfold zca; rw [zcs_w hi1 hnk, zcw_y hhT, hA8 i (by omega)]; rfl
            exact ih G1 (i + 1) (some (oA (oe os8 i))) _ _ (by omega) (by omega) (by omega) (hnx.symm) (by rw [zmi_s hi1 (by omega), hnx, ← e8, eG1]; exact zZR.cut hZ8 hso8 (by exact hE8) (by omega) (some (oA (oe os8 i)))) (k3) (hx2) hG hS ls (lv_sub hl [3, 1, 0] rfl)
          · have hG : zP E Gv H := eg47 ▸ hG
            refine zr_none er47 ?_
            have hhT : ¬ zhT (oe os i) 2 := fun ⟨j, q1, q2⟩ => hj j (by rw [hX8 i (by omega)]; exact q1) (by rw [← q2]; unfold oS; rw [hX8 i (by omega)])
            refine lv_ifnullN (tgt := 57) hx hb d_Zo_markCuts_50 (by decide) ?_
            refine lv_null hx hb d_Zo_markCuts_57 ?_
            refine lv_astore_nN (lv' := [(1, .null), (3, .ref (oA (oe os8 i))), (0, .ref a), (2, .int (nI i))]) hx hb d_Zo_markCuts_58 rfl hl (by decide) rfl (fun ls hl => ?_)
            refine lv_aload_n hx hb d_Zo_markCuts_59 rfl (lv_at hl 1 rfl) ?_
            refine lv_aload_nN hx hb d_Zo_markCuts_60 rfl (lv_at hl 0 rfl) ?_
            have hE8 := hQ.out hG
            refine zg_put (ci := 4) (v := .null) (ty := .object "ZoneAnswers$Owner") (C := "ZoneAnswers$Owner") (T := T_Ow) (N := 3) hx hb hts zi_Ow t_Ow t_Ow_ok n_Ow hown hK hG hS ho1 rfl 2 (by decide) (hts _ w_212) (fun _ h9 => h9) rfl (by decide +kernel) rfl rfl (Nat.le_of_ble_eq_true rfl) d_Zo_markCuts_61 (fun H locs hG hS => ?_)
            obtain ⟨G5, eG5⟩ : ∃ z : zg_G, z = zg_up Gv (oA (oe os8 i)) (.inr (4, [.ref (oN (oe os8 i)), .ref (oL (oe os8 i)), .null])) := ⟨_, rfl⟩
            have hG : zP E G5 H := by rw [eG5]; exact hG
            have hx6 : zx (fun q => ∃ j, j < os.length ∧ q = oA (oe os j)) G G5 := hxl.tr (by rw [eG5]; exact zx.up (⟨i, by omega, hA8 i (by omega)⟩))
            have k7 : G5 a = some (.inr (9, [.ref la, .ref tn, .ref st, .ref sd, .int rc])) := by rw [eG5, zg_up_ne (zg_ne kk_a ho1 (by intro h; simp at h))]; exact kk_a
            have k8 : G5 (oA (oe os8 i)) = some (.inr (4, [.ref (oN (oe os8 i)), .ref (oL (oe os8 i)), .null])) := by rw [eG5]; exact zg_up_self _ _ _
            refine lv_iinc (v := nI (i + 1)) (lv' := [(2, .int (nI (i + 1))), (1, .null), (3, .ref (oA (oe os8 i))), (0, .ref a)]) hx hb d_Zo_markCuts_64 hl (k := 3) rfl (nI_add i 1) (by decide) rfl (fun ls hl => ?_)
            refine lv_goto (tgt := 4) hx hb d_Zo_markCuts_67 (by decide) ?_
            have hnx : zca os (i + 1) = none := by unfold zca; rw [zcs_w hi1 hnk, zcw_n hhT]; rfl
            exact ih G5 (i + 1) none _ _ (by omega) (by omega) (by omega) (hnx.symm) (by rw [zmi_s hi1 (by omega), hnx, ← e8, eG5]; exact zZR.cut hZ8 hso8 (by exact hE8) (by omega) none) (k7) (hx6) hG hS ls (lv_sub hl [3, 1, 0] rfl)
      · obtain ⟨k9, hk9, e9⟩ : ∃ k, zcs os i = some k ∧ cq = oA (oe os k) := by
          unfold zca at hcv
          cases hz : zcs os i with
          | none => rw [hz] at hcv; cases hcv
          | some k => rw [hz] at hcv; exact ⟨k, rfl, Option.some.inj hcv⟩
        have hk9i := zcs_lt hk9
        rw [← hA8 k9 (by omega)] at e9
        subst e9
        have hinc : k9 < os8.length := by omega
        obtain ⟨ho1c, ho2c, ⟨btc, ftc, ho3c, ho4c, ho5c, ho6c, ho7c, ho8c, ho9c⟩, ⟨⟨⟨kl9c, ho10c⟩, -⟩, -⟩, -⟩ := hZ8.2 _ (oe_mem hinc)
        rw [List.length_map] at ho10c
        have hcnc := ho6c.count
        have hl : lv_has ls 4 [(0, .ref a), (1, .ref (oA (oe os8 k9))), (2, .int (nI i))] := hl
        refine lv_iload_n hx hb d_Zo_markCuts_4 rfl (lv_at hl 2 rfl) ?_
        refine lv_aload_n hx hb d_Zo_markCuts_5 rfl (lv_at hl 0 rfl) ?_
        refine zg_get (ci := 9) (C := "ZoneAnswers$Zone") (T := T_Zo) (N := 5) hx hb hts zi_Zo hown hK hG kk_a rfl 0 (by decide) (hts _ w_91) (fun _ h9 => h9) rfl d_Zo_markCuts_6 ?_
        refine zk_i (va_runV (As := []) (rest := [.int (nI i)]) ⟨hx, hb, hml, hown, hts⟩ (t_AL_size l E Gv la (.ref dd) (nI os8.length) k9x hla8) (zcV 0 hts w_159 w_160 w_161 w_6 w_162 (by decide +kernel) ⟨Nat.le_of_ble_eq_true rfl, Nat.le_of_ble_eq_true rfl⟩) (zc_preV hbase hK hN hQ hG hS hla8 rfl) rfl rfl hl.1 rfl (lv_room (Nat.le_of_ble_eq_true rfl)) d_Zo_markCuts_9 ⟨(by decide), (by decide)⟩) hS (fun r9 G9 H locs hp9 hG hS => ?_)
        have hG : zP E Gv H := hp9.2 ▸ hG
        refine zi_as (y := nI os8.length) hp9.1 ?_
        refine lv_icmp_ge (tgt := 70) hx hb d_Zo_markCuts_12 (by decide) (fun c12 => ?_) (fun c12 => ?_)
        · have b12 : os8.length ≤ i := (nI_leI (a := os8.length) (b := i) (by omega) (by omega)).mp c12
          exact hret _ _ _ _ _ _ _ (⟨by unfold zmc; rw [← show i = os.length by omega, ← e8]; exact hZ8, hxl⟩) hG hS (Nat.le_refl _) (Nat.le_refl _) d_Zo_markCuts_70
        · have b12 : ¬ os8.length ≤ i := fun q => c12 ((nI_leI (a := os8.length) (b := i) (by omega) (by omega)).mpr q)
          have hin : i < os8.length := by omega
          obtain ⟨ho1, ho2, ⟨bt, ft, ho3, ho4, ho5, ho6, ho7, ho8, ho9⟩, ⟨⟨⟨kl9, ho10⟩, -⟩, -⟩, -⟩ := hZ8.2 _ (oe_mem hin)
          rw [List.length_map] at ho10
          have hcn := ho6.count
          refine lv_aload_n hx hb d_Zo_markCuts_15 rfl (lv_at hl 0 rfl) ?_
          refine zg_get (ci := 9) (C := "ZoneAnswers$Zone") (T := T_Zo) (N := 5) hx hb hts zi_Zo hown hK hG kk_a rfl 0 (by decide) (hts _ w_91) (fun _ h9 => h9) rfl d_Zo_markCuts_16 ?_
          refine lv_iload_n hx hb d_Zo_markCuts_19 rfl (lv_at hl 2 rfl) ?_
          have hGo20 := hG
          refine zk_q (va_runV (As := [.int (nI i)]) (rest := []) ⟨hx, hb, hml, hown, hts⟩ (t_AL_get l E Gv la dd os8.length cap8 k9x f8 hla8 hd8 hc8 (by omega) i hin) (zcV 1 hts w_163 w_164 w_165 w_6 w_166 (by decide +kernel) ⟨Nat.le_of_ble_eq_true rfl, Nat.le_of_ble_eq_true rfl⟩) (zc_preV hbase hK hN hQ hG hS hla8 rfl) rfl rfl hl.1 rfl (lv_room (Nat.le_of_ble_eq_true rfl)) d_Zo_markCuts_20 ⟨(by decide), (by decide)⟩) hS (fun r20 G20 H locs hp20 hG hS => ?_)
          have hG : zP E Gv H := hp20.2 ▸ hG
          refine zr_some (a := oA (oe os8 i)) (hp20.1.trans ((hf8 i).trans (oe_m hin))) ?_
          refine zg_castY hx hb hown (hts _ w_177) hK hG ho1 rfl (zN.at hN (w := .castable "ZoneAnswers$Owner" "ZoneAnswers$Owner") (by decide +kernel)) d_Zo_markCuts_23 ?_
          refine lv_astore_n (lv' := [(3, .ref (oA (oe os8 i))), (0, .ref a), (1, .ref (oA (oe os8 k9))), (2, .int (nI i))]) hx hb d_Zo_markCuts_26 rfl hl (by decide) rfl (fun ls hl => ?_)
          refine lv_aload_n hx hb d_Zo_markCuts_27 rfl (lv_at hl 2 rfl) ?_
          refine lv_ifnull hx hb d_Zo_markCuts_28 ?_
          refine lv_aload_n hx hb d_Zo_markCuts_31 rfl (lv_at hl 0 rfl) ?_
          refine zg_get (ci := 4) (C := "ZoneAnswers$Owner") (T := T_Ow) (N := 3) hx hb hts zi_Ow hown hK hG ho1 rfl 0 (by decide) (hts _ w_206) (fun _ h9 => h9) rfl d_Zo_markCuts_32 ?_
          refine lv_aload_n hx hb d_Zo_markCuts_35 rfl (lv_at hl 2 rfl) ?_
          refine zg_get (ci := 4) (C := "ZoneAnswers$Owner") (T := T_Ow) (N := 3) hx hb hts zi_Ow hown hK hG ho1c rfl 0 (by decide) (hts _ w_206) (fun _ h9 => h9) rfl d_Zo_markCuts_36 ?_
          refine zk_i (va_runV (As := [.ref (oN (oe os8 k9))]) (rest := []) ⟨hx, hb, hml, hown, hts⟩ (t_Na_isAtOrBelow l E Gv (oN (oe os8 i)) bt (oM (oe os8 i)) ft ho3 ho4 ho5 ho6 (oN (oe os8 k9)) btc (oM (oe os8 k9)) ftc ho3c ho4c ho5c ho6c) (zcV 1 hts w_649 w_650 w_651 w_7 w_652 (by decide +kernel) ⟨Nat.le_of_ble_eq_true rfl, Nat.le_of_ble_eq_true rfl⟩) (zc_preV hbase hK hN hQ hG hS ho3 rfl) rfl rfl hl.1 rfl (lv_room (Nat.le_of_ble_eq_true rfl)) d_Zo_markCuts_39 ⟨(by decide), (by decide)⟩) hS (fun r39 G39 H locs hp39 hG hS => ?_)
          have hG : zP E Gv H := hp39.2 ▸ hG
          refine lv_if_ne (tgt := 59) hx hb d_Zo_markCuts_42 (by decide) (fun c42 => ?_) (fun c42 => ?_)
          · refine lv_aload_n hx hb d_Zo_markCuts_59 rfl (lv_at hl 0 rfl) ?_
            refine lv_aload_n hx hb d_Zo_markCuts_60 rfl (lv_at hl 2 rfl) ?_
            have hE8 := hQ.out hG
            refine zg_put (ci := 4) (v := .ref (oA (oe os8 k9))) (ty := .object "ZoneAnswers$Owner") (C := "ZoneAnswers$Owner") (T := T_Ow) (N := 3) hx hb hts zi_Ow t_Ow t_Ow_ok n_Ow hown hK hG hS ho1 rfl 2 (by decide) (hts _ w_212) (fun _ h9 => h9) rfl (by decide +kernel) rfl rfl (Nat.le_of_ble_eq_true rfl) d_Zo_markCuts_61 (fun H locs hG hS => ?_)
            obtain ⟨G9, eG9⟩ : ∃ z : zg_G, z = zg_up Gv (oA (oe os8 i)) (.inr (4, [.ref (oN (oe os8 i)), .ref (oL (oe os8 i)), .ref (oA (oe os8 k9))])) := ⟨_, rfl⟩
            have hG : zP E G9 H := by rw [eG9]; exact hG
            have hx10 : zx (fun q => ∃ j, j < os.length ∧ q = oA (oe os j)) G G9 := hxl.tr (by rw [eG9]; exact zx.up (⟨i, by omega, hA8 i (by omega)⟩))
            have k11 : G9 a = some (.inr (9, [.ref la, .ref tn, .ref st, .ref sd, .int rc])) := by rw [eG9, zg_up_ne (zg_ne kk_a ho1 (by intro h; simp at h))]; exact kk_a
            have k12 : G9 (oA (oe os8 i)) = some (.inr (4, [.ref (oN (oe os8 i)), .ref (oL (oe os8 i)), .ref (oA (oe os8 k9))])) := by rw [eG9]; exact zg_up_self _ _ _
            refine lv_iinc (v := nI (i + 1)) (lv' := [(2, .int (nI (i + 1))), (3, .ref (oA (oe os8 i))), (0, .ref a), (1, .ref (oA (oe os8 k9)))]) hx hb d_Zo_markCuts_64 hl (k := 3) rfl (nI_add i 1) (by decide) rfl (fun ls hl => ?_)
            refine lv_goto (tgt := 4) hx hb d_Zo_markCuts_67 (by decide) ?_
            have hnx : zca os (i + 1) = some (oA (oe os8 k9)) := by unfold zca; rw [zcs_keep hi1 hk9 (by rw [← hM8 k9 (by omega), ← hM8 i (by omega)]; exact hp39.1.nz c42), hA8 k9 (by omega)]; rfl
            exact ih G9 (i + 1) (some (oA (oe os8 k9))) _ _ (by omega) (by omega) (by omega) (hnx.symm) (by rw [zmi_s hi1 (by omega), hnx, ← e8, eG9]; exact zZR.cut hZ8 hso8 (by exact hE8) (by omega) (some (oA (oe os8 k9)))) (k11) (hx10) hG hS ls (lv_sub hl [2, 3, 0] rfl)
          · have hnk : ∀ k, zcs os i = some k → ¬ oM (oe os k) <:+ oM (oe os i) := fun k hk hs => hp39.1.z c42 (by rw [hk9] at hk; cases hk; rw [hM8 k9 (by omega), hM8 i (by omega)]; exact hs)
            refine lv_aload_n hx hb d_Zo_markCuts_45 rfl (lv_at hl 0 rfl) ?_
            refine lv_iconst (v := 2) hx hb d_Zo_markCuts_46 (by decide) ?_
            have hGo47 := hG
            refine zk_q (va_runV (As := [.int 2]) (rest := []) ⟨hx, hb, hml, hown, hts⟩ (t_Ow_find_t l (hZ8.2 _ (oe_mem hin)) (by rw [hX8 i (by omega)]; exact hse _ (oe_mem (by omega))) 2) (zcV 1 hts w_653 w_654 w_655 w_12 w_656 (by decide +kernel) ⟨Nat.le_of_ble_eq_true rfl, Nat.le_of_ble_eq_true rfl⟩) (zc_preV hbase hK hN hQ hG hS ho1 rfl) rfl rfl hl.1 rfl (lv_room (Nat.le_of_ble_eq_true rfl)) d_Zo_markCuts_47 ⟨(by decide), (by decide)⟩) hS (fun r47 G47 H locs hp47 hG hS => ?_)
            rcases hp47 with ⟨⟨j9, hj1, hj2, hj3, er47⟩ | ⟨hj, er47⟩, eg47⟩
            · have hG : zP E Gv H := eg47 ▸ hG
              refine zr_some (a := sA (oS (oe os8 i) j9)) er47 ?_
              have hhT : zhT (oe os i) 2 := ⟨j9, by rw [← hX8 i (by omega)]; exact hj1, by rw [← hj2]; unfold oS; rw [hX8 i (by omega)]⟩
              refine lv_ifnull hx hb d_Zo_markCuts_50 ?_
              refine lv_aload_n hx hb d_Zo_markCuts_53 rfl (lv_at hl 0 rfl) ?_
              refine lv_goto (tgt := 58) hx hb d_Zo_markCuts_54 (by decide) ?_
              refine lv_astore_n (lv' := [(1, .ref (oA (oe os8 i))), (3, .ref (oA (oe os8 i))), (0, .ref a), (2, .int (nI i))]) hx hb d_Zo_markCuts_58 rfl hl (by decide) rfl (fun ls hl => ?_)
              refine lv_aload_n hx hb d_Zo_markCuts_59 rfl (lv_at hl 1 rfl) ?_
              refine lv_aload_n hx hb d_Zo_markCuts_60 rfl (lv_at hl 0 rfl) ?_
              have hE8 := hQ.out hG
              refine zg_put (ci := 4) (v := .ref (oA (oe os8 i))) (ty := .object "ZoneAnswers$Owner") (C := "ZoneAnswers$Owner") (T := T_Ow) (N := 3) hx hb hts zi_Ow t_Ow t_Ow_ok n_Ow hown hK hG hS ho1 rfl 2 (by decide) (hts _ w_212) (fun _ h9 => h9) rfl (by decide +kernel) rfl rfl (Nat.le_of_ble_eq_true rfl) d_Zo_markCuts_61 (fun H locs hG hS => ?_)
              obtain ⟨G13, eG13⟩ : ∃ z : zg_G, z = zg_up Gv (oA (oe os8 i)) (.inr (4, [.ref (oN (oe os8 i)), .ref (oL (oe os8 i)), .ref (oA (oe os8 i))])) := ⟨_, rfl⟩
              have hG : zP E G13 H := by rw [eG13]; exact hG
              have hx14 : zx (fun q => ∃ j, j < os.length ∧ q = oA (oe os j)) G G13 := hxl.tr (by rw [eG13]; exact zx.up (⟨i, by omega, hA8 i (by omega)⟩))
              have k15 : G13 a = some (.inr (9, [.ref la, .ref tn, .ref st, .ref sd, .int rc])) := by rw [eG13, zg_up_ne (zg_ne kk_a ho1 (by intro h; simp at h))]; exact kk_a
              have k16 : G13 (oA (oe os8 i)) = some (.inr (4, [.ref (oN (oe os8 i)), .ref (oL (oe os8 i)), .ref (oA (oe os8 i))])) := by rw [eG13]; exact zg_up_self _ _ _
              refine lv_iinc (v := nI (i + 1)) (lv' := [(2, .int (nI (i + 1))), (1, .ref (oA (oe os8 i))), (3, .ref (oA (oe os8 i))), (0, .ref a)]) hx hb d_Zo_markCuts_64 hl (k := 3) rfl (nI_add i 1) (by decide) rfl (fun ls hl => ?_)
              refine lv_goto (tgt := 4) hx hb d_Zo_markCuts_67 (by decide) ?_
              have hnx : zca os (i + 1) = some (oA (oe os8 i)) := by unfold zca; rw [zcs_w hi1 hnk, zcw_y hhT, hA8 i (by omega)]; rfl
              exact ih G13 (i + 1) (some (oA (oe os8 i))) _ _ (by omega) (by omega) (by omega) (hnx.symm) (by rw [zmi_s hi1 (by omega), hnx, ← e8, eG13]; exact zZR.cut hZ8 hso8 (by exact hE8) (by omega) (some (oA (oe os8 i)))) (k15) (hx14) hG hS ls (lv_sub hl [3, 1, 0] rfl)
            · have hG : zP E Gv H := eg47 ▸ hG
              refine zr_none er47 ?_
              have hhT : ¬ zhT (oe os i) 2 := fun ⟨j, q1, q2⟩ => hj j (by rw [hX8 i (by omega)]; exact q1) (by rw [← q2]; unfold oS; rw [hX8 i (by omega)])
              refine lv_ifnullN (tgt := 57) hx hb d_Zo_markCuts_50 (by decide) ?_
              refine lv_null hx hb d_Zo_markCuts_57 ?_
              refine lv_astore_nN (lv' := [(1, .null), (3, .ref (oA (oe os8 i))), (0, .ref a), (2, .int (nI i))]) hx hb d_Zo_markCuts_58 rfl hl (by decide) rfl (fun ls hl => ?_)
              refine lv_aload_n hx hb d_Zo_markCuts_59 rfl (lv_at hl 1 rfl) ?_
              refine lv_aload_nN hx hb d_Zo_markCuts_60 rfl (lv_at hl 0 rfl) ?_
              have hE8 := hQ.out hG
              refine zg_put (ci := 4) (v := .null) (ty := .object "ZoneAnswers$Owner") (C := "ZoneAnswers$Owner") (T := T_Ow) (N := 3) hx hb hts zi_Ow t_Ow t_Ow_ok n_Ow hown hK hG hS ho1 rfl 2 (by decide) (hts _ w_212) (fun _ h9 => h9) rfl (by decide +kernel) rfl rfl (Nat.le_of_ble_eq_true rfl) d_Zo_markCuts_61 (fun H locs hG hS => ?_)
              obtain ⟨G17, eG17⟩ : ∃ z : zg_G, z = zg_up Gv (oA (oe os8 i)) (.inr (4, [.ref (oN (oe os8 i)), .ref (oL (oe os8 i)), .null])) := ⟨_, rfl⟩
              have hG : zP E G17 H := by rw [eG17]; exact hG
              have hx18 : zx (fun q => ∃ j, j < os.length ∧ q = oA (oe os j)) G G17 := hxl.tr (by rw [eG17]; exact zx.up (⟨i, by omega, hA8 i (by omega)⟩))
              have k19 : G17 a = some (.inr (9, [.ref la, .ref tn, .ref st, .ref sd, .int rc])) := by rw [eG17, zg_up_ne (zg_ne kk_a ho1 (by intro h; simp at h))]; exact kk_a
              have k20 : G17 (oA (oe os8 i)) = some (.inr (4, [.ref (oN (oe os8 i)), .ref (oL (oe os8 i)), .null])) := by rw [eG17]; exact zg_up_self _ _ _
              refine lv_iinc (v := nI (i + 1)) (lv' := [(2, .int (nI (i + 1))), (1, .null), (3, .ref (oA (oe os8 i))), (0, .ref a)]) hx hb d_Zo_markCuts_64 hl (k := 3) rfl (nI_add i 1) (by decide) rfl (fun ls hl => ?_)
              refine lv_goto (tgt := 4) hx hb d_Zo_markCuts_67 (by decide) ?_
              have hnx : zca os (i + 1) = none := by unfold zca; rw [zcs_w hi1 hnk, zcw_n hhT]; rfl
              exact ih G17 (i + 1) none _ _ (by omega) (by omega) (by omega) (hnx.symm) (by rw [zmi_s hi1 (by omega), hnx, ← e8, eG17]; exact zZR.cut hZ8 hso8 (by exact hE8) (by omega) none) (k19) (hx18) hG hS ls (lv_sub hl [3, 1, 0] rfl)
  exact loop4 _ G 1 none _ _ (Nat.lt_succ_self _) (by omega) (Nat.le_refl _) (rfl) (by rw [zmi_1]; exact hZR) (ha) (hx0) hG hS ls (lv_sub hl [2, 1, 0] rfl)
