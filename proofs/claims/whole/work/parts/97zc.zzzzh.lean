/-! THE REFERENCE COUNTS -/
/-- so many of a record's names are new -/
def rFs (rs : List zRt) (lo : np_N) (i k : Nat) : Prop := k ≤ (rM (re rs i)).length + 1 ∧ (∀ m, m < k → lo <:+ (rM (re rs i)).drop m ∧ ¬ ∃ j, j < i ∧ (rM (re rs i)).drop m <:+ rM (re rs j)) ∧ ∀ m, k ≤ m → m ≤ (rM (re rs i)).length → lo <:+ (rM (re rs i)).drop m → ∃ j, j < i ∧ (rM (re rs i)).drop m <:+ rM (re rs j)
theorem drop_suf {x : np_N} {m n : Nat} (h : m ≤ n) : x.drop n <:+ x.drop m := by
  rw [show n = m + (n - m) by omega, ← List.drop_drop]
  exact List.drop_suffix _ _
theorem suf_np {a b x : np_N} (ha : a <:+ x) (hb : b <:+ x) (h : np_len a ≤ np_len b) : a <:+ b := by
  rcases Nat.le_total a.length b.length with q | q
  · exact suf_len ha hb q
  · have w := suf_len hb ha q
    have e := suf_drop w
    have hl := np_len_drop a (a.length - b.length) (by omega)
    rw [← e] at hl
    have p0 := (np_pos_0 (x := a) (k := a.length - b.length) (by omega))
    have hp := np_pos_le a (a.length - b.length) (by omega)
    have hz : a.length - b.length = 0 := p0.mp (by omega)
    rw [hz] at e
    rw [e]; exact List.suffix_refl _

abbrev rm_Mo_fresh : Room := { frames := 4, cells := 0, slots := 0, locals := 100 }
set_option maxHeartbeats 4000000 in
set_option maxRecDepth 100000 in
/-- fresh(i), of the reference -/
theorem t_Mo_fresh (l : Launch) (E : zc_E) (G : zg_G) (a c1 c2 : Nat) (ro : zRo) (lo : np_N) (rs : List zRt) (Wz : zW) (th co se : Int32) (hse : se = 0 ∨ se = 1) (tp : List Int32) (v19 v20 : Value) (hst : rSt E G ro a c1 c2 lo rs Wz [] False (0, 0, [], []) th tp co se v19 v20) (i9 : Nat) (hi9 : i9 < rs.length) : zMi l E y_Mo_fresh c_Mo_fresh 7 (some .int) rm_Mo_fresh [.ref a, .int (nI i9)] G (fun (r : Int32) (G2 : zg_G) => (∃ k, rFs rs lo i9 k ∧ r = nI k) ∧ G2 = G) := by
  refine zMi.of (by decide) (Nat.le_of_ble_eq_true rfl) ?_
  intro p e s m args below meth c Q hZ hG hret ls hl
  obtain ⟨hx, hb, hr, hts, hown, hlocks, hml, hnm, hbase, hK, hN, hQ⟩ := hZ
  have hl : lv_has ls 7 [(0, .ref a), (1, .int (nI i9))] := hl
  have hS : zg_S (zc_b E) s.heap s.heap [] := va_S.rf
  obtain ⟨h, eh0, eh1, eh2, hc⟩ := id hst
  obtain ⟨ra, rb, ⟨fm, rt1, rt2, rt3, rt4⟩, rtl, ⟨fo, rn1, rn2, rn3, rn4, rn5⟩, rr, rg, ras⟩ := id hc
  rw [eh0] at ra
  obtain ⟨⟨fr, rm4, hfr⟩, hn2, hRs⟩ := id rr.1
  obtain ⟨hx1, ⟨nx, hx2, hx3, hx4, hx5⟩, -⟩ := hRs _ (re_mem hi9)
  have smx := hx4.2
  have hgd := hst.gd
  have hlo9 : lo <:+ rM (re rs i9) := (hgd.2.2.2.2.2.2 _ (re_mem hi9)).1
  have smo := rn3.2
  have hcx := hx4.count
  refine lv_aload_n hx hb d_Mo_fresh_0 rfl (lv_at hl 0 rfl) ?_
  refine zg_get (ci := 11) (C := "ZoneAnswersModel") (T := T_Mo) (N := 21) hx hb hts zi_Mo hown hK hG ra rfl 4 (by decide) (hts _ w_1285) (fun _ h9 => h9) rfl d_Mo_fresh_1 ?_
  refine lv_iload_n hx hb d_Mo_fresh_4 rfl (lv_at hl 1 rfl) ?_
  refine zg_aldq hx hb hK hG 4 rm4 rfl (vp_in_nI (by omega) (by omega)) d_Mo_fresh_5 ?_
  refine zr_as (y := fr i9) (by rw [zi_n _ (by omega)]) ?_
  refine zr_some (a := rA (re rs i9)) (hfr i9 hi9) ?_
  refine zg_get (ci := 12) (C := "ZoneAnswersModel$Rec") (T := T_Re) (N := 5) hx hb hts zi_Re hown hK hG hx1 rfl 0 (by decide) (hts _ w_1265) (fun _ h9 => h9) rfl d_Mo_fresh_6 ?_
  refine lv_astore_n (lv' := [(2, .ref (rN (re rs i9))), (0, .ref a), (1, .int (nI i9))]) hx hb d_Mo_fresh_9 rfl hl (by decide) rfl (fun ls hl => ?_)
  refine lv_iconst (v := 0) hx hb d_Mo_fresh_10 (by decide) ?_
  refine zi_as (y := nI 0) (nI_0.symm) ?_
  refine lv_istore_n (lv' := [(3, .int (nI 0)), (2, .ref (rN (re rs i9))), (0, .ref a), (1, .int (nI i9))]) hx hb d_Mo_fresh_11 rfl hl (by decide) rfl (fun ls hl => ?_)
  refine lv_iconst (v := 0) hx hb d_Mo_fresh_12 (by decide) ?_
  refine zi_as (y := nI (np_pos (rM (re rs i9)) 0)) (by rw [np_pos0]; rfl) ?_
  refine lv_istore (lv' := [(4, .int (nI (np_pos (rM (re rs i9)) 0))), (3, .int (nI 0)), (2, .ref (rN (re rs i9))), (0, .ref a), (1, .int (nI i9))]) hx hb d_Mo_fresh_13 hl (by decide) rfl (fun ls hl => ?_)
  have loop15 : ∀ (N : Nat) (mz : Nat) (H : Heap) (locs : List Loc), ((rM (re rs i9)).length - mz) < N → (mz ≤ (rM (re rs i9)).length) → (∀ q, q < mz → lo <:+ (rM (re rs i9)).drop q ∧ ¬ (∃ w8, w8 < i9 ∧ (rM (re rs i9)).drop q <:+ rM (re rs w8))) → zP E G H → zg_S (zc_b E) s.heap H locs → ∀ (ls : Array Slot), lv_has ls 7 [(0, .ref a), (1, .int (nI i9)), (2, .ref (rN (re rs i9))), (3, .int (nI mz)), (4, .int (nI (np_pos (rM (re rs i9)) mz)))] → W p l e rm_Mo_fresh s m args below meth c H locs 0 0 Q (F0 m 15 ls []) := by
    intro N
    induction N with
    | zero =>
      intro mz H locs hlt
      exact absurd hlt (Nat.not_lt_zero _)
    | succ N ih =>
      intro mz H locs hlt hm hold hG hS ls hl
      have ih15 := ih
      have hpm := np_pos_le (rM (re rs i9)) mz hm
      have hdm := np_len_drop (rM (re rs i9)) mz hm
      refine lv_aload_n hx hb d_Mo_fresh_15 rfl (lv_at hl 2 rfl) ?_
      refine zg_alen hx hb hK hG 0 hx2 rfl (v := nI (np_len (rM (re rs i9)))) rfl d_Mo_fresh_16 ?_
      refine lv_iload hx hb d_Mo_fresh_17 (lv_at hl 4 rfl) ?_
      refine lv_isub hx hb d_Mo_fresh_19 ?_
      refine zi_as (y := nI (np_len (rM (re rs i9)) - (np_pos (rM (re rs i9)) mz))) (zi_sub (a := np_len (rM (re rs i9))) (b := np_pos (rM (re rs i9)) mz) (by omega)) ?_
      refine lv_aload_n hx hb d_Mo_fresh_20 rfl (lv_at hl 0 rfl) ?_
      refine zg_get (ci := 11) (C := "ZoneAnswersModel") (T := T_Mo) (N := 21) hx hb hts zi_Mo hown hK hG ra rfl 3 (by decide) (hts _ w_1284) (fun _ h9 => h9) rfl d_Mo_fresh_21 ?_
      refine zg_alen hx hb hK hG 0 rn1 rfl (v := nI (np_len lo)) rfl d_Mo_fresh_24 ?_
      refine lv_icmp_lt (tgt := 104) hx hb d_Mo_fresh_25 (by decide) (fun c25 => ?_) (fun c25 => ?_)
      · have b25 : (np_len (rM (re rs i9)) - (np_pos (rM (re rs i9)) mz)) < (np_len lo) := (nI_ltI (a := (np_len (rM (re rs i9)) - (np_pos (rM (re rs i9)) mz))) (b := (np_len lo)) (by omega) (by omega)).mp c25
        refine lv_iload_n hx hb d_Mo_fresh_104 rfl (lv_at hl 3 rfl) ?_
        exact hret _ _ _ _ _ _ _ _ _ hr (rfl) (⟨⟨mz, ⟨by omega, hold, fun q h1 h2 h3 => absurd (np_len_suf h3) (by have q1 := np_len_suf (drop_suf (x := rM (re rs i9)) h1); omega)⟩, rfl⟩, rfl⟩) hG hS (Nat.le_refl _) (Nat.le_refl _) d_Mo_fresh_105
      · have b25 : ¬ (np_len (rM (re rs i9)) - (np_pos (rM (re rs i9)) mz)) < (np_len lo) := fun q => c25 ((nI_ltI (a := (np_len (rM (re rs i9)) - (np_pos (rM (re rs i9)) mz))) (b := (np_len lo)) (by omega) (by omega)).mpr q)
        have hlm : lo <:+ (rM (re rs i9)).drop mz := suf_np hlo9 (List.drop_suffix _ _) (by omega)
        refine lv_iconst (v := 0) hx hb d_Mo_fresh_28 (by decide) ?_
        refine lv_istore (lv' := [(5, .int 0), (0, .ref a), (1, .int (nI i9)), (2, .ref (rN (re rs i9))), (3, .int (nI mz)), (4, .int (nI (np_pos (rM (re rs i9)) mz)))]) hx hb d_Mo_fresh_29 hl (by decide) rfl (fun ls hl => ?_)
        refine lv_iconst (v := 0) hx hb d_Mo_fresh_31 (by decide) ?_
        refine zi_as (y := nI 0) (nI_0.symm) ?_
        refine lv_istore (lv' := [(6, .int (nI 0)), (5, .int 0), (0, .ref a), (1, .int (nI i9)), (2, .ref (rN (re rs i9))), (3, .int (nI mz)), (4, .int (nI (np_pos (rM (re rs i9)) mz)))]) hx hb d_Mo_fresh_32 hl (by decide) rfl (fun ls hl => ?_)
        have loop34 : ∀ (N : Nat) (j : Nat) (bv : Int32) (H : Heap) (locs : List Loc), (i9 - j) < N → (j ≤ i9) → (zb bv (∃ w8, w8 < j ∧ (rM (re rs i9)).drop mz <:+ rM (re rs w8))) → zP E G H → zg_S (zc_b E) s.heap H locs → ∀ (ls : Array Slot), lv_has ls 7 [(0, .ref a), (1, .int (nI i9)), (2, .ref (rN (re rs i9))), (3, .int (nI mz)), (4, .int (nI (np_pos (rM (re rs i9)) mz))), (5, .int bv), (6, .int (nI j))] → W p l e rm_Mo_fresh s m args below meth c H locs 0 0 Q (F0 m 34 ls []) := by
          intro N
          induction N with
          | zero =>
            intro j bv H locs hlt
            exact absurd hlt (Nat.not_lt_zero _)
          | succ N ih =>
            intro j bv H locs hlt hji hzb hG hS ls hl
            refine lv_iload hx hb d_Mo_fresh_34 (lv_at hl 6 rfl) ?_
            refine lv_iload_n hx hb d_Mo_fresh_36 rfl (lv_at hl 1 rfl) ?_
            refine lv_icmp_ge (tgt := 69) hx hb d_Mo_fresh_37 (by decide) (fun c37 => ?_) (fun c37 => ?_)
            · have b37 : i9 ≤ j := (nI_leI (a := i9) (b := j) (by omega) (by omega)).mp c37
              refine lv_iload hx hb d_Mo_fresh_69 (lv_at hl 5 rfl) ?_
              refine lv_if_eq (tgt := 77) hx hb d_Mo_fresh_71 (by decide) (fun c71 => ?_) (fun c71 => ?_)
              · have hjE : j = i9 := by omega
                have hnt9 : ¬ (∃ w8, w8 < i9 ∧ (rM (re rs i9)).drop mz <:+ rM (re rs w8)) := fun ⟨w, w1, w2⟩ => hzb.z c71 ⟨w, by omega, w2⟩
                have hold2 : ∀ q, q < mz + 1 → lo <:+ (rM (re rs i9)).drop q ∧ ¬ (∃ w8, w8 < i9 ∧ (rM (re rs i9)).drop q <:+ rM (re rs w8)) := fun q hq => by
                  rcases Nat.lt_or_ge q mz with w | w
                  · exact hold q w
                  · rw [show q = mz by omega]; exact ⟨hlm, hnt9⟩
                refine lv_iinc (v := nI (mz + 1)) (lv' := [(3, .int (nI (mz + 1))), (0, .ref a), (1, .int (nI i9)), (2, .ref (rN (re rs i9))), (4, .int (nI (np_pos (rM (re rs i9)) mz))), (5, .int bv), (6, .int (nI j))]) hx hb d_Mo_fresh_77 hl (k := 3) rfl (nI_add mz 1) (by decide) rfl (fun ls hl => ?_)
                refine lv_aload_n hx hb d_Mo_fresh_80 rfl (lv_at hl 3 rfl) ?_
                refine lv_iload hx hb d_Mo_fresh_81 (lv_at hl 4 rfl) ?_
                refine zg_bald hx hb hK hG 0 hx2 rfl (np_in hx4 hm) d_Mo_fresh_83 ?_
                refine zi_as (y := nx (np_pos (rM (re rs i9)) mz)) (by rw [zi_n _ (by omega)]) ?_
                refine lv_if_ne (tgt := 90) hx hb d_Mo_fresh_84 (by decide) (fun c84 => ?_) (fun c84 => ?_)
                · have hmn := np_fnz hx3 hm c84
                  refine lv_iload hx hb d_Mo_fresh_90 (lv_at hl 4 rfl) ?_
                  refine lv_aload_n hx hb d_Mo_fresh_92 rfl (lv_at hl 3 rfl) ?_
                  refine lv_iload hx hb d_Mo_fresh_93 (lv_at hl 4 rfl) ?_
                  refine zg_bald hx hb hK hG 0 hx2 rfl (np_in hx4 hm) d_Mo_fresh_95 ?_
                  refine zi_as (y := nI (((rM (re rs i9)).getD mz []).length)) (np_rd hx3 hx4 hmn) ?_
                  refine lv_iconst (v := 1) hx hb d_Mo_fresh_96 (by decide) ?_
                  refine lv_iadd hx hb d_Mo_fresh_97 ?_
                  refine zi_as (y := nI (((rM (re rs i9)).getD mz []).length) + 1) (rfl) ?_
                  refine lv_iadd hx hb d_Mo_fresh_98 ?_
                  refine zi_as (y := nI (np_pos (rM (re rs i9)) (mz + 1))) (np_step hmn) ?_
                  refine lv_istore (lv' := [(4, .int (nI (np_pos (rM (re rs i9)) (mz + 1)))), (3, .int (nI (mz + 1))), (0, .ref a), (1, .int (nI i9)), (2, .ref (rN (re rs i9))), (5, .int bv), (6, .int (nI j))]) hx hb d_Mo_fresh_99 hl (by decide) rfl (fun ls hl => ?_)
                  refine lv_goto (tgt := 15) hx hb d_Mo_fresh_101 (by decide) ?_
                  exact ih15 (mz + 1) _ _ (by omega) (hmn) (hold2) hG hS ls (lv_sub hl [2, 3, 4, 1, 0] rfl)
                · have hmn := np_fz hx3 hx4 hm c84
                  refine lv_goto (tgt := 104) hx hb d_Mo_fresh_87 (by decide) ?_
                  refine lv_iload_n hx hb d_Mo_fresh_104 rfl (lv_at hl 0 rfl) ?_
                  exact hret _ _ _ _ _ _ _ _ _ hr (rfl) (⟨⟨mz + 1, ⟨by omega, hold2, fun q h1 h2 _ => absurd h1 (by omega)⟩, rfl⟩, rfl⟩) hG hS (Nat.le_refl _) (Nat.le_refl _) d_Mo_fresh_105
              · have hth9 : ∃ w8, w8 < i9 ∧ (rM (re rs i9)).drop mz <:+ rM (re rs w8) := by obtain ⟨q, w1, w2⟩ := hzb.nz c71; exact ⟨q, by omega, w2⟩
                refine lv_goto (tgt := 104) hx hb d_Mo_fresh_74 (by decide) ?_
                refine lv_iload_n hx hb d_Mo_fresh_104 rfl (lv_at hl 3 rfl) ?_
                exact hret _ _ _ _ _ _ _ _ _ hr (rfl) (⟨⟨mz, ⟨by omega, hold, fun q h1 h2 _ => by obtain ⟨j9, w1, w2⟩ := hth9; exact ⟨j9, w1, (drop_suf h1).trans w2⟩⟩, rfl⟩, rfl⟩) hG hS (Nat.le_refl _) (Nat.le_refl _) d_Mo_fresh_105
            · have b37 : ¬ i9 ≤ j := fun q => c37 ((nI_leI (a := i9) (b := j) (by omega) (by omega)).mpr q)
              refine lv_iload hx hb d_Mo_fresh_40 (lv_at hl 5 rfl) ?_
              refine lv_if_ne (tgt := 69) hx hb d_Mo_fresh_42 (by decide) (fun c42 => ?_) (fun c42 => ?_)
              · refine lv_iload hx hb d_Mo_fresh_69 (lv_at hl 5 rfl) ?_
                refine lv_if_eq (tgt := 77) hx hb d_Mo_fresh_71 (by decide) (fun c71 => ?_) (fun c71 => ?_)
                · exact absurd c71 c42
                · have hth9 : ∃ w8, w8 < i9 ∧ (rM (re rs i9)).drop mz <:+ rM (re rs w8) := by obtain ⟨q, w1, w2⟩ := hzb.nz c71; exact ⟨q, by omega, w2⟩
                  refine lv_goto (tgt := 104) hx hb d_Mo_fresh_74 (by decide) ?_
                  refine lv_iload_n hx hb d_Mo_fresh_104 rfl (lv_at hl 3 rfl) ?_
                  exact hret _ _ _ _ _ _ _ _ _ hr (rfl) (⟨⟨mz, ⟨by omega, hold, fun q h1 h2 _ => by obtain ⟨j9, w1, w2⟩ := hth9; exact ⟨j9, w1, (drop_suf h1).trans w2⟩⟩, rfl⟩, rfl⟩) hG hS (Nat.le_refl _) (Nat.le_refl _) d_Mo_fresh_105
              · have hjr : j < rs.length := by omega
                obtain ⟨hr1, ⟨nf, hr2, hr3, hr4, hr5⟩, -⟩ := hRs _ (re_mem hjr)
                have sm := hr4.2
                refine lv_aload_n hx hb d_Mo_fresh_45 rfl (lv_at hl 0 rfl) ?_
                refine zg_get (ci := 11) (C := "ZoneAnswersModel") (T := T_Mo) (N := 21) hx hb hts zi_Mo hown hK hG ra rfl 4 (by decide) (hts _ w_1285) (fun _ h9 => h9) rfl d_Mo_fresh_46 ?_
                refine lv_iload hx hb d_Mo_fresh_49 (lv_at hl 6 rfl) ?_
                refine zg_aldq hx hb hK hG 4 rm4 rfl (vp_in_nI (by omega) (by omega)) d_Mo_fresh_51 ?_
                refine zr_as (y := fr j) (by rw [zi_n _ (by omega)]) ?_
                refine zr_some (a := rA (re rs j)) (hfr j hjr) ?_
                refine zg_get (ci := 12) (C := "ZoneAnswersModel$Rec") (T := T_Re) (N := 5) hx hb hts zi_Re hown hK hG hr1 rfl 0 (by decide) (hts _ w_1265) (fun _ h9 => h9) rfl d_Mo_fresh_52 ?_
                refine lv_aload_n hx hb d_Mo_fresh_55 rfl (lv_at hl 2 rfl) ?_
                refine lv_iload hx hb d_Mo_fresh_56 (lv_at hl 4 rfl) ?_
                have hGo58 := hG
                refine zk_i (va_runS (As := [.ref (rN (re rs j)), .ref (rN (re rs i9)), .int (nI (np_pos (rM (re rs i9)) mz))]) (rest := []) ⟨hx, hb, hml, hown, hts⟩ (t_Ns_below_2 l E G (rN (re rs j)) (rM (re rs j)) nf hr2 hr3 hr4 (rN (re rs i9)) (rM (re rs i9)) nx hx2 hx3 hx4 mz hm) (zcS 3 hts w_1544 w_1396 w_33 w_1397 (by decide +kernel) ⟨Nat.le_of_ble_eq_true rfl, Nat.le_of_ble_eq_true rfl⟩) (zc_pre hbase hK hN hQ hG hS) rfl rfl hl.1 rfl (lv_room (Nat.le_of_ble_eq_true rfl)) d_Mo_fresh_58 ⟨(by decide), (by decide)⟩) hS (fun r58 G58 H locs hp58 hG hS => ?_)
                have hG : zP E G H := hp58.2 ▸ hG
                have hzb2 : zb r58 (∃ w8, w8 < (j + 1) ∧ (rM (re rs i9)).drop mz <:+ rM (re rs w8)) := hp58.1.iff ⟨fun z => ⟨j, Nat.lt_succ_self _, z⟩, fun ⟨q, hq, z⟩ => by
                  rcases Nat.lt_or_ge q j with w | w
                  · exact absurd ⟨q, w, z⟩ (hzb.z c42)
                  · rw [show q = j by omega] at z; exact z⟩
                refine lv_istore (lv' := [(5, .int r58), (0, .ref a), (1, .int (nI i9)), (2, .ref (rN (re rs i9))), (3, .int (nI mz)), (4, .int (nI (np_pos (rM (re rs i9)) mz))), (6, .int (nI j))]) hx hb d_Mo_fresh_61 hl (by decide) rfl (fun ls hl => ?_)
                refine lv_iinc (v := nI (j + 1)) (lv' := [(6, .int (nI (j + 1))), (5, .int r58), (0, .ref a), (1, .int (nI i9)), (2, .ref (rN (re rs i9))), (3, .int (nI mz)), (4, .int (nI (np_pos (rM (re rs i9)) mz)))]) hx hb d_Mo_fresh_63 hl (k := 6) rfl (nI_add j 1) (by decide) rfl (fun ls hl => ?_)
                refine lv_goto (tgt := 34) hx hb d_Mo_fresh_66 (by decide) ?_
                exact ih (j + 1) r58 _ _ (by omega) (by omega) (hzb2) hG hS ls (lv_sub hl [2, 3, 4, 5, 6, 1, 0] rfl)
        exact loop34 _ 0 0 _ _ (Nat.lt_succ_self _) (Nat.zero_le _) (zb.f (fun ⟨q, z, _⟩ => absurd z (Nat.not_lt_zero q))) hG hS ls (lv_sub hl [2, 3, 4, 5, 6, 1, 0] rfl)
  exact loop15 _ 0 _ _ (Nat.lt_succ_self _) (Nat.zero_le _) (fun q hq => absurd hq (Nat.not_lt_zero q)) hG hS ls (lv_sub hl [3, 4, 2, 1, 0] rfl)
