theorem zsg_lt {z : Int} : zsg z < 0 ↔ z < 0 := by
  unfold zsg
  by_cases h : z < 0
  · rw [if_pos h]; exact ⟨fun _ => h, fun _ => by decide⟩
  · rw [if_neg h]
    by_cases h2 : z = 0
    · rw [if_pos h2]; exact ⟨fun q => absurd q (by decide), fun q => absurd q h⟩
    · rw [if_neg h2]; exact ⟨fun q => absurd q (by decide), fun q => absurd q h⟩
theorem zsg_gt {z : Int} : 0 < zsg z ↔ 0 < z := by
  unfold zsg
  by_cases h : z < 0
  · rw [if_pos h]; exact ⟨fun q => absurd q (by decide), fun q => by omega⟩
  · rw [if_neg h]
    by_cases h2 : z = 0
    · rw [if_pos h2]; exact ⟨fun q => absurd q (by decide), fun q => by omega⟩
    · rw [if_neg h2]; exact ⟨fun _ => by omega, fun _ => by decide⟩
abbrev zkk (rs : List zRt) (j : Nat) : nk_K := zky (rM (re rs j))
/-- a name of the chain before x -/
def zcb (lo : np_N) (rs : List zRt) (x : np_N) (j : Nat) : Prop := nk_d (zkk rs j) (zky x) < 0 ∧ ¬ zaway lo rs (rM (re rs j))
/-- of the first i the last in order -/
def zbst (lo : np_N) (rs : List zRt) (x : np_N) (i : Nat) (bo : Option Nat) : Prop := (bo = none ∧ ∀ j, j < i → ¬ zcb lo rs x j) ∨ ∃ j0, j0 < i ∧ bo = some (rN (re rs j0)) ∧ zcb lo rs x j0 ∧ ∀ j, j < i → zcb lo rs x j → ¬ nk_d (zkk rs j0) (zkk rs j) < 0
section ZBS
variable {lo : np_N} {rs : List zRt} {x : np_N} {i : Nat}
theorem zbst_keep {bo : Option Nat} (h : zbst lo rs x i bo) (hn : ¬ zcb lo rs x i) : zbst lo rs x (i + 1) bo := by
  rcases h with ⟨e, h⟩ | ⟨j0, h1, h2, h3, h4⟩
  · exact Or.inl ⟨e, ae_step h hn⟩
  · refine Or.inr ⟨j0, by omega, h2, h3, fun j hj hc => ?_⟩
    rcases Nat.lt_or_ge j i with q | q
    · exact h4 j q hc
    · rw [show j = i by omega] at hc; exact absurd hc hn
theorem zbst_le {j0 : Nat} (h1 : j0 < i) (h3 : zcb lo rs x j0) (h4 : ∀ j, j < i → zcb lo rs x j → ¬ nk_d (zkk rs j0) (zkk rs j) < 0) (hle : ¬ 0 < nk_d (zkk rs i) (zkk rs j0)) : zbst lo rs x (i + 1) (some (rN (re rs j0))) := by
  refine Or.inr ⟨j0, by omega, rfl, h3, fun j hj hc => ?_⟩
  rcases Nat.lt_or_ge j i with q | q
  · exact h4 j q hc
  · rw [show j = i by omega, nk_d_neg]; omega
theorem zbst_new0 (h : ∀ j, j < i → ¬ zcb lo rs x j) (hc : zcb lo rs x i) : zbst lo rs x (i + 1) (some (rN (re rs i))) := by
  refine Or.inr ⟨i, by omega, rfl, hc, fun j hj hcj => ?_⟩
  rcases Nat.lt_or_ge j i with q | q
  · exact absurd hcj (h j q)
  · rw [show j = i by omega, nk_d_self]; omega
theorem zbst_new {j0 : Nat} (h4 : ∀ j, j < i → zcb lo rs x j → ¬ nk_d (zkk rs j0) (zkk rs j) < 0) (hgt : 0 < nk_d (zkk rs i) (zkk rs j0)) (hc : zcb lo rs x i) : zbst lo rs x (i + 1) (some (rN (re rs i))) := by
  refine Or.inr ⟨i, by omega, rfl, hc, fun j hj hcj => ?_⟩
  rcases Nat.lt_or_ge j i with q | q
  · intro z
    refine h4 j q hcj (nk_d_tr ?_ z)
    rw [nk_d_neg]; omega
  · rw [show j = i by omega, nk_d_self]; omega
end ZBS
theorem w_1505 : (.methodLink "ZoneAnswersModel" 116 ⟨"ZoneAnswersModel$Names", "order", "([B[B)I"⟩ : Cond) ∈ zw := zw_at 1505 (by decide +kernel) (by decide +kernel)
theorem w_1506 : (.static ⟨"ZoneAnswersModel$Names", "order", "([B[B)I"⟩ : Cond) ∈ zw := zw_at 1506 (by decide +kernel) (by decide +kernel)
theorem w_1507 : (.code ⟨"ZoneAnswersModel$Names", "order", "([B[B)I"⟩ prog_13_method_13_code 8 (some .int) : Cond) ∈ zw := zw_at 1507 (by decide +kernel) (by decide +kernel)
abbrev c_Mo_before : ByteArray := prog_12_method_12_code
abbrev y_Mo_before : MethodName := ⟨"ZoneAnswersModel", "before", "([B)[B"⟩
theorem d_Mo_before_0 : decode c_Mo_before 0 = .ok (.aconst_null, 1) := by decide +kernel
theorem d_Mo_before_1 : decode c_Mo_before 1 = .ok (.astore_n 2, 1) := by decide +kernel
theorem d_Mo_before_2 : decode c_Mo_before 2 = .ok (.iconst 0, 1) := by decide +kernel
theorem d_Mo_before_3 : decode c_Mo_before 3 = .ok (.istore_n 3, 1) := by decide +kernel
theorem d_Mo_before_4 : decode c_Mo_before 4 = .ok (.iload_n 3, 1) := by decide +kernel
theorem d_Mo_before_5 : decode c_Mo_before 5 = .ok (.aload_n 0, 1) := by decide +kernel
theorem d_Mo_before_6 : decode c_Mo_before 6 = .ok (.getfield 61, 3) := by decide +kernel
theorem d_Mo_before_9 : decode c_Mo_before 9 = .ok (.if_icmp .ge 54, 3) := by decide +kernel
theorem d_Mo_before_12 : decode c_Mo_before 12 = .ok (.aload_n 0, 1) := by decide +kernel
theorem d_Mo_before_13 : decode c_Mo_before 13 = .ok (.getfield 19, 3) := by decide +kernel
theorem d_Mo_before_16 : decode c_Mo_before 16 = .ok (.iload_n 3, 1) := by decide +kernel
theorem d_Mo_before_17 : decode c_Mo_before 17 = .ok (.aaload, 1) := by decide +kernel
theorem d_Mo_before_18 : decode c_Mo_before 18 = .ok (.getfield 65, 3) := by decide +kernel
theorem d_Mo_before_21 : decode c_Mo_before 21 = .ok (.astore 4, 2) := by decide +kernel
theorem d_Mo_before_23 : decode c_Mo_before 23 = .ok (.aload 4, 2) := by decide +kernel
theorem d_Mo_before_25 : decode c_Mo_before 25 = .ok (.aload_n 1, 1) := by decide +kernel
theorem d_Mo_before_26 : decode c_Mo_before 26 = .ok (.invokestatic 116, 3) := by decide +kernel
theorem d_Mo_before_29 : decode c_Mo_before 29 = .ok (.ifCond .ge 28, 3) := by decide +kernel
theorem d_Mo_before_32 : decode c_Mo_before 32 = .ok (.aload_n 2, 1) := by decide +kernel
theorem d_Mo_before_33 : decode c_Mo_before 33 = .ok (.ifnull 12, 3) := by decide +kernel
theorem d_Mo_before_36 : decode c_Mo_before 36 = .ok (.aload 4, 2) := by decide +kernel
theorem d_Mo_before_38 : decode c_Mo_before 38 = .ok (.aload_n 2, 1) := by decide +kernel
theorem d_Mo_before_39 : decode c_Mo_before 39 = .ok (.invokestatic 116, 3) := by decide +kernel
theorem d_Mo_before_42 : decode c_Mo_before 42 = .ok (.ifCond .le 15, 3) := by decide +kernel
theorem d_Mo_before_45 : decode c_Mo_before 45 = .ok (.aload_n 0, 1) := by decide +kernel
theorem d_Mo_before_46 : decode c_Mo_before 46 = .ok (.aload 4, 2) := by decide +kernel
theorem d_Mo_before_48 : decode c_Mo_before 48 = .ok (.invokevirtual 113, 3) := by decide +kernel
theorem d_Mo_before_51 : decode c_Mo_before 51 = .ok (.ifCond .ne 6, 3) := by decide +kernel
theorem d_Mo_before_54 : decode c_Mo_before 54 = .ok (.aload 4, 2) := by decide +kernel
theorem d_Mo_before_56 : decode c_Mo_before 56 = .ok (.astore_n 2, 1) := by decide +kernel
theorem d_Mo_before_57 : decode c_Mo_before 57 = .ok (.iinc 3 1, 3) := by decide +kernel
theorem d_Mo_before_60 : decode c_Mo_before 60 = .ok (.goto (-56), 3) := by decide +kernel
theorem d_Mo_before_63 : decode c_Mo_before 63 = .ok (.aload_n 2, 1) := by decide +kernel
theorem d_Mo_before_64 : decode c_Mo_before 64 = .ok (.areturn, 1) := by decide +kernel
abbrev rm_Mo_before : Room := { frames := 6, cells := 0, slots := 0, locals := 160 }
set_option maxHeartbeats 4000000 in
set_option maxRecDepth 100000 in
/-- before(x), of the reference -/
theorem t_Mo_before (l : Launch) (E : zc_E) (G : zg_G) (rs : List zRt) (a m1 m3 m4 m6 m7 m8 m9 m10 m11 m12 m15 m18 : Nat) (th tn m13 m14 m16 m17 : Int32) (m19 m20 : Value) (ha : G a = some (.inr (11, [.int th, .ref m1, .int tn, .ref m3, .ref m4, .int (nI rs.length), .ref m6, .ref m7, .ref m8, .ref m9, .ref m10, .ref m11, .ref m12, .int m13, .int m14, .ref m15, .int m16, .int m17, .ref m18, m19, m20]))) (hRS : zRS E G m4 rs) (lo : np_N) (fo : Nat → Int32) (hm3 : G m3 = some (.inl (E.2.1 0, np_len lo, .inl fo))) (hfo : np_f lo fo) (hgo : np_g lo) (b1 : Nat) (ls1 : np_N) (f1 : Nat → Int32) (hb1 : G b1 = some (.inl (E.2.1 0, np_len ls1, .inl f1))) (hf1 : np_f ls1 f1) (hg1 : np_g ls1) (hft1 : sb_Fit f1) : zMq l E y_Mo_before c_Mo_before 5 (some (.array .byte)) rm_Mo_before [.ref a, .ref b1] G (fun (r : Option Nat) (G2 : zg_G) => zbst lo rs ls1 rs.length r ∧ G2 = G) := by
  refine zMq.of (by decide) (Nat.le_of_ble_eq_true rfl) ?_
  intro p e s m args below meth c Q hZ hG hret ls hl
  obtain ⟨hx, hb, hr, hts, hown, hlocks, hml, hnm, hbase, hK, hN, hQ⟩ := hZ
  have hl : lv_has ls 5 [(0, .ref a), (1, .ref b1)] := hl
  have hS : zg_S (zc_b E) s.heap s.heap [] := va_S.rf
  obtain ⟨⟨fr, hm4, hfr⟩, hn2, hRs⟩ := id hRS
  refine lv_null hx hb d_Mo_before_0 ?_
  refine lv_astore_nN (lv' := [(2, .null), (0, .ref a), (1, .ref b1)]) hx hb d_Mo_before_1 rfl hl (by decide) rfl (fun ls hl => ?_)
  refine lv_iconst (v := 0) hx hb d_Mo_before_2 (by decide) ?_
  refine zi_as (y := nI 0) (nI_0.symm) ?_
  refine lv_istore_n (lv' := [(3, .int (nI 0)), (2, .null), (0, .ref a), (1, .ref b1)]) hx hb d_Mo_before_3 rfl hl (by decide) rfl (fun ls hl => ?_)
  have loop4 : ∀ (N : Nat) (i : Nat) (bo : Option Nat) (H : Heap) (locs : List Loc), (rs.length - i) < N → (i ≤ rs.length) → (zbst lo rs ls1 i bo) → zP E G H → zg_S (zc_b E) s.heap H locs → ∀ (ls : Array Slot), lv_has ls 5 [(0, .ref a), (1, .ref b1), (2, va_rf bo), (3, .int (nI i))] → W p l e rm_Mo_before s m args below meth c H locs 0 0 Q (F0 m 4 ls []) := by
    intro N
    induction N with
    | zero =>
      intro i bo H locs hlt
      exact absurd hlt (Nat.not_lt_zero _)
    | succ N ih =>
      intro i bo H locs hlt hi hbo hG hS ls hl
      rcases bo with _ | bq
      · have hn0 : ∀ j, j < i → ¬ zcb lo rs ls1 j := by
          rcases hbo with ⟨-, h⟩ | ⟨j0, -, h, -⟩
          · exact h
          · cases h
        have hl : lv_has ls 5 [(0, .ref a), (1, .ref b1), (2, .null), (3, .int (nI i))] := hl
        refine lv_iload_n hx hb d_Mo_before_4 rfl (lv_at hl 3 rfl) ?_
        refine lv_aload_n hx hb d_Mo_before_5 rfl (lv_at hl 0 rfl) ?_
        refine zg_get (ci := 11) (C := "ZoneAnswersModel") (T := T_Mo) (N := 21) hx hb hts zi_Mo hown hK hG ha rfl 5 (by decide) (hts _ w_1286) (fun _ h9 => h9) rfl d_Mo_before_6 ?_
        refine lv_icmp_ge (tgt := 63) hx hb d_Mo_before_9 (by decide) (fun c9 => ?_) (fun c9 => ?_)
        · have b9 : rs.length ≤ i := (nI_leI (a := rs.length) (b := i) (by omega) (by omega)).mp c9
          refine lv_aload_nN hx hb d_Mo_before_63 rfl (lv_at hl 2 rfl) ?_
          exact hret none _ _ _ _ _ _ _ _ hr (Or.inr ⟨_, rfl⟩) (⟨by rw [← show i = rs.length by omega]; exact hbo, rfl⟩) hG hS (Nat.le_refl _) (Nat.le_refl _) d_Mo_before_64
        · have b9 : ¬ rs.length ≤ i := fun q => c9 ((nI_leI (a := rs.length) (b := i) (by omega) (by omega)).mpr q)
          have hin : i < rs.length := by omega
          obtain ⟨hr1, ⟨nf, hr2, hr3, hr4, hr5⟩, df, hr6, hr7, hr8⟩ := hRs _ (re_mem hin)
          have sm := hr4.2
          refine lv_aload_n hx hb d_Mo_before_12 rfl (lv_at hl 0 rfl) ?_
          refine zg_get (ci := 11) (C := "ZoneAnswersModel") (T := T_Mo) (N := 21) hx hb hts zi_Mo hown hK hG ha rfl 4 (by decide) (hts _ w_1285) (fun _ h9 => h9) rfl d_Mo_before_13 ?_
          refine lv_iload_n hx hb d_Mo_before_16 rfl (lv_at hl 3 rfl) ?_
          refine zg_aldq hx hb hK hG 4 hm4 rfl (vp_in_nI (by omega) (by omega)) d_Mo_before_17 ?_
          refine zr_as (y := fr i) (by rw [zi_n _ (by omega)]) ?_
          refine zr_some (a := rA (re rs i)) (hfr i hin) ?_
          refine zg_get (ci := 12) (C := "ZoneAnswersModel$Rec") (T := T_Re) (N := 5) hx hb hts zi_Re hown hK hG hr1 rfl 0 (by decide) (hts _ w_1265) (fun _ h9 => h9) rfl d_Mo_before_18 ?_
          refine lv_astore (lv' := [(4, .ref (rN (re rs i))), (0, .ref a), (1, .ref b1), (2, .null), (3, .int (nI i))]) hx hb d_Mo_before_21 hl (by decide) rfl (fun ls hl => ?_)
          refine lv_aload hx hb d_Mo_before_23 (lv_at hl 0 rfl) ?_
          refine lv_aload_n hx hb d_Mo_before_25 rfl (lv_at hl 2 rfl) ?_
          refine zk_i (va_runS (As := [.ref (rN (re rs i)), .ref b1]) (rest := []) ⟨hx, hb, hml, hown, hts⟩ (t_Ns_order l E G (rN (re rs i)) (rM (re rs i)) nf hr2 hr3 hr4 hr5 b1 ls1 f1 hb1 hf1 hg1 hft1) (zcS 2 hts w_1505 w_1506 w_33 w_1507 (by decide +kernel) ⟨Nat.le_of_ble_eq_true rfl, Nat.le_of_ble_eq_true rfl⟩) (zc_pre hbase hK hN hQ hG hS) rfl rfl hl.1 rfl (lv_room (Nat.le_of_ble_eq_true rfl)) d_Mo_before_26 ⟨(by decide), (by decide)⟩) hS (fun r26 G26 H locs hp26 hG hS => ?_)
          have hG : zP E G H := hp26.2 ▸ hG
          refine zi_as (y := zsg (nk_d (zky (rM (re rs i))) (zky ls1))) hp26.1 ?_
          refine lv_if_ge (tgt := 57) hx hb d_Mo_before_29 (by decide) (fun c29 => ?_) (fun c29 => ?_)
          · refine lv_iinc (v := nI (i + 1)) (lv' := [(3, .int (nI (i + 1))), (4, .ref (rN (re rs i))), (0, .ref a), (1, .ref b1), (2, .null)]) hx hb d_Mo_before_57 hl (k := 4) rfl (nI_add i 1) (by decide) rfl (fun ls hl => ?_)
            refine lv_goto (tgt := 4) hx hb d_Mo_before_60 (by decide) ?_
            exact ih (i + 1) none _ _ (by omega) (by omega) (by first | exact zbst_keep hbo (fun z => c29 (zsg_lt.mpr z.1)) | exact zbst_keep hbo (fun z => absurd (zsg_lt.mpr z.1) (Int32.not_lt.mpr c29)) | exact zbst_keep hbo (fun z => z.2 (hp48.1.nz c51)) | exact zbst_le hj1 hj3 hj4 (fun z => absurd (zsg_gt.mpr z) (Int32.not_lt.mpr c42)) | exact zbst_new0 hn0 ⟨zsg_lt.mp (Int32.not_le.mp c29), hp48.1.z c51⟩ | exact zbst_new hj4 (zsg_gt.mp (Int32.not_le.mp c42)) ⟨zsg_lt.mp (Int32.not_le.mp c29), hp48.1.z c51⟩) hG hS ls (lv_sub hl [2, 3, 4, 0] rfl)
          · refine lv_aload_nN hx hb d_Mo_before_32 rfl (lv_at hl 3 rfl) ?_
            refine lv_ifnullN (tgt := 45) hx hb d_Mo_before_33 (by decide) ?_
            refine lv_aload_n hx hb d_Mo_before_45 rfl (lv_at hl 1 rfl) ?_
            refine lv_aload hx hb d_Mo_before_46 (lv_at hl 0 rfl) ?_
            refine zk_i (va_runV (As := [.ref (rN (re rs i))]) (rest := []) ⟨hx, hb, hml, hown, hts⟩ (t_Mo_away l E G rs a m1 m3 m4 m6 m7 m8 m9 m10 m11 m12 m15 m18 th tn m13 m14 m16 m17 m19 m20 ha hRS lo fo hm3 hfo hgo (rN (re rs i)) (rM (re rs i)) nf hr2 hr3 hr4) (zcV 1 hts w_1512 w_1514 wp_46 w_30 w_1515 (by decide +kernel) ⟨Nat.le_of_ble_eq_true rfl, Nat.le_of_ble_eq_true rfl⟩) (zc_preV hbase hK hN hQ hG hS ha rfl) rfl rfl hl.1 rfl (lv_room (Nat.le_of_ble_eq_true rfl)) d_Mo_before_48 ⟨(by decide), (by decide)⟩) hS (fun r48 G48 H locs hp48 hG hS => ?_)
            have hG : zP E G H := hp48.2 ▸ hG
            refine lv_if_ne (tgt := 57) hx hb d_Mo_before_51 (by decide) (fun c51 => ?_) (fun c51 => ?_)
            · refine lv_iinc (v := nI (i + 1)) (lv' := [(3, .int (nI (i + 1))), (4, .ref (rN (re rs i))), (0, .ref a), (1, .ref b1), (2, .null)]) hx hb d_Mo_before_57 hl (k := 4) rfl (nI_add i 1) (by decide) rfl (fun ls hl => ?_)
              refine lv_goto (tgt := 4) hx hb d_Mo_before_60 (by decide) ?_
              exact ih (i + 1) none _ _ (by omega) (by omega) (by first | exact zbst_keep hbo (fun z => c29 (zsg_lt.mpr z.1)) | exact zbst_keep hbo (fun z => absurd (zsg_lt.mpr z.1) (Int32.not_lt.mpr c29)) | exact zbst_keep hbo (fun z => z.2 (hp48.1.nz c51)) | exact zbst_le hj1 hj3 hj4 (fun z => absurd (zsg_gt.mpr z) (Int32.not_lt.mpr c42)) | exact zbst_new0 hn0 ⟨zsg_lt.mp (Int32.not_le.mp c29), hp48.1.z c51⟩ | exact zbst_new hj4 (zsg_gt.mp (Int32.not_le.mp c42)) ⟨zsg_lt.mp (Int32.not_le.mp c29), hp48.1.z c51⟩) hG hS ls (lv_sub hl [2, 3, 4, 0] rfl)
            · refine lv_aload hx hb d_Mo_before_54 (lv_at hl 0 rfl) ?_
              refine lv_astore_n (lv' := [(2, .ref (rN (re rs i))), (4, .ref (rN (re rs i))), (0, .ref a), (1, .ref b1), (3, .int (nI i))]) hx hb d_Mo_before_56 rfl hl (by decide) rfl (fun ls hl => ?_)
              refine lv_iinc (v := nI (i + 1)) (lv' := [(3, .int (nI (i + 1))), (2, .ref (rN (re rs i))), (4, .ref (rN (re rs i))), (0, .ref a), (1, .ref b1)]) hx hb d_Mo_before_57 hl (k := 4) rfl (nI_add i 1) (by decide) rfl (fun ls hl => ?_)
              refine lv_goto (tgt := 4) hx hb d_Mo_before_60 (by decide) ?_
              exact ih (i + 1) (some (rN (re rs i))) _ _ (by omega) (by omega) (by first | exact zbst_keep hbo (fun z => c29 (zsg_lt.mpr z.1)) | exact zbst_keep hbo (fun z => absurd (zsg_lt.mpr z.1) (Int32.not_lt.mpr c29)) | exact zbst_keep hbo (fun z => z.2 (hp48.1.nz c51)) | exact zbst_le hj1 hj3 hj4 (fun z => absurd (zsg_gt.mpr z) (Int32.not_lt.mpr c42)) | exact zbst_new0 hn0 ⟨zsg_lt.mp (Int32.not_le.mp c29), hp48.1.z c51⟩ | exact zbst_new hj4 (zsg_gt.mp (Int32.not_le.mp c42)) ⟨zsg_lt.mp (Int32.not_le.mp c29), hp48.1.z c51⟩) hG hS ls (lv_sub hl [3, 4, 1, 0] rfl)
      · obtain ⟨j0, hj1, hj2, hj3, hj4⟩ : ∃ j0, j0 < i ∧ some bq = some (rN (re rs j0)) ∧ zcb lo rs ls1 j0 ∧ ∀ j, j < i → zcb lo rs ls1 j → ¬ nk_d (zkk rs j0) (zkk rs j) < 0 := by
          rcases hbo with ⟨h, -⟩ | h
          · cases h
          · exact h
        have ebq : bq = rN (re rs j0) := Option.some.inj hj2
        subst ebq
        obtain ⟨-, ⟨nfb, hb2, hb3, hb4, hb5⟩, -⟩ := hRs _ (re_mem (show j0 < rs.length by omega))
        have hl : lv_has ls 5 [(0, .ref a), (1, .ref b1), (2, .ref (rN (re rs j0))), (3, .int (nI i))] := hl
        refine lv_iload_n hx hb d_Mo_before_4 rfl (lv_at hl 3 rfl) ?_
        refine lv_aload_n hx hb d_Mo_before_5 rfl (lv_at hl 0 rfl) ?_
        refine zg_get (ci := 11) (C := "ZoneAnswersModel") (T := T_Mo) (N := 21) hx hb hts zi_Mo hown hK hG ha rfl 5 (by decide) (hts _ w_1286) (fun _ h9 => h9) rfl d_Mo_before_6 ?_
        refine lv_icmp_ge (tgt := 63) hx hb d_Mo_before_9 (by decide) (fun c9 => ?_) (fun c9 => ?_)
        · have b9 : rs.length ≤ i := (nI_leI (a := rs.length) (b := i) (by omega) (by omega)).mp c9
          refine lv_aload_n hx hb d_Mo_before_63 rfl (lv_at hl 2 rfl) ?_
          exact hret (some (rN (re rs j0))) _ _ _ _ _ _ _ _ hr (Or.inr ⟨_, rfl⟩) (⟨by rw [← show i = rs.length by omega]; exact hbo, rfl⟩) hG hS (Nat.le_refl _) (Nat.le_refl _) d_Mo_before_64
        · have b9 : ¬ rs.length ≤ i := fun q => c9 ((nI_leI (a := rs.length) (b := i) (by omega) (by omega)).mpr q)
          have hin : i < rs.length := by omega
          obtain ⟨hr1, ⟨nf, hr2, hr3, hr4, hr5⟩, df, hr6, hr7, hr8⟩ := hRs _ (re_mem hin)
          have sm := hr4.2
          refine lv_aload_n hx hb d_Mo_before_12 rfl (lv_at hl 0 rfl) ?_
          refine zg_get (ci := 11) (C := "ZoneAnswersModel") (T := T_Mo) (N := 21) hx hb hts zi_Mo hown hK hG ha rfl 4 (by decide) (hts _ w_1285) (fun _ h9 => h9) rfl d_Mo_before_13 ?_
          refine lv_iload_n hx hb d_Mo_before_16 rfl (lv_at hl 3 rfl) ?_
          refine zg_aldq hx hb hK hG 4 hm4 rfl (vp_in_nI (by omega) (by omega)) d_Mo_before_17 ?_
          refine zr_as (y := fr i) (by rw [zi_n _ (by omega)]) ?_
          refine zr_some (a := rA (re rs i)) (hfr i hin) ?_
          refine zg_get (ci := 12) (C := "ZoneAnswersModel$Rec") (T := T_Re) (N := 5) hx hb hts zi_Re hown hK hG hr1 rfl 0 (by decide) (hts _ w_1265) (fun _ h9 => h9) rfl d_Mo_before_18 ?_
          refine lv_astore (lv' := [(4, .ref (rN (re rs i))), (0, .ref a), (1, .ref b1), (2, .ref (rN (re rs j0))), (3, .int (nI i))]) hx hb d_Mo_before_21 hl (by decide) rfl (fun ls hl => ?_)
          refine lv_aload hx hb d_Mo_before_23 (lv_at hl 0 rfl) ?_
          refine lv_aload_n hx hb d_Mo_before_25 rfl (lv_at hl 2 rfl) ?_
          refine zk_i (va_runS (As := [.ref (rN (re rs i)), .ref b1]) (rest := []) ⟨hx, hb, hml, hown, hts⟩ (t_Ns_order l E G (rN (re rs i)) (rM (re rs i)) nf hr2 hr3 hr4 hr5 b1 ls1 f1 hb1 hf1 hg1 hft1) (zcS 2 hts w_1505 w_1506 w_33 w_1507 (by decide +kernel) ⟨Nat.le_of_ble_eq_true rfl, Nat.le_of_ble_eq_true rfl⟩) (zc_pre hbase hK hN hQ hG hS) rfl rfl hl.1 rfl (lv_room (Nat.le_of_ble_eq_true rfl)) d_Mo_before_26 ⟨(by decide), (by decide)⟩) hS (fun r26 G26 H locs hp26 hG hS => ?_)
          have hG : zP E G H := hp26.2 ▸ hG
          refine zi_as (y := zsg (nk_d (zky (rM (re rs i))) (zky ls1))) hp26.1 ?_
          refine lv_if_ge (tgt := 57) hx hb d_Mo_before_29 (by decide) (fun c29 => ?_) (fun c29 => ?_)
          · refine lv_iinc (v := nI (i + 1)) (lv' := [(3, .int (nI (i + 1))), (4, .ref (rN (re rs i))), (0, .ref a), (1, .ref b1), (2, .ref (rN (re rs j0)))]) hx hb d_Mo_before_57 hl (k := 4) rfl (nI_add i 1) (by decide) rfl (fun ls hl => ?_)
            refine lv_goto (tgt := 4) hx hb d_Mo_before_60 (by decide) ?_
            exact ih (i + 1) (some (rN (re rs j0))) _ _ (by omega) (by omega) (by first | exact zbst_keep hbo (fun z => c29 (zsg_lt.mpr z.1)) | exact zbst_keep hbo (fun z => absurd (zsg_lt.mpr z.1) (Int32.not_lt.mpr c29)) | exact zbst_keep hbo (fun z => z.2 (hp48.1.nz c51)) | exact zbst_le hj1 hj3 hj4 (fun z => absurd (zsg_gt.mpr z) (Int32.not_lt.mpr c42)) | exact zbst_new0 hn0 ⟨zsg_lt.mp (Int32.not_le.mp c29), hp48.1.z c51⟩ | exact zbst_new hj4 (zsg_gt.mp (Int32.not_le.mp c42)) ⟨zsg_lt.mp (Int32.not_le.mp c29), hp48.1.z c51⟩) hG hS ls (lv_sub hl [2, 3, 4, 0] rfl)
          · refine lv_aload_n hx hb d_Mo_before_32 rfl (lv_at hl 3 rfl) ?_
            refine lv_ifnull hx hb d_Mo_before_33 ?_
            refine lv_aload hx hb d_Mo_before_36 (lv_at hl 0 rfl) ?_
            refine lv_aload_n hx hb d_Mo_before_38 rfl (lv_at hl 3 rfl) ?_
            refine zk_i (va_runS (As := [.ref (rN (re rs i)), .ref (rN (re rs j0))]) (rest := []) ⟨hx, hb, hml, hown, hts⟩ (t_Ns_order l E G (rN (re rs i)) (rM (re rs i)) nf hr2 hr3 hr4 hr5 (rN (re rs j0)) (rM (re rs j0)) nfb hb2 hb3 hb4 hb5) (zcS 2 hts w_1505 w_1506 w_33 w_1507 (by decide +kernel) ⟨Nat.le_of_ble_eq_true rfl, Nat.le_of_ble_eq_true rfl⟩) (zc_pre hbase hK hN hQ hG hS) rfl rfl hl.1 rfl (lv_room (Nat.le_of_ble_eq_true rfl)) d_Mo_before_39 ⟨(by decide), (by decide)⟩) hS (fun r39 G39 H locs hp39 hG hS => ?_)
            have hG : zP E G H := hp39.2 ▸ hG
            refine zi_as (y := zsg (nk_d (zky (rM (re rs i))) (zky (rM (re rs j0))))) hp39.1 ?_
            refine lv_if_le (tgt := 57) hx hb d_Mo_before_42 (by decide) (fun c42 => ?_) (fun c42 => ?_)
            · refine lv_iinc (v := nI (i + 1)) (lv' := [(3, .int (nI (i + 1))), (4, .ref (rN (re rs i))), (0, .ref a), (1, .ref b1), (2, .ref (rN (re rs j0)))]) hx hb d_Mo_before_57 hl (k := 4) rfl (nI_add i 1) (by decide) rfl (fun ls hl => ?_)
              refine lv_goto (tgt := 4) hx hb d_Mo_before_60 (by decide) ?_
              exact ih (i + 1) (some (rN (re rs j0))) _ _ (by omega) (by omega) (by first | exact zbst_keep hbo (fun z => c29 (zsg_lt.mpr z.1)) | exact zbst_keep hbo (fun z => absurd (zsg_lt.mpr z.1) (Int32.not_lt.mpr c29)) | exact zbst_keep hbo (fun z => z.2 (hp48.1.nz c51)) | exact zbst_le hj1 hj3 hj4 (fun z => absurd (zsg_gt.mpr z) (Int32.not_lt.mpr c42)) | exact zbst_new0 hn0 ⟨zsg_lt.mp (Int32.not_le.mp c29), hp48.1.z c51⟩ | exact zbst_new hj4 (zsg_gt.mp (Int32.not_le.mp c42)) ⟨zsg_lt.mp (Int32.not_le.mp c29), hp48.1.z c51⟩) hG hS ls (lv_sub hl [2, 3, 4, 0] rfl)
            · refine lv_aload_n hx hb d_Mo_before_45 rfl (lv_at hl 1 rfl) ?_
              refine lv_aload hx hb d_Mo_before_46 (lv_at hl 0 rfl) ?_
              refine zk_i (va_runV (As := [.ref (rN (re rs i))]) (rest := []) ⟨hx, hb, hml, hown, hts⟩ (t_Mo_away l E G rs a m1 m3 m4 m6 m7 m8 m9 m10 m11 m12 m15 m18 th tn m13 m14 m16 m17 m19 m20 ha hRS lo fo hm3 hfo hgo (rN (re rs i)) (rM (re rs i)) nf hr2 hr3 hr4) (zcV 1 hts w_1512 w_1514 wp_46 w_30 w_1515 (by decide +kernel) ⟨Nat.le_of_ble_eq_true rfl, Nat.le_of_ble_eq_true rfl⟩) (zc_preV hbase hK hN hQ hG hS ha rfl) rfl rfl hl.1 rfl (lv_room (Nat.le_of_ble_eq_true rfl)) d_Mo_before_48 ⟨(by decide), (by decide)⟩) hS (fun r48 G48 H locs hp48 hG hS => ?_)
              have hG : zP E G H := hp48.2 ▸ hG
              refine lv_if_ne (tgt := 57) hx hb d_Mo_before_51 (by decide) (fun c51 => ?_) (fun c51 => ?_)
              · refine lv_iinc (v := nI (i + 1)) (lv' := [(3, .int (nI (i + 1))), (4, .ref (rN (re rs i))), (0, .ref a), (1, .ref b1), (2, .ref (rN (re rs j0)))]) hx hb d_Mo_before_57 hl (k := 4) rfl (nI_add i 1) (by decide) rfl (fun ls hl => ?_)
                refine lv_goto (tgt := 4) hx hb d_Mo_before_60 (by decide) ?_
                exact ih (i + 1) (some (rN (re rs j0))) _ _ (by omega) (by omega) (by first | exact zbst_keep hbo (fun z => c29 (zsg_lt.mpr z.1)) | exact zbst_keep hbo (fun z => absurd (zsg_lt.mpr z.1) (Int32.not_lt.mpr c29)) | exact zbst_keep hbo (fun z => z.2 (hp48.1.nz c51)) | exact zbst_le hj1 hj3 hj4 (fun z => absurd (zsg_gt.mpr z) (Int32.not_lt.mpr c42)) | exact zbst_new0 hn0 ⟨zsg_lt.mp (Int32.not_le.mp c29), hp48.1.z c51⟩ | exact zbst_new hj4 (zsg_gt.mp (Int32.not_le.mp c42)) ⟨zsg_lt.mp (Int32.not_le.mp c29), hp48.1.z c51⟩) hG hS ls (lv_sub hl [2, 3, 4, 0] rfl)
              · refine lv_aload hx hb d_Mo_before_54 (lv_at hl 0 rfl) ?_
                refine lv_astore_n (lv' := [(2, .ref (rN (re rs i))), (4, .ref (rN (re rs i))), (0, .ref a), (1, .ref b1), (3, .int (nI i))]) hx hb d_Mo_before_56 rfl hl (by decide) rfl (fun ls hl => ?_)
                refine lv_iinc (v := nI (i + 1)) (lv' := [(3, .int (nI (i + 1))), (2, .ref (rN (re rs i))), (4, .ref (rN (re rs i))), (0, .ref a), (1, .ref b1)]) hx hb d_Mo_before_57 hl (k := 4) rfl (nI_add i 1) (by decide) rfl (fun ls hl => ?_)
                refine lv_goto (tgt := 4) hx hb d_Mo_before_60 (by decide) ?_
                exact ih (i + 1) (some (rN (re rs i))) _ _ (by omega) (by omega) (by first | exact zbst_keep hbo (fun z => c29 (zsg_lt.mpr z.1)) | exact zbst_keep hbo (fun z => absurd (zsg_lt.mpr z.1) (Int32.not_lt.mpr c29)) | exact zbst_keep hbo (fun z => z.2 (hp48.1.nz c51)) | exact zbst_le hj1 hj3 hj4 (fun z => absurd (zsg_gt.mpr z) (Int32.not_lt.mpr c42)) | exact zbst_new0 hn0 ⟨zsg_lt.mp (Int32.not_le.mp c29), hp48.1.z c51⟩ | exact zbst_new hj4 (zsg_gt.mp (Int32.not_le.mp c42)) ⟨zsg_lt.mp (Int32.not_le.mp c29), hp48.1.z c51⟩) hG hS ls (lv_sub hl [3, 4, 1, 0] rfl)
  exact loop4 _ 0 none _ _ (Nat.lt_succ_self _) (Nat.zero_le _) (Or.inl ⟨rfl, fun j h => absurd h (Nat.not_lt_zero j)⟩) hG hS ls (lv_sub hl [2, 3, 1, 0] rfl)
