/-- of the first i the first in order that is of that kind -/
def zlst (rs : List zRt) (cd : Nat → Prop) (i : Nat) (bo : Option Nat) : Prop := (bo = none ∧ ∀ j, j < i → ¬ cd j) ∨ ∃ j0, j0 < i ∧ bo = some (rN (re rs j0)) ∧ cd j0 ∧ ∀ j, j < i → cd j → ¬ nk_d (zkk rs j) (zkk rs j0) < 0
section ZLS
variable {rs : List zRt} {cd : Nat → Prop} {i : Nat}
theorem zlst_keep {bo : Option Nat} (h : zlst rs cd i bo) (hn : ¬ cd i) : zlst rs cd (i + 1) bo := by
  rcases h with ⟨e, h⟩ | ⟨j0, h1, h2, h3, h4⟩
  · exact Or.inl ⟨e, ae_step h hn⟩
  · refine Or.inr ⟨j0, by omega, h2, h3, fun j hj hc => ?_⟩
    rcases Nat.lt_or_ge j i with q | q
    · exact h4 j q hc
    · rw [show j = i by omega] at hc; exact absurd hc hn
theorem zlst_ge {j0 : Nat} (h1 : j0 < i) (h3 : cd j0) (h4 : ∀ j, j < i → cd j → ¬ nk_d (zkk rs j) (zkk rs j0) < 0) (hge : ¬ nk_d (zkk rs i) (zkk rs j0) < 0) : zlst rs cd (i + 1) (some (rN (re rs j0))) := by
  refine Or.inr ⟨j0, by omega, rfl, h3, fun j hj hc => ?_⟩
  rcases Nat.lt_or_ge j i with q | q
  · exact h4 j q hc
  · rw [show j = i by omega]; exact hge
theorem zlst_new0 (h : ∀ j, j < i → ¬ cd j) (hc : cd i) : zlst rs cd (i + 1) (some (rN (re rs i))) := by
  refine Or.inr ⟨i, by omega, rfl, hc, fun j hj hcj => ?_⟩
  rcases Nat.lt_or_ge j i with q | q
  · exact absurd hcj (h j q)
  · rw [show j = i by omega, nk_d_self]; omega
theorem zlst_new {j0 : Nat} (h4 : ∀ j, j < i → cd j → ¬ nk_d (zkk rs j) (zkk rs j0) < 0) (hlt : nk_d (zkk rs i) (zkk rs j0) < 0) (hc : cd i) : zlst rs cd (i + 1) (some (rN (re rs i))) := by
  refine Or.inr ⟨i, by omega, rfl, hc, fun j hj hcj => ?_⟩
  rcases Nat.lt_or_ge j i with q | q
  · exact fun z => h4 j q hcj (nk_d_tr z hlt)
  · rw [show j = i by omega, nk_d_self]; omega
end ZLS
abbrev c_Mo_behind : ByteArray := prog_12_method_13_code
abbrev y_Mo_behind : MethodName := ⟨"ZoneAnswersModel", "behind", "([B)[B"⟩
theorem d_Mo_behind_0 : decode c_Mo_behind 0 = .ok (.aconst_null, 1) := by decide +kernel
theorem d_Mo_behind_1 : decode c_Mo_behind 1 = .ok (.astore_n 2, 1) := by decide +kernel
theorem d_Mo_behind_2 : decode c_Mo_behind 2 = .ok (.aconst_null, 1) := by decide +kernel
theorem d_Mo_behind_3 : decode c_Mo_behind 3 = .ok (.astore_n 3, 1) := by decide +kernel
theorem d_Mo_behind_4 : decode c_Mo_behind 4 = .ok (.iconst 0, 1) := by decide +kernel
theorem d_Mo_behind_5 : decode c_Mo_behind 5 = .ok (.istore 4, 2) := by decide +kernel
theorem d_Mo_behind_7 : decode c_Mo_behind 7 = .ok (.iload 4, 2) := by decide +kernel
theorem d_Mo_behind_9 : decode c_Mo_behind 9 = .ok (.aload_n 0, 1) := by decide +kernel
theorem d_Mo_behind_10 : decode c_Mo_behind 10 = .ok (.getfield 61, 3) := by decide +kernel
theorem d_Mo_behind_13 : decode c_Mo_behind 13 = .ok (.if_icmp .ge 108, 3) := by decide +kernel
theorem d_Mo_behind_16 : decode c_Mo_behind 16 = .ok (.aload_n 0, 1) := by decide +kernel
theorem d_Mo_behind_17 : decode c_Mo_behind 17 = .ok (.getfield 19, 3) := by decide +kernel
theorem d_Mo_behind_20 : decode c_Mo_behind 20 = .ok (.iload 4, 2) := by decide +kernel
theorem d_Mo_behind_22 : decode c_Mo_behind 22 = .ok (.aaload, 1) := by decide +kernel
theorem d_Mo_behind_23 : decode c_Mo_behind 23 = .ok (.getfield 65, 3) := by decide +kernel
theorem d_Mo_behind_26 : decode c_Mo_behind 26 = .ok (.astore 5, 2) := by decide +kernel
theorem d_Mo_behind_28 : decode c_Mo_behind 28 = .ok (.aload 5, 2) := by decide +kernel
theorem d_Mo_behind_30 : decode c_Mo_behind 30 = .ok (.aload_n 1, 1) := by decide +kernel
theorem d_Mo_behind_31 : decode c_Mo_behind 31 = .ok (.invokestatic 116, 3) := by decide +kernel
theorem d_Mo_behind_34 : decode c_Mo_behind 34 = .ok (.ifCond .le 20, 3) := by decide +kernel
theorem d_Mo_behind_37 : decode c_Mo_behind 37 = .ok (.aload_n 2, 1) := by decide +kernel
theorem d_Mo_behind_38 : decode c_Mo_behind 38 = .ok (.ifnull 12, 3) := by decide +kernel
theorem d_Mo_behind_41 : decode c_Mo_behind 41 = .ok (.aload 5, 2) := by decide +kernel
theorem d_Mo_behind_43 : decode c_Mo_behind 43 = .ok (.aload_n 2, 1) := by decide +kernel
theorem d_Mo_behind_44 : decode c_Mo_behind 44 = .ok (.invokestatic 116, 3) := by decide +kernel
theorem d_Mo_behind_47 : decode c_Mo_behind 47 = .ok (.ifCond .ge 7, 3) := by decide +kernel
theorem d_Mo_behind_50 : decode c_Mo_behind 50 = .ok (.iconst 1, 1) := by decide +kernel
theorem d_Mo_behind_51 : decode c_Mo_behind 51 = .ok (.goto 4, 3) := by decide +kernel
theorem d_Mo_behind_54 : decode c_Mo_behind 54 = .ok (.iconst 0, 1) := by decide +kernel
theorem d_Mo_behind_55 : decode c_Mo_behind 55 = .ok (.istore 6, 2) := by decide +kernel
theorem d_Mo_behind_57 : decode c_Mo_behind 57 = .ok (.aload_n 3, 1) := by decide +kernel
theorem d_Mo_behind_58 : decode c_Mo_behind 58 = .ok (.ifnull 12, 3) := by decide +kernel
theorem d_Mo_behind_61 : decode c_Mo_behind 61 = .ok (.aload 5, 2) := by decide +kernel
theorem d_Mo_behind_63 : decode c_Mo_behind 63 = .ok (.aload_n 3, 1) := by decide +kernel
theorem d_Mo_behind_64 : decode c_Mo_behind 64 = .ok (.invokestatic 116, 3) := by decide +kernel
theorem d_Mo_behind_67 : decode c_Mo_behind 67 = .ok (.ifCond .ge 7, 3) := by decide +kernel
theorem d_Mo_behind_70 : decode c_Mo_behind 70 = .ok (.iconst 1, 1) := by decide +kernel
theorem d_Mo_behind_71 : decode c_Mo_behind 71 = .ok (.goto 4, 3) := by decide +kernel
theorem d_Mo_behind_74 : decode c_Mo_behind 74 = .ok (.iconst 0, 1) := by decide +kernel
theorem d_Mo_behind_75 : decode c_Mo_behind 75 = .ok (.istore 7, 2) := by decide +kernel
theorem d_Mo_behind_77 : decode c_Mo_behind 77 = .ok (.iload 6, 2) := by decide +kernel
theorem d_Mo_behind_79 : decode c_Mo_behind 79 = .ok (.ifCond .ne 8, 3) := by decide +kernel
theorem d_Mo_behind_82 : decode c_Mo_behind 82 = .ok (.iload 7, 2) := by decide +kernel
theorem d_Mo_behind_84 : decode c_Mo_behind 84 = .ok (.ifCond .eq 31, 3) := by decide +kernel
theorem d_Mo_behind_87 : decode c_Mo_behind 87 = .ok (.aload_n 0, 1) := by decide +kernel
theorem d_Mo_behind_88 : decode c_Mo_behind 88 = .ok (.aload 5, 2) := by decide +kernel
theorem d_Mo_behind_90 : decode c_Mo_behind 90 = .ok (.invokevirtual 113, 3) := by decide +kernel
theorem d_Mo_behind_93 : decode c_Mo_behind 93 = .ok (.ifCond .eq 6, 3) := by decide +kernel
theorem d_Mo_behind_96 : decode c_Mo_behind 96 = .ok (.goto 19, 3) := by decide +kernel
theorem d_Mo_behind_99 : decode c_Mo_behind 99 = .ok (.iload 6, 2) := by decide +kernel
theorem d_Mo_behind_101 : decode c_Mo_behind 101 = .ok (.ifCond .eq 6, 3) := by decide +kernel
theorem d_Mo_behind_104 : decode c_Mo_behind 104 = .ok (.aload 5, 2) := by decide +kernel
theorem d_Mo_behind_106 : decode c_Mo_behind 106 = .ok (.astore_n 2, 1) := by decide +kernel
theorem d_Mo_behind_107 : decode c_Mo_behind 107 = .ok (.iload 7, 2) := by decide +kernel
theorem d_Mo_behind_109 : decode c_Mo_behind 109 = .ok (.ifCond .eq 6, 3) := by decide +kernel
theorem d_Mo_behind_112 : decode c_Mo_behind 112 = .ok (.aload 5, 2) := by decide +kernel
theorem d_Mo_behind_114 : decode c_Mo_behind 114 = .ok (.astore_n 3, 1) := by decide +kernel
theorem d_Mo_behind_115 : decode c_Mo_behind 115 = .ok (.iinc 4 1, 3) := by decide +kernel
theorem d_Mo_behind_118 : decode c_Mo_behind 118 = .ok (.goto (-111), 3) := by decide +kernel
theorem d_Mo_behind_121 : decode c_Mo_behind 121 = .ok (.aload_n 2, 1) := by decide +kernel
theorem d_Mo_behind_122 : decode c_Mo_behind 122 = .ok (.ifnonnull 7, 3) := by decide +kernel
theorem d_Mo_behind_125 : decode c_Mo_behind 125 = .ok (.aload_n 3, 1) := by decide +kernel
theorem d_Mo_behind_126 : decode c_Mo_behind 126 = .ok (.goto 4, 3) := by decide +kernel
theorem d_Mo_behind_129 : decode c_Mo_behind 129 = .ok (.aload_n 2, 1) := by decide +kernel
theorem d_Mo_behind_130 : decode c_Mo_behind 130 = .ok (.areturn, 1) := by decide +kernel
abbrev rm_Mo_behind : Room := { frames := 6, cells := 0, slots := 0, locals := 160 }
set_option maxHeartbeats 4000000 in
set_option maxRecDepth 100000 in
/-- behind(x), of the reference -/
theorem t_Mo_behind (l : Launch) (E : zc_E) (G : zg_G) (rs : List zRt) (a m1 m3 m4 m6 m7 m8 m9 m10 m11 m12 m15 m18 : Nat) (th tn m13 m14 m16 m17 : Int32) (m19 m20 : Value) (ha : G a = some (.inr (11, [.int th, .ref m1, .int tn, .ref m3, .ref m4, .int (nI rs.length), .ref m6, .ref m7, .ref m8, .ref m9, .ref m10, .ref m11, .ref m12, .int m13, .int m14, .ref m15, .int m16, .int m17, .ref m18, m19, m20]))) (hRS : zRS E G m4 rs) (lo : np_N) (fo : Nat → Int32) (hm3 : G m3 = some (.inl (E.2.1 0, np_len lo, .inl fo))) (hfo : np_f lo fo) (hgo : np_g lo) (b1 : Nat) (ls1 : np_N) (f1 : Nat → Int32) (hb1 : G b1 = some (.inl (E.2.1 0, np_len ls1, .inl f1))) (hf1 : np_f ls1 f1) (hg1 : np_g ls1) (hft1 : sb_Fit f1) : zMq l E y_Mo_behind c_Mo_behind 8 (some (.array .byte)) rm_Mo_behind [.ref a, .ref b1] G (fun (r : Option Nat) (G2 : zg_G) => (∃ bo fo, zlst rs (fun j => 0 < nk_d (zkk rs j) (zky ls1) ∧ ¬ zaway lo rs (rM (re rs j))) rs.length bo ∧ zlst rs (fun j => ¬ zaway lo rs (rM (re rs j))) rs.length fo ∧ r = (match bo with | none => fo | some q => some q)) ∧ G2 = G) := by
  refine zMq.of (by decide) (Nat.le_of_ble_eq_true rfl) ?_
  intro p e s m args below meth c Q hZ hG hret ls hl
  obtain ⟨hx, hb, hr, hts, hown, hlocks, hml, hnm, hbase, hK, hN, hQ⟩ := hZ
  have hl : lv_has ls 8 [(0, .ref a), (1, .ref b1)] := hl
  have hS : zg_S (zc_b E) s.heap s.heap [] := va_S.rf
  obtain ⟨⟨fr, hm4, hfr⟩, hn2, hRs⟩ := id hRS
  refine lv_null hx hb d_Mo_behind_0 ?_
  refine lv_astore_nN (lv' := [(2, .null), (0, .ref a), (1, .ref b1)]) hx hb d_Mo_behind_1 rfl hl (by decide) rfl (fun ls hl => ?_)
  refine lv_null hx hb d_Mo_behind_2 ?_
  refine lv_astore_nN (lv' := [(3, .null), (2, .null), (0, .ref a), (1, .ref b1)]) hx hb d_Mo_behind_3 rfl hl (by decide) rfl (fun ls hl => ?_)
  refine lv_iconst (v := 0) hx hb d_Mo_behind_4 (by decide) ?_
  refine zi_as (y := nI 0) (nI_0.symm) ?_
  refine lv_istore (lv' := [(4, .int (nI 0)), (3, .null), (2, .null), (0, .ref a), (1, .ref b1)]) hx hb d_Mo_behind_5 hl (by decide) rfl (fun ls hl => ?_)
  have loop7 : ∀ (N : Nat) (i : Nat) (bo : Option Nat) (fo : Option Nat) (H : Heap) (locs : List Loc), (rs.length - i) < N → (i ≤ rs.length) → (zlst rs (fun j => 0 < nk_d (zkk rs j) (zky ls1) ∧ ¬ zaway lo rs (rM (re rs j))) i bo) → (zlst rs (fun j => ¬ zaway lo rs (rM (re rs j))) i fo) → zP E G H → zg_S (zc_b E) s.heap H locs → ∀ (ls : Array Slot), lv_has ls 8 [(0, .ref a), (1, .ref b1), (2, va_rf bo), (3, va_rf fo), (4, .int (nI i))] → W p l e rm_Mo_behind s m args below meth c H locs 0 0 Q (F0 m 7 ls []) := by
    intro N
    induction N with
    | zero =>
      intro i bo fo H locs hlt
      exact absurd hlt (Nat.not_lt_zero _)
    | succ N ih =>
      intro i bo fo H locs hlt hi hbb hbf hG hS ls hl
      rcases bo with _ | bq
      · have hnjb : ∀ j, j < i → ¬ (fun j => 0 < nk_d (zkk rs j) (zky ls1) ∧ ¬ zaway lo rs (rM (re rs j))) j := by
          rcases hbb with ⟨-, h⟩ | ⟨j9, -, h, -⟩
          · exact h
          · cases h
        have hl : lv_has ls 8 [(0, .ref a), (1, .ref b1), (2, .null), (3, va_rf fo), (4, .int (nI i))] := hl
        rcases fo with _ | fq
        · have hnjf : ∀ j, j < i → ¬ (fun j => ¬ zaway lo rs (rM (re rs j))) j := by
            rcases hbf with ⟨-, h⟩ | ⟨j9, -, h, -⟩
            · exact h
            · cases h
          have hl : lv_has ls 8 [(0, .ref a), (1, .ref b1), (2, .null), (3, .null), (4, .int (nI i))] := hl
          refine lv_iload hx hb d_Mo_behind_7 (lv_at hl 4 rfl) ?_
          refine lv_aload_n hx hb d_Mo_behind_9 rfl (lv_at hl 0 rfl) ?_
          refine zg_get (ci := 11) (C := "ZoneAnswersModel") (T := T_Mo) (N := 21) hx hb hts zi_Mo hown hK hG ha rfl 5 (by decide) (hts _ w_1286) (fun _ h9 => h9) rfl d_Mo_behind_10 ?_
          refine lv_icmp_ge (tgt := 121) hx hb d_Mo_behind_13 (by decide) (fun c13 => ?_) (fun c13 => ?_)
          · have b13 : rs.length ≤ i := (nI_leI (a := rs.length) (b := i) (by omega) (by omega)).mp c13
            refine lv_aload_nN hx hb d_Mo_behind_121 rfl (lv_at hl 2 rfl) ?_
            refine lv_ifnonnullN hx hb d_Mo_behind_122 ?_
            refine lv_aload_nN hx hb d_Mo_behind_125 rfl (lv_at hl 3 rfl) ?_
            refine lv_goto (tgt := 130) hx hb d_Mo_behind_126 (by decide) ?_
            exact hret none _ _ _ _ _ _ _ _ hr (Or.inr ⟨_, rfl⟩) (⟨⟨_, _, by rw [← show i = rs.length by omega]; exact hbb, by rw [← show i = rs.length by omega]; exact hbf, rfl⟩, rfl⟩) hG hS (Nat.le_refl _) (Nat.le_refl _) d_Mo_behind_130
          · have b13 : ¬ rs.length ≤ i := fun q => c13 ((nI_leI (a := rs.length) (b := i) (by omega) (by omega)).mpr q)
            have hin : i < rs.length := by omega
            obtain ⟨hr1, ⟨nf, hr2, hr3, hr4, hr5⟩, df, hr6, hr7, hr8⟩ := hRs _ (re_mem hin)
            have sm := hr4.2
            refine lv_aload_n hx hb d_Mo_behind_16 rfl (lv_at hl 0 rfl) ?_
            refine zg_get (ci := 11) (C := "ZoneAnswersModel") (T := T_Mo) (N := 21) hx hb hts zi_Mo hown hK hG ha rfl 4 (by decide) (hts _ w_1285) (fun _ h9 => h9) rfl d_Mo_behind_17 ?_
            refine lv_iload hx hb d_Mo_behind_20 (lv_at hl 4 rfl) ?_
            refine zg_aldq hx hb hK hG 4 hm4 rfl (vp_in_nI (by omega) (by omega)) d_Mo_behind_22 ?_
            refine zr_as (y := fr i) (by rw [zi_n _ (by omega)]) ?_
            refine zr_some (a := rA (re rs i)) (hfr i hin) ?_
            refine zg_get (ci := 12) (C := "ZoneAnswersModel$Rec") (T := T_Re) (N := 5) hx hb hts zi_Re hown hK hG hr1 rfl 0 (by decide) (hts _ w_1265) (fun _ h9 => h9) rfl d_Mo_behind_23 ?_
            refine lv_astore (lv' := [(5, .ref (rN (re rs i))), (0, .ref a), (1, .ref b1), (2, .null), (3, .null), (4, .int (nI i))]) hx hb d_Mo_behind_26 hl (by decide) rfl (fun ls hl => ?_)
            refine lv_aload hx hb d_Mo_behind_28 (lv_at hl 0 rfl) ?_
            refine lv_aload_n hx hb d_Mo_behind_30 rfl (lv_at hl 2 rfl) ?_
            refine zk_i (va_runS (As := [.ref (rN (re rs i)), .ref b1]) (rest := []) ⟨hx, hb, hml, hown, hts⟩ (t_Ns_order l E G (rN (re rs i)) (rM (re rs i)) nf hr2 hr3 hr4 hr5 b1 ls1 f1 hb1 hf1 hg1 hft1) (zcS 2 hts w_1505 w_1506 w_33 w_1507 (by decide +kernel) ⟨Nat.le_of_ble_eq_true rfl, Nat.le_of_ble_eq_true rfl⟩) (zc_pre hbase hK hN hQ hG hS) rfl rfl hl.1 rfl (lv_room (Nat.le_of_ble_eq_true rfl)) d_Mo_behind_31 ⟨(by decide), (by decide)⟩) hS (fun r31 G31 H locs hp31 hG hS => ?_)
            have hG : zP E G H := hp31.2 ▸ hG
            refine zi_as (y := zsg (nk_d (zky (rM (re rs i))) (zky ls1))) hp31.1 ?_
            refine lv_if_le (tgt := 54) hx hb d_Mo_behind_34 (by decide) (fun c34 => ?_) (fun c34 => ?_)
            · refine lv_iconst (v := 0) hx hb d_Mo_behind_54 (by decide) ?_
              refine lv_istore (lv' := [(6, .int 0), (5, .ref (rN (re rs i))), (0, .ref a), (1, .ref b1), (2, .null), (3, .null), (4, .int (nI i))]) hx hb d_Mo_behind_55 hl (by decide) rfl (fun ls hl => ?_)
              refine lv_aload_nN hx hb d_Mo_behind_57 rfl (lv_at hl 5 rfl) ?_
              refine lv_ifnullN (tgt := 70) hx hb d_Mo_behind_58 (by decide) ?_
              refine lv_iconst (v := 1) hx hb d_Mo_behind_70 (by decide) ?_
              refine lv_goto (tgt := 75) hx hb d_Mo_behind_71 (by decide) ?_
              refine lv_istore (lv' := [(7, .int 1), (6, .int 0), (5, .ref (rN (re rs i))), (0, .ref a), (1, .ref b1), (2, .null), (3, .null), (4, .int (nI i))]) hx hb d_Mo_behind_75 hl (by decide) rfl (fun ls hl => ?_)
              refine lv_iload hx hb d_Mo_behind_77 (lv_at hl 1 rfl) ?_
              refine lv_if_ne (tgt := 87) hx hb d_Mo_behind_79 (by decide) (fun c79 => ?_) (fun c79 => ?_)
              · have b79 : ¬ 0 = 0 := fun q => c79 ((nI_eq (a := 0) (b := 0) (by omega) (by omega)).mpr q)
                exact absurd b79 (by decide)
              · have b79 : 0 = 0 := (nI_eq (a := 0) (b := 0) (by omega) (by omega)).mp c79
                refine lv_iload hx hb d_Mo_behind_82 (lv_at hl 0 rfl) ?_
                refine lv_if_eq (tgt := 115) hx hb d_Mo_behind_84 (by decide) (fun c84 => ?_) (fun c84 => ?_)
                · have b84 : 1 = 0 := (nI_eq (a := 1) (b := 0) (by omega) (by omega)).mp c84
                  exact absurd b84 (by decide)
                · have b84 : ¬ 1 = 0 := fun q => c84 ((nI_eq (a := 1) (b := 0) (by omega) (by omega)).mpr q)
                  refine lv_aload_n hx hb d_Mo_behind_87 rfl (lv_at hl 3 rfl) ?_
                  refine lv_aload hx hb d_Mo_behind_88 (lv_at hl 2 rfl) ?_
                  refine zk_i (va_runV (As := [.ref (rN (re rs i))]) (rest := []) ⟨hx, hb, hml, hown, hts⟩ (t_Mo_away l E G rs a m1 m3 m4 m6 m7 m8 m9 m10 m11 m12 m15 m18 th tn m13 m14 m16 m17 m19 m20 ha hRS lo fo hm3 hfo hgo (rN (re rs i)) (rM (re rs i)) nf hr2 hr3 hr4) (zcV 1 hts w_1512 w_1514 wp_46 w_30 w_1515 (by decide +kernel) ⟨Nat.le_of_ble_eq_true rfl, Nat.le_of_ble_eq_true rfl⟩) (zc_preV hbase hK hN hQ hG hS ha rfl) rfl rfl hl.1 rfl (lv_room (Nat.le_of_ble_eq_true rfl)) d_Mo_behind_90 ⟨(by decide), (by decide)⟩) hS (fun r90 G90 H locs hp90 hG hS => ?_)
                  have hG : zP E G H := hp90.2 ▸ hG
                  refine lv_if_eq (tgt := 99) hx hb d_Mo_behind_93 (by decide) (fun c93 => ?_) (fun c93 => ?_)
                  · refine lv_iload hx hb d_Mo_behind_99 (lv_at hl 1 rfl) ?_
                    refine lv_if_eq (tgt := 107) hx hb d_Mo_behind_101 (by decide) (fun c101 => ?_) (fun c101 => ?_)
                    · have b101 : 0 = 0 := (nI_eq (a := 0) (b := 0) (by omega) (by omega)).mp c101
                      refine lv_iload hx hb d_Mo_behind_107 (lv_at hl 0 rfl) ?_
                      refine lv_if_eq (tgt := 115) hx hb d_Mo_behind_109 (by decide) (fun c109 => ?_) (fun c109 => ?_)
                      · have b109 : 1 = 0 := (nI_eq (a := 1) (b := 0) (by omega) (by omega)).mp c109
                        exact absurd b109 (by decide)
                      · have b109 : ¬ 1 = 0 := fun q => c109 ((nI_eq (a := 1) (b := 0) (by omega) (by omega)).mpr q)
                        refine lv_aload hx hb d_Mo_behind_112 (lv_at hl 2 rfl) ?_
                        refine lv_astore_n (lv' := [(3, .ref (rN (re rs i))), (7, .int 1), (6, .int 0), (5, .ref (rN (re rs i))), (0, .ref a), (1, .ref b1), (2, .null), (4, .int (nI i))]) hx hb d_Mo_behind_114 rfl hl (by decide) rfl (fun ls hl => ?_)
                        refine lv_iinc (v := nI (i + 1)) (lv' := [(4, .int (nI (i + 1))), (3, .ref (rN (re rs i))), (7, .int 1), (6, .int 0), (5, .ref (rN (re rs i))), (0, .ref a), (1, .ref b1), (2, .null)]) hx hb d_Mo_behind_115 hl (k := 7) rfl (nI_add i 1) (by decide) rfl (fun ls hl => ?_)
                        refine lv_goto (tgt := 7) hx hb d_Mo_behind_118 (by decide) ?_
                        exact ih (i + 1) none (some (rN (re rs i))) _ _ (by omega) (by omega) (by first | exact zlst_keep hbb (fun z => absurd (zsg_gt.mpr z.1) (Int32.not_lt.mpr c34)) | exact zlst_ge hjb1 hjb3 hjb4 (fun z => absurd (zsg_lt.mpr z) (Int32.not_lt.mpr c47)) | exact zlst_keep hbb (fun z => z.2 (hp90.1.nz c93)) | exact zlst_new0 hnjb ⟨zsg_gt.mp (Int32.not_le.mp c34), hp90.1.z c93⟩ | exact zlst_new hjb4 (zsg_lt.mp (Int32.not_le.mp c47)) ⟨zsg_gt.mp (Int32.not_le.mp c34), hp90.1.z c93⟩) (by first | exact zlst_ge hjf1 hjf3 hjf4 (fun z => absurd (zsg_lt.mpr z) (Int32.not_lt.mpr c67)) | exact zlst_keep hbf (fun z => z (hp90.1.nz c93)) | exact zlst_new0 hnjf (hp90.1.z c93) | exact zlst_new hjf4 (zsg_lt.mp (Int32.not_le.mp c67)) (hp90.1.z c93)) hG hS ls (lv_sub hl [5, 6, 7, 1, 0] rfl)
                    · have b101 : ¬ 0 = 0 := fun q => c101 ((nI_eq (a := 0) (b := 0) (by omega) (by omega)).mpr q)
                      exact absurd b101 (by decide)
                  · refine lv_goto (tgt := 115) hx hb d_Mo_behind_96 (by decide) ?_
                    refine lv_iinc (v := nI (i + 1)) (lv' := [(4, .int (nI (i + 1))), (7, .int 1), (6, .int 0), (5, .ref (rN (re rs i))), (0, .ref a), (1, .ref b1), (2, .null), (3, .null)]) hx hb d_Mo_behind_115 hl (k := 7) rfl (nI_add i 1) (by decide) rfl (fun ls hl => ?_)
                    refine lv_goto (tgt := 7) hx hb d_Mo_behind_118 (by decide) ?_
                    exact ih (i + 1) none none _ _ (by omega) (by omega) (by first | exact zlst_keep hbb (fun z => absurd (zsg_gt.mpr z.1) (Int32.not_lt.mpr c34)) | exact zlst_ge hjb1 hjb3 hjb4 (fun z => absurd (zsg_lt.mpr z) (Int32.not_lt.mpr c47)) | exact zlst_keep hbb (fun z => z.2 (hp90.1.nz c93)) | exact zlst_new0 hnjb ⟨zsg_gt.mp (Int32.not_le.mp c34), hp90.1.z c93⟩ | exact zlst_new hjb4 (zsg_lt.mp (Int32.not_le.mp c47)) ⟨zsg_gt.mp (Int32.not_le.mp c34), hp90.1.z c93⟩) (by first | exact zlst_ge hjf1 hjf3 hjf4 (fun z => absurd (zsg_lt.mpr z) (Int32.not_lt.mpr c67)) | exact zlst_keep hbf (fun z => z (hp90.1.nz c93)) | exact zlst_new0 hnjf (hp90.1.z c93) | exact zlst_new hjf4 (zsg_lt.mp (Int32.not_le.mp c67)) (hp90.1.z c93)) hG hS ls (lv_sub hl [4, 5, 6, 7, 0] rfl)
            · refine lv_aload_nN hx hb d_Mo_behind_37 rfl (lv_at hl 3 rfl) ?_
              refine lv_ifnullN (tgt := 50) hx hb d_Mo_behind_38 (by decide) ?_
              refine lv_iconst (v := 1) hx hb d_Mo_behind_50 (by decide) ?_
              refine lv_goto (tgt := 55) hx hb d_Mo_behind_51 (by decide) ?_
              refine lv_istore (lv' := [(6, .int 1), (5, .ref (rN (re rs i))), (0, .ref a), (1, .ref b1), (2, .null), (3, .null), (4, .int (nI i))]) hx hb d_Mo_behind_55 hl (by decide) rfl (fun ls hl => ?_)
              refine lv_aload_nN hx hb d_Mo_behind_57 rfl (lv_at hl 5 rfl) ?_
              refine lv_ifnullN (tgt := 70) hx hb d_Mo_behind_58 (by decide) ?_
              refine lv_iconst (v := 1) hx hb d_Mo_behind_70 (by decide) ?_
              refine lv_goto (tgt := 75) hx hb d_Mo_behind_71 (by decide) ?_
              refine lv_istore (lv' := [(7, .int 1), (6, .int 1), (5, .ref (rN (re rs i))), (0, .ref a), (1, .ref b1), (2, .null), (3, .null), (4, .int (nI i))]) hx hb d_Mo_behind_75 hl (by decide) rfl (fun ls hl => ?_)
              refine lv_iload hx hb d_Mo_behind_77 (lv_at hl 1 rfl) ?_
              refine lv_if_ne (tgt := 87) hx hb d_Mo_behind_79 (by decide) (fun c79 => ?_) (fun c79 => ?_)
              · have b79 : ¬ 1 = 0 := fun q => c79 ((nI_eq (a := 1) (b := 0) (by omega) (by omega)).mpr q)
                refine lv_aload_n hx hb d_Mo_behind_87 rfl (lv_at hl 3 rfl) ?_
                refine lv_aload hx hb d_Mo_behind_88 (lv_at hl 2 rfl) ?_
                refine zk_i (va_runV (As := [.ref (rN (re rs i))]) (rest := []) ⟨hx, hb, hml, hown, hts⟩ (t_Mo_away l E G rs a m1 m3 m4 m6 m7 m8 m9 m10 m11 m12 m15 m18 th tn m13 m14 m16 m17 m19 m20 ha hRS lo fo hm3 hfo hgo (rN (re rs i)) (rM (re rs i)) nf hr2 hr3 hr4) (zcV 1 hts w_1512 w_1514 wp_46 w_30 w_1515 (by decide +kernel) ⟨Nat.le_of_ble_eq_true rfl, Nat.le_of_ble_eq_true rfl⟩) (zc_preV hbase hK hN hQ hG hS ha rfl) rfl rfl hl.1 rfl (lv_room (Nat.le_of_ble_eq_true rfl)) d_Mo_behind_90 ⟨(by decide), (by decide)⟩) hS (fun r90 G90 H locs hp90 hG hS => ?_)
                have hG : zP E G H := hp90.2 ▸ hG
                refine lv_if_eq (tgt := 99) hx hb d_Mo_behind_93 (by decide) (fun c93 => ?_) (fun c93 => ?_)
                · refine lv_iload hx hb d_Mo_behind_99 (lv_at hl 1 rfl) ?_
                  refine lv_if_eq (tgt := 107) hx hb d_Mo_behind_101 (by decide) (fun c101 => ?_) (fun c101 => ?_)
                  · have b101 : 1 = 0 := (nI_eq (a := 1) (b := 0) (by omega) (by omega)).mp c101
                    exact absurd b101 (by decide)
                  · have b101 : ¬ 1 = 0 := fun q => c101 ((nI_eq (a := 1) (b := 0) (by omega) (by omega)).mpr q)
                    refine lv_aload hx hb d_Mo_behind_104 (lv_at hl 2 rfl) ?_
                    refine lv_astore_n (lv' := [(2, .ref (rN (re rs i))), (7, .int 1), (6, .int 1), (5, .ref (rN (re rs i))), (0, .ref a), (1, .ref b1), (3, .null), (4, .int (nI i))]) hx hb d_Mo_behind_106 rfl hl (by decide) rfl (fun ls hl => ?_)
                    refine lv_iload hx hb d_Mo_behind_107 (lv_at hl 1 rfl) ?_
                    refine lv_if_eq (tgt := 115) hx hb d_Mo_behind_109 (by decide) (fun c109 => ?_) (fun c109 => ?_)
                    · have b109 : 1 = 0 := (nI_eq (a := 1) (b := 0) (by omega) (by omega)).mp c109
                      exact absurd b109 (by decide)
                    · have b109 : ¬ 1 = 0 := fun q => c109 ((nI_eq (a := 1) (b := 0) (by omega) (by omega)).mpr q)
                      refine lv_aload hx hb d_Mo_behind_112 (lv_at hl 3 rfl) ?_
                      refine lv_astore_n (lv' := [(3, .ref (rN (re rs i))), (2, .ref (rN (re rs i))), (7, .int 1), (6, .int 1), (5, .ref (rN (re rs i))), (0, .ref a), (1, .ref b1), (4, .int (nI i))]) hx hb d_Mo_behind_114 rfl hl (by decide) rfl (fun ls hl => ?_)
                      refine lv_iinc (v := nI (i + 1)) (lv' := [(4, .int (nI (i + 1))), (3, .ref (rN (re rs i))), (2, .ref (rN (re rs i))), (7, .int 1), (6, .int 1), (5, .ref (rN (re rs i))), (0, .ref a), (1, .ref b1)]) hx hb d_Mo_behind_115 hl (k := 7) rfl (nI_add i 1) (by decide) rfl (fun ls hl => ?_)
                      refine lv_goto (tgt := 7) hx hb d_Mo_behind_118 (by decide) ?_
                      exact ih (i + 1) (some (rN (re rs i))) (some (rN (re rs i))) _ _ (by omega) (by omega) (by first | exact zlst_keep hbb (fun z => absurd (zsg_gt.mpr z.1) (Int32.not_lt.mpr c34)) | exact zlst_ge hjb1 hjb3 hjb4 (fun z => absurd (zsg_lt.mpr z) (Int32.not_lt.mpr c47)) | exact zlst_keep hbb (fun z => z.2 (hp90.1.nz c93)) | exact zlst_new0 hnjb ⟨zsg_gt.mp (Int32.not_le.mp c34), hp90.1.z c93⟩ | exact zlst_new hjb4 (zsg_lt.mp (Int32.not_le.mp c47)) ⟨zsg_gt.mp (Int32.not_le.mp c34), hp90.1.z c93⟩) (by first | exact zlst_ge hjf1 hjf3 hjf4 (fun z => absurd (zsg_lt.mpr z) (Int32.not_lt.mpr c67)) | exact zlst_keep hbf (fun z => z (hp90.1.nz c93)) | exact zlst_new0 hnjf (hp90.1.z c93) | exact zlst_new hjf4 (zsg_lt.mp (Int32.not_le.mp c67)) (hp90.1.z c93)) hG hS ls (lv_sub hl [6, 7, 2, 1, 0] rfl)
                · refine lv_goto (tgt := 115) hx hb d_Mo_behind_96 (by decide) ?_
                  refine lv_iinc (v := nI (i + 1)) (lv' := [(4, .int (nI (i + 1))), (7, .int 1), (6, .int 1), (5, .ref (rN (re rs i))), (0, .ref a), (1, .ref b1), (2, .null), (3, .null)]) hx hb d_Mo_behind_115 hl (k := 7) rfl (nI_add i 1) (by decide) rfl (fun ls hl => ?_)
                  refine lv_goto (tgt := 7) hx hb d_Mo_behind_118 (by decide) ?_
                  exact ih (i + 1) none none _ _ (by omega) (by omega) (by first | exact zlst_keep hbb (fun z => absurd (zsg_gt.mpr z.1) (Int32.not_lt.mpr c34)) | exact zlst_ge hjb1 hjb3 hjb4 (fun z => absurd (zsg_lt.mpr z) (Int32.not_lt.mpr c47)) | exact zlst_keep hbb (fun z => z.2 (hp90.1.nz c93)) | exact zlst_new0 hnjb ⟨zsg_gt.mp (Int32.not_le.mp c34), hp90.1.z c93⟩ | exact zlst_new hjb4 (zsg_lt.mp (Int32.not_le.mp c47)) ⟨zsg_gt.mp (Int32.not_le.mp c34), hp90.1.z c93⟩) (by first | exact zlst_ge hjf1 hjf3 hjf4 (fun z => absurd (zsg_lt.mpr z) (Int32.not_lt.mpr c67)) | exact zlst_keep hbf (fun z => z (hp90.1.nz c93)) | exact zlst_new0 hnjf (hp90.1.z c93) | exact zlst_new hjf4 (zsg_lt.mp (Int32.not_le.mp c67)) (hp90.1.z c93)) hG hS ls (lv_sub hl [4, 5, 6, 7, 0] rfl)
              · have b79 : 1 = 0 := (nI_eq (a := 1) (b := 0) (by omega) (by omega)).mp c79
                exact absurd b79 (by decide)
        · obtain ⟨jf, hjf1, hjf2, hjf3, hjf4⟩ : ∃ j0, j0 < i ∧ some fq = some (rN (re rs j0)) ∧ (fun j => ¬ zaway lo rs (rM (re rs j))) j0 ∧ ∀ j, j < i → (fun j => ¬ zaway lo rs (rM (re rs j))) j → ¬ nk_d (zkk rs j) (zkk rs j0) < 0 := by
            rcases hbf with ⟨h, -⟩ | h
            · cases h
            · exact h
          have efq : fq = rN (re rs jf) := Option.some.inj hjf2
          subst efq
          obtain ⟨-, ⟨nff, gjf2, gjf3, gjf4, gjf5⟩, -⟩ := hRs _ (re_mem (show jf < rs.length by omega))
          have hl : lv_has ls 8 [(0, .ref a), (1, .ref b1), (2, .null), (3, .ref (rN (re rs jf))), (4, .int (nI i))] := hl
          refine lv_iload hx hb d_Mo_behind_7 (lv_at hl 4 rfl) ?_
          refine lv_aload_n hx hb d_Mo_behind_9 rfl (lv_at hl 0 rfl) ?_
          refine zg_get (ci := 11) (C := "ZoneAnswersModel") (T := T_Mo) (N := 21) hx hb hts zi_Mo hown hK hG ha rfl 5 (by decide) (hts _ w_1286) (fun _ h9 => h9) rfl d_Mo_behind_10 ?_
          refine lv_icmp_ge (tgt := 121) hx hb d_Mo_behind_13 (by decide) (fun c13 => ?_) (fun c13 => ?_)
          · have b13 : rs.length ≤ i := (nI_leI (a := rs.length) (b := i) (by omega) (by omega)).mp c13
            refine lv_aload_nN hx hb d_Mo_behind_121 rfl (lv_at hl 2 rfl) ?_
            refine lv_ifnonnullN hx hb d_Mo_behind_122 ?_
            refine lv_aload_n hx hb d_Mo_behind_125 rfl (lv_at hl 3 rfl) ?_
            refine lv_goto (tgt := 130) hx hb d_Mo_behind_126 (by decide) ?_
            exact hret (some (rN (re rs jf))) _ _ _ _ _ _ _ _ hr (Or.inr ⟨_, rfl⟩) (⟨⟨_, _, by rw [← show i = rs.length by omega]; exact hbb, by rw [← show i = rs.length by omega]; exact hbf, rfl⟩, rfl⟩) hG hS (Nat.le_refl _) (Nat.le_refl _) d_Mo_behind_130
          · have b13 : ¬ rs.length ≤ i := fun q => c13 ((nI_leI (a := rs.length) (b := i) (by omega) (by omega)).mpr q)
            have hin : i < rs.length := by omega
            obtain ⟨hr1, ⟨nf, hr2, hr3, hr4, hr5⟩, df, hr6, hr7, hr8⟩ := hRs _ (re_mem hin)
            have sm := hr4.2
            refine lv_aload_n hx hb d_Mo_behind_16 rfl (lv_at hl 0 rfl) ?_
            refine zg_get (ci := 11) (C := "ZoneAnswersModel") (T := T_Mo) (N := 21) hx hb hts zi_Mo hown hK hG ha rfl 4 (by decide) (hts _ w_1285) (fun _ h9 => h9) rfl d_Mo_behind_17 ?_
            refine lv_iload hx hb d_Mo_behind_20 (lv_at hl 4 rfl) ?_
            refine zg_aldq hx hb hK hG 4 hm4 rfl (vp_in_nI (by omega) (by omega)) d_Mo_behind_22 ?_
            refine zr_as (y := fr i) (by rw [zi_n _ (by omega)]) ?_
            refine zr_some (a := rA (re rs i)) (hfr i hin) ?_
            refine zg_get (ci := 12) (C := "ZoneAnswersModel$Rec") (T := T_Re) (N := 5) hx hb hts zi_Re hown hK hG hr1 rfl 0 (by decide) (hts _ w_1265) (fun _ h9 => h9) rfl d_Mo_behind_23 ?_
            refine lv_astore (lv' := [(5, .ref (rN (re rs i))), (0, .ref a), (1, .ref b1), (2, .null), (3, .ref (rN (re rs jf))), (4, .int (nI i))]) hx hb d_Mo_behind_26 hl (by decide) rfl (fun ls hl => ?_)
            refine lv_aload hx hb d_Mo_behind_28 (lv_at hl 0 rfl) ?_
            refine lv_aload_n hx hb d_Mo_behind_30 rfl (lv_at hl 2 rfl) ?_
            refine zk_i (va_runS (As := [.ref (rN (re rs i)), .ref b1]) (rest := []) ⟨hx, hb, hml, hown, hts⟩ (t_Ns_order l E G (rN (re rs i)) (rM (re rs i)) nf hr2 hr3 hr4 hr5 b1 ls1 f1 hb1 hf1 hg1 hft1) (zcS 2 hts w_1505 w_1506 w_33 w_1507 (by decide +kernel) ⟨Nat.le_of_ble_eq_true rfl, Nat.le_of_ble_eq_true rfl⟩) (zc_pre hbase hK hN hQ hG hS) rfl rfl hl.1 rfl (lv_room (Nat.le_of_ble_eq_true rfl)) d_Mo_behind_31 ⟨(by decide), (by decide)⟩) hS (fun r31 G31 H locs hp31 hG hS => ?_)
            have hG : zP E G H := hp31.2 ▸ hG
            refine zi_as (y := zsg (nk_d (zky (rM (re rs i))) (zky ls1))) hp31.1 ?_
            refine lv_if_le (tgt := 54) hx hb d_Mo_behind_34 (by decide) (fun c34 => ?_) (fun c34 => ?_)
            · refine lv_iconst (v := 0) hx hb d_Mo_behind_54 (by decide) ?_
              refine lv_istore (lv' := [(6, .int 0), (5, .ref (rN (re rs i))), (0, .ref a), (1, .ref b1), (2, .null), (3, .ref (rN (re rs jf))), (4, .int (nI i))]) hx hb d_Mo_behind_55 hl (by decide) rfl (fun ls hl => ?_)
              refine lv_aload_n hx hb d_Mo_behind_57 rfl (lv_at hl 5 rfl) ?_
              refine lv_ifnull hx hb d_Mo_behind_58 ?_
              refine lv_aload hx hb d_Mo_behind_61 (lv_at hl 1 rfl) ?_
              refine lv_aload_n hx hb d_Mo_behind_63 rfl (lv_at hl 5 rfl) ?_
              refine zk_i (va_runS (As := [.ref (rN (re rs i)), .ref (rN (re rs jf))]) (rest := []) ⟨hx, hb, hml, hown, hts⟩ (t_Ns_order l E G (rN (re rs i)) (rM (re rs i)) nf hr2 hr3 hr4 hr5 (rN (re rs jf)) (rM (re rs jf)) nff gjf2 gjf3 gjf4 gjf5) (zcS 2 hts w_1505 w_1506 w_33 w_1507 (by decide +kernel) ⟨Nat.le_of_ble_eq_true rfl, Nat.le_of_ble_eq_true rfl⟩) (zc_pre hbase hK hN hQ hG hS) rfl rfl hl.1 rfl (lv_room (Nat.le_of_ble_eq_true rfl)) d_Mo_behind_64 ⟨(by decide), (by decide)⟩) hS (fun r64 G64 H locs hp64 hG hS => ?_)
              have hG : zP E G H := hp64.2 ▸ hG
              refine zi_as (y := zsg (nk_d (zky (rM (re rs i))) (zky (rM (re rs jf))))) hp64.1 ?_
              refine lv_if_ge (tgt := 74) hx hb d_Mo_behind_67 (by decide) (fun c67 => ?_) (fun c67 => ?_)
              · refine lv_iconst (v := 0) hx hb d_Mo_behind_74 (by decide) ?_
                refine lv_istore (lv' := [(7, .int 0), (6, .int 0), (5, .ref (rN (re rs i))), (0, .ref a), (1, .ref b1), (2, .null), (3, .ref (rN (re rs jf))), (4, .int (nI i))]) hx hb d_Mo_behind_75 hl (by decide) rfl (fun ls hl => ?_)
                refine lv_iload hx hb d_Mo_behind_77 (lv_at hl 1 rfl) ?_
                refine lv_if_ne (tgt := 87) hx hb d_Mo_behind_79 (by decide) (fun c79 => ?_) (fun c79 => ?_)
                · have b79 : ¬ 0 = 0 := fun q => c79 ((nI_eq (a := 0) (b := 0) (by omega) (by omega)).mpr q)
                  exact absurd b79 (by decide)
                · have b79 : 0 = 0 := (nI_eq (a := 0) (b := 0) (by omega) (by omega)).mp c79
                  refine lv_iload hx hb d_Mo_behind_82 (lv_at hl 0 rfl) ?_
                  refine lv_if_eq (tgt := 115) hx hb d_Mo_behind_84 (by decide) (fun c84 => ?_) (fun c84 => ?_)
                  · have b84 : 0 = 0 := (nI_eq (a := 0) (b := 0) (by omega) (by omega)).mp c84
                    refine lv_iinc (v := nI (i + 1)) (lv' := [(4, .int (nI (i + 1))), (7, .int 0), (6, .int 0), (5, .ref (rN (re rs i))), (0, .ref a), (1, .ref b1), (2, .null), (3, .ref (rN (re rs jf)))]) hx hb d_Mo_behind_115 hl (k := 7) rfl (nI_add i 1) (by decide) rfl (fun ls hl => ?_)
                    refine lv_goto (tgt := 7) hx hb d_Mo_behind_118 (by decide) ?_
                    exact ih (i + 1) none (some (rN (re rs jf))) _ _ (by omega) (by omega) (by first | exact zlst_keep hbb (fun z => absurd (zsg_gt.mpr z.1) (Int32.not_lt.mpr c34)) | exact zlst_ge hjb1 hjb3 hjb4 (fun z => absurd (zsg_lt.mpr z) (Int32.not_lt.mpr c47)) | exact zlst_keep hbb (fun z => z.2 (hp90.1.nz c93)) | exact zlst_new0 hnjb ⟨zsg_gt.mp (Int32.not_le.mp c34), hp90.1.z c93⟩ | exact zlst_new hjb4 (zsg_lt.mp (Int32.not_le.mp c47)) ⟨zsg_gt.mp (Int32.not_le.mp c34), hp90.1.z c93⟩) (by first | exact zlst_ge hjf1 hjf3 hjf4 (fun z => absurd (zsg_lt.mpr z) (Int32.not_lt.mpr c67)) | exact zlst_keep hbf (fun z => z (hp90.1.nz c93)) | exact zlst_new0 hnjf (hp90.1.z c93) | exact zlst_new hjf4 (zsg_lt.mp (Int32.not_le.mp c67)) (hp90.1.z c93)) hG hS ls (lv_sub hl [4, 5, 6, 7, 0] rfl)
                  · have b84 : ¬ 0 = 0 := fun q => c84 ((nI_eq (a := 0) (b := 0) (by omega) (by omega)).mpr q)
                    exact absurd b84 (by decide)
              · refine lv_iconst (v := 1) hx hb d_Mo_behind_70 (by decide) ?_
                refine lv_goto (tgt := 75) hx hb d_Mo_behind_71 (by decide) ?_
                refine lv_istore (lv' := [(7, .int 1), (6, .int 0), (5, .ref (rN (re rs i))), (0, .ref a), (1, .ref b1), (2, .null), (3, .ref (rN (re rs jf))), (4, .int (nI i))]) hx hb d_Mo_behind_75 hl (by decide) rfl (fun ls hl => ?_)
                refine lv_iload hx hb d_Mo_behind_77 (lv_at hl 1 rfl) ?_
                refine lv_if_ne (tgt := 87) hx hb d_Mo_behind_79 (by decide) (fun c79 => ?_) (fun c79 => ?_)
                · have b79 : ¬ 0 = 0 := fun q => c79 ((nI_eq (a := 0) (b := 0) (by omega) (by omega)).mpr q)
                  exact absurd b79 (by decide)
                · have b79 : 0 = 0 := (nI_eq (a := 0) (b := 0) (by omega) (by omega)).mp c79
                  refine lv_iload hx hb d_Mo_behind_82 (lv_at hl 0 rfl) ?_
                  refine lv_if_eq (tgt := 115) hx hb d_Mo_behind_84 (by decide) (fun c84 => ?_) (fun c84 => ?_)
                  · have b84 : 1 = 0 := (nI_eq (a := 1) (b := 0) (by omega) (by omega)).mp c84
                    exact absurd b84 (by decide)
                  · have b84 : ¬ 1 = 0 := fun q => c84 ((nI_eq (a := 1) (b := 0) (by omega) (by omega)).mpr q)
                    refine lv_aload_n hx hb d_Mo_behind_87 rfl (lv_at hl 3 rfl) ?_
                    refine lv_aload hx hb d_Mo_behind_88 (lv_at hl 2 rfl) ?_
                    refine zk_i (va_runV (As := [.ref (rN (re rs i))]) (rest := []) ⟨hx, hb, hml, hown, hts⟩ (t_Mo_away l E G rs a m1 m3 m4 m6 m7 m8 m9 m10 m11 m12 m15 m18 th tn m13 m14 m16 m17 m19 m20 ha hRS lo fo hm3 hfo hgo (rN (re rs i)) (rM (re rs i)) nf hr2 hr3 hr4) (zcV 1 hts w_1512 w_1514 wp_46 w_30 w_1515 (by decide +kernel) ⟨Nat.le_of_ble_eq_true rfl, Nat.le_of_ble_eq_true rfl⟩) (zc_preV hbase hK hN hQ hG hS ha rfl) rfl rfl hl.1 rfl (lv_room (Nat.le_of_ble_eq_true rfl)) d_Mo_behind_90 ⟨(by decide), (by decide)⟩) hS (fun r90 G90 H locs hp90 hG hS => ?_)
                    have hG : zP E G H := hp90.2 ▸ hG
                    refine lv_if_eq (tgt := 99) hx hb d_Mo_behind_93 (by decide) (fun c93 => ?_) (fun c93 => ?_)
                    · refine lv_iload hx hb d_Mo_behind_99 (lv_at hl 1 rfl) ?_
                      refine lv_if_eq (tgt := 107) hx hb d_Mo_behind_101 (by decide) (fun c101 => ?_) (fun c101 => ?_)
                      · have b101 : 0 = 0 := (nI_eq (a := 0) (b := 0) (by omega) (by omega)).mp c101
                        refine lv_iload hx hb d_Mo_behind_107 (lv_at hl 0 rfl) ?_
                        refine lv_if_eq (tgt := 115) hx hb d_Mo_behind_109 (by decide) (fun c109 => ?_) (fun c109 => ?_)
                        · have b109 : 1 = 0 := (nI_eq (a := 1) (b := 0) (by omega) (by omega)).mp c109
                          exact absurd b109 (by decide)
                        · have b109 : ¬ 1 = 0 := fun q => c109 ((nI_eq (a := 1) (b := 0) (by omega) (by omega)).mpr q)
                          refine lv_aload hx hb d_Mo_behind_112 (lv_at hl 2 rfl) ?_
                          refine lv_astore_n (lv' := [(3, .ref (rN (re rs i))), (7, .int 1), (6, .int 0), (5, .ref (rN (re rs i))), (0, .ref a), (1, .ref b1), (2, .null), (4, .int (nI i))]) hx hb d_Mo_behind_114 rfl hl (by decide) rfl (fun ls hl => ?_)
                          refine lv_iinc (v := nI (i + 1)) (lv' := [(4, .int (nI (i + 1))), (3, .ref (rN (re rs i))), (7, .int 1), (6, .int 0), (5, .ref (rN (re rs i))), (0, .ref a), (1, .ref b1), (2, .null)]) hx hb d_Mo_behind_115 hl (k := 7) rfl (nI_add i 1) (by decide) rfl (fun ls hl => ?_)
                          refine lv_goto (tgt := 7) hx hb d_Mo_behind_118 (by decide) ?_
                          exact ih (i + 1) none (some (rN (re rs i))) _ _ (by omega) (by omega) (by first | exact zlst_keep hbb (fun z => absurd (zsg_gt.mpr z.1) (Int32.not_lt.mpr c34)) | exact zlst_ge hjb1 hjb3 hjb4 (fun z => absurd (zsg_lt.mpr z) (Int32.not_lt.mpr c47)) | exact zlst_keep hbb (fun z => z.2 (hp90.1.nz c93)) | exact zlst_new0 hnjb ⟨zsg_gt.mp (Int32.not_le.mp c34), hp90.1.z c93⟩ | exact zlst_new hjb4 (zsg_lt.mp (Int32.not_le.mp c47)) ⟨zsg_gt.mp (Int32.not_le.mp c34), hp90.1.z c93⟩) (by first | exact zlst_ge hjf1 hjf3 hjf4 (fun z => absurd (zsg_lt.mpr z) (Int32.not_lt.mpr c67)) | exact zlst_keep hbf (fun z => z (hp90.1.nz c93)) | exact zlst_new0 hnjf (hp90.1.z c93) | exact zlst_new hjf4 (zsg_lt.mp (Int32.not_le.mp c67)) (hp90.1.z c93)) hG hS ls (lv_sub hl [5, 6, 7, 1, 0] rfl)
                      · have b101 : ¬ 0 = 0 := fun q => c101 ((nI_eq (a := 0) (b := 0) (by omega) (by omega)).mpr q)
                        exact absurd b101 (by decide)
                    · refine lv_goto (tgt := 115) hx hb d_Mo_behind_96 (by decide) ?_
                      refine lv_iinc (v := nI (i + 1)) (lv' := [(4, .int (nI (i + 1))), (7, .int 1), (6, .int 0), (5, .ref (rN (re rs i))), (0, .ref a), (1, .ref b1), (2, .null), (3, .ref (rN (re rs jf)))]) hx hb d_Mo_behind_115 hl (k := 7) rfl (nI_add i 1) (by decide) rfl (fun ls hl => ?_)
                      refine lv_goto (tgt := 7) hx hb d_Mo_behind_118 (by decide) ?_
                      exact ih (i + 1) none (some (rN (re rs jf))) _ _ (by omega) (by omega) (by first | exact zlst_keep hbb (fun z => absurd (zsg_gt.mpr z.1) (Int32.not_lt.mpr c34)) | exact zlst_ge hjb1 hjb3 hjb4 (fun z => absurd (zsg_lt.mpr z) (Int32.not_lt.mpr c47)) | exact zlst_keep hbb (fun z => z.2 (hp90.1.nz c93)) | exact zlst_new0 hnjb ⟨zsg_gt.mp (Int32.not_le.mp c34), hp90.1.z c93⟩ | exact zlst_new hjb4 (zsg_lt.mp (Int32.not_le.mp c47)) ⟨zsg_gt.mp (Int32.not_le.mp c34), hp90.1.z c93⟩) (by first | exact zlst_ge hjf1 hjf3 hjf4 (fun z => absurd (zsg_lt.mpr z) (Int32.not_lt.mpr c67)) | exact zlst_keep hbf (fun z => z (hp90.1.nz c93)) | exact zlst_new0 hnjf (hp90.1.z c93) | exact zlst_new hjf4 (zsg_lt.mp (Int32.not_le.mp c67)) (hp90.1.z c93)) hG hS ls (lv_sub hl [4, 5, 6, 7, 0] rfl)
            · refine lv_aload_nN hx hb d_Mo_behind_37 rfl (lv_at hl 3 rfl) ?_
              refine lv_ifnullN (tgt := 50) hx hb d_Mo_behind_38 (by decide) ?_
              refine lv_iconst (v := 1) hx hb d_Mo_behind_50 (by decide) ?_
              refine lv_goto (tgt := 55) hx hb d_Mo_behind_51 (by decide) ?_
              refine lv_istore (lv' := [(6, .int 1), (5, .ref (rN (re rs i))), (0, .ref a), (1, .ref b1), (2, .null), (3, .ref (rN (re rs jf))), (4, .int (nI i))]) hx hb d_Mo_behind_55 hl (by decide) rfl (fun ls hl => ?_)
              refine lv_aload_n hx hb d_Mo_behind_57 rfl (lv_at hl 5 rfl) ?_
              refine lv_ifnull hx hb d_Mo_behind_58 ?_
              refine lv_aload hx hb d_Mo_behind_61 (lv_at hl 1 rfl) ?_
              refine lv_aload_n hx hb d_Mo_behind_63 rfl (lv_at hl 5 rfl) ?_
              refine zk_i (va_runS (As := [.ref (rN (re rs i)), .ref (rN (re rs jf))]) (rest := []) ⟨hx, hb, hml, hown, hts⟩ (t_Ns_order l E G (rN (re rs i)) (rM (re rs i)) nf hr2 hr3 hr4 hr5 (rN (re rs jf)) (rM (re rs jf)) nff gjf2 gjf3 gjf4 gjf5) (zcS 2 hts w_1505 w_1506 w_33 w_1507 (by decide +kernel) ⟨Nat.le_of_ble_eq_true rfl, Nat.le_of_ble_eq_true rfl⟩) (zc_pre hbase hK hN hQ hG hS) rfl rfl hl.1 rfl (lv_room (Nat.le_of_ble_eq_true rfl)) d_Mo_behind_64 ⟨(by decide), (by decide)⟩) hS (fun r64 G64 H locs hp64 hG hS => ?_)
              have hG : zP E G H := hp64.2 ▸ hG
              refine zi_as (y := zsg (nk_d (zky (rM (re rs i))) (zky (rM (re rs jf))))) hp64.1 ?_
              refine lv_if_ge (tgt := 74) hx hb d_Mo_behind_67 (by decide) (fun c67 => ?_) (fun c67 => ?_)
              · refine lv_iconst (v := 0) hx hb d_Mo_behind_74 (by decide) ?_
                refine lv_istore (lv' := [(7, .int 0), (6, .int 1), (5, .ref (rN (re rs i))), (0, .ref a), (1, .ref b1), (2, .null), (3, .ref (rN (re rs jf))), (4, .int (nI i))]) hx hb d_Mo_behind_75 hl (by decide) rfl (fun ls hl => ?_)
                refine lv_iload hx hb d_Mo_behind_77 (lv_at hl 1 rfl) ?_
                refine lv_if_ne (tgt := 87) hx hb d_Mo_behind_79 (by decide) (fun c79 => ?_) (fun c79 => ?_)
                · have b79 : ¬ 1 = 0 := fun q => c79 ((nI_eq (a := 1) (b := 0) (by omega) (by omega)).mpr q)
                  refine lv_aload_n hx hb d_Mo_behind_87 rfl (lv_at hl 3 rfl) ?_
                  refine lv_aload hx hb d_Mo_behind_88 (lv_at hl 2 rfl) ?_
                  refine zk_i (va_runV (As := [.ref (rN (re rs i))]) (rest := []) ⟨hx, hb, hml, hown, hts⟩ (t_Mo_away l E G rs a m1 m3 m4 m6 m7 m8 m9 m10 m11 m12 m15 m18 th tn m13 m14 m16 m17 m19 m20 ha hRS lo fo hm3 hfo hgo (rN (re rs i)) (rM (re rs i)) nf hr2 hr3 hr4) (zcV 1 hts w_1512 w_1514 wp_46 w_30 w_1515 (by decide +kernel) ⟨Nat.le_of_ble_eq_true rfl, Nat.le_of_ble_eq_true rfl⟩) (zc_preV hbase hK hN hQ hG hS ha rfl) rfl rfl hl.1 rfl (lv_room (Nat.le_of_ble_eq_true rfl)) d_Mo_behind_90 ⟨(by decide), (by decide)⟩) hS (fun r90 G90 H locs hp90 hG hS => ?_)
                  have hG : zP E G H := hp90.2 ▸ hG
                  refine lv_if_eq (tgt := 99) hx hb d_Mo_behind_93 (by decide) (fun c93 => ?_) (fun c93 => ?_)
                  · refine lv_iload hx hb d_Mo_behind_99 (lv_at hl 1 rfl) ?_
                    refine lv_if_eq (tgt := 107) hx hb d_Mo_behind_101 (by decide) (fun c101 => ?_) (fun c101 => ?_)
                    · have b101 : 1 = 0 := (nI_eq (a := 1) (b := 0) (by omega) (by omega)).mp c101
                      exact absurd b101 (by decide)
                    · have b101 : ¬ 1 = 0 := fun q => c101 ((nI_eq (a := 1) (b := 0) (by omega) (by omega)).mpr q)
                      refine lv_aload hx hb d_Mo_behind_104 (lv_at hl 2 rfl) ?_
                      refine lv_astore_n (lv' := [(2, .ref (rN (re rs i))), (7, .int 0), (6, .int 1), (5, .ref (rN (re rs i))), (0, .ref a), (1, .ref b1), (3, .ref (rN (re rs jf))), (4, .int (nI i))]) hx hb d_Mo_behind_106 rfl hl (by decide) rfl (fun ls hl => ?_)
                      refine lv_iload hx hb d_Mo_behind_107 (lv_at hl 1 rfl) ?_
                      refine lv_if_eq (tgt := 115) hx hb d_Mo_behind_109 (by decide) (fun c109 => ?_) (fun c109 => ?_)
                      · have b109 : 0 = 0 := (nI_eq (a := 0) (b := 0) (by omega) (by omega)).mp c109
                        refine lv_iinc (v := nI (i + 1)) (lv' := [(4, .int (nI (i + 1))), (2, .ref (rN (re rs i))), (7, .int 0), (6, .int 1), (5, .ref (rN (re rs i))), (0, .ref a), (1, .ref b1), (3, .ref (rN (re rs jf)))]) hx hb d_Mo_behind_115 hl (k := 7) rfl (nI_add i 1) (by decide) rfl (fun ls hl => ?_)
                        refine lv_goto (tgt := 7) hx hb d_Mo_behind_118 (by decide) ?_
                        exact ih (i + 1) (some (rN (re rs i))) (some (rN (re rs jf))) _ _ (by omega) (by omega) (by first | exact zlst_keep hbb (fun z => absurd (zsg_gt.mpr z.1) (Int32.not_lt.mpr c34)) | exact zlst_ge hjb1 hjb3 hjb4 (fun z => absurd (zsg_lt.mpr z) (Int32.not_lt.mpr c47)) | exact zlst_keep hbb (fun z => z.2 (hp90.1.nz c93)) | exact zlst_new0 hnjb ⟨zsg_gt.mp (Int32.not_le.mp c34), hp90.1.z c93⟩ | exact zlst_new hjb4 (zsg_lt.mp (Int32.not_le.mp c47)) ⟨zsg_gt.mp (Int32.not_le.mp c34), hp90.1.z c93⟩) (by first | exact zlst_ge hjf1 hjf3 hjf4 (fun z => absurd (zsg_lt.mpr z) (Int32.not_lt.mpr c67)) | exact zlst_keep hbf (fun z => z (hp90.1.nz c93)) | exact zlst_new0 hnjf (hp90.1.z c93) | exact zlst_new hjf4 (zsg_lt.mp (Int32.not_le.mp c67)) (hp90.1.z c93)) hG hS ls (lv_sub hl [5, 6, 1, 7, 0] rfl)
                      · have b109 : ¬ 0 = 0 := fun q => c109 ((nI_eq (a := 0) (b := 0) (by omega) (by omega)).mpr q)
                        exact absurd b109 (by decide)
                  · refine lv_goto (tgt := 115) hx hb d_Mo_behind_96 (by decide) ?_
                    refine lv_iinc (v := nI (i + 1)) (lv' := [(4, .int (nI (i + 1))), (7, .int 0), (6, .int 1), (5, .ref (rN (re rs i))), (0, .ref a), (1, .ref b1), (2, .null), (3, .ref (rN (re rs jf)))]) hx hb d_Mo_behind_115 hl (k := 7) rfl (nI_add i 1) (by decide) rfl (fun ls hl => ?_)
                    refine lv_goto (tgt := 7) hx hb d_Mo_behind_118 (by decide) ?_
                    exact ih (i + 1) none (some (rN (re rs jf))) _ _ (by omega) (by omega) (by first | exact zlst_keep hbb (fun z => absurd (zsg_gt.mpr z.1) (Int32.not_lt.mpr c34)) | exact zlst_ge hjb1 hjb3 hjb4 (fun z => absurd (zsg_lt.mpr z) (Int32.not_lt.mpr c47)) | exact zlst_keep hbb (fun z => z.2 (hp90.1.nz c93)) | exact zlst_new0 hnjb ⟨zsg_gt.mp (Int32.not_le.mp c34), hp90.1.z c93⟩ | exact zlst_new hjb4 (zsg_lt.mp (Int32.not_le.mp c47)) ⟨zsg_gt.mp (Int32.not_le.mp c34), hp90.1.z c93⟩) (by first | exact zlst_ge hjf1 hjf3 hjf4 (fun z => absurd (zsg_lt.mpr z) (Int32.not_lt.mpr c67)) | exact zlst_keep hbf (fun z => z (hp90.1.nz c93)) | exact zlst_new0 hnjf (hp90.1.z c93) | exact zlst_new hjf4 (zsg_lt.mp (Int32.not_le.mp c67)) (hp90.1.z c93)) hG hS ls (lv_sub hl [4, 5, 6, 7, 0] rfl)
                · have b79 : 1 = 0 := (nI_eq (a := 1) (b := 0) (by omega) (by omega)).mp c79
                  exact absurd b79 (by decide)
              · refine lv_iconst (v := 1) hx hb d_Mo_behind_70 (by decide) ?_
                refine lv_goto (tgt := 75) hx hb d_Mo_behind_71 (by decide) ?_
                refine lv_istore (lv' := [(7, .int 1), (6, .int 1), (5, .ref (rN (re rs i))), (0, .ref a), (1, .ref b1), (2, .null), (3, .ref (rN (re rs jf))), (4, .int (nI i))]) hx hb d_Mo_behind_75 hl (by decide) rfl (fun ls hl => ?_)
                refine lv_iload hx hb d_Mo_behind_77 (lv_at hl 1 rfl) ?_
                refine lv_if_ne (tgt := 87) hx hb d_Mo_behind_79 (by decide) (fun c79 => ?_) (fun c79 => ?_)
                · have b79 : ¬ 1 = 0 := fun q => c79 ((nI_eq (a := 1) (b := 0) (by omega) (by omega)).mpr q)
                  refine lv_aload_n hx hb d_Mo_behind_87 rfl (lv_at hl 3 rfl) ?_
                  refine lv_aload hx hb d_Mo_behind_88 (lv_at hl 2 rfl) ?_
                  refine zk_i (va_runV (As := [.ref (rN (re rs i))]) (rest := []) ⟨hx, hb, hml, hown, hts⟩ (t_Mo_away l E G rs a m1 m3 m4 m6 m7 m8 m9 m10 m11 m12 m15 m18 th tn m13 m14 m16 m17 m19 m20 ha hRS lo fo hm3 hfo hgo (rN (re rs i)) (rM (re rs i)) nf hr2 hr3 hr4) (zcV 1 hts w_1512 w_1514 wp_46 w_30 w_1515 (by decide +kernel) ⟨Nat.le_of_ble_eq_true rfl, Nat.le_of_ble_eq_true rfl⟩) (zc_preV hbase hK hN hQ hG hS ha rfl) rfl rfl hl.1 rfl (lv_room (Nat.le_of_ble_eq_true rfl)) d_Mo_behind_90 ⟨(by decide), (by decide)⟩) hS (fun r90 G90 H locs hp90 hG hS => ?_)
                  have hG : zP E G H := hp90.2 ▸ hG
                  refine lv_if_eq (tgt := 99) hx hb d_Mo_behind_93 (by decide) (fun c93 => ?_) (fun c93 => ?_)
                  · refine lv_iload hx hb d_Mo_behind_99 (lv_at hl 1 rfl) ?_
                    refine lv_if_eq (tgt := 107) hx hb d_Mo_behind_101 (by decide) (fun c101 => ?_) (fun c101 => ?_)
                    · have b101 : 1 = 0 := (nI_eq (a := 1) (b := 0) (by omega) (by omega)).mp c101
                      exact absurd b101 (by decide)
                    · have b101 : ¬ 1 = 0 := fun q => c101 ((nI_eq (a := 1) (b := 0) (by omega) (by omega)).mpr q)
                      refine lv_aload hx hb d_Mo_behind_104 (lv_at hl 2 rfl) ?_
                      refine lv_astore_n (lv' := [(2, .ref (rN (re rs i))), (7, .int 1), (6, .int 1), (5, .ref (rN (re rs i))), (0, .ref a), (1, .ref b1), (3, .ref (rN (re rs jf))), (4, .int (nI i))]) hx hb d_Mo_behind_106 rfl hl (by decide) rfl (fun ls hl => ?_)
                      refine lv_iload hx hb d_Mo_behind_107 (lv_at hl 1 rfl) ?_
                      refine lv_if_eq (tgt := 115) hx hb d_Mo_behind_109 (by decide) (fun c109 => ?_) (fun c109 => ?_)
                      · have b109 : 1 = 0 := (nI_eq (a := 1) (b := 0) (by omega) (by omega)).mp c109
                        exact absurd b109 (by decide)
                      · have b109 : ¬ 1 = 0 := fun q => c109 ((nI_eq (a := 1) (b := 0) (by omega) (by omega)).mpr q)
                        refine lv_aload hx hb d_Mo_behind_112 (lv_at hl 3 rfl) ?_
                        refine lv_astore_n (lv' := [(3, .ref (rN (re rs i))), (2, .ref (rN (re rs i))), (7, .int 1), (6, .int 1), (5, .ref (rN (re rs i))), (0, .ref a), (1, .ref b1), (4, .int (nI i))]) hx hb d_Mo_behind_114 rfl hl (by decide) rfl (fun ls hl => ?_)
                        refine lv_iinc (v := nI (i + 1)) (lv' := [(4, .int (nI (i + 1))), (3, .ref (rN (re rs i))), (2, .ref (rN (re rs i))), (7, .int 1), (6, .int 1), (5, .ref (rN (re rs i))), (0, .ref a), (1, .ref b1)]) hx hb d_Mo_behind_115 hl (k := 7) rfl (nI_add i 1) (by decide) rfl (fun ls hl => ?_)
                        refine lv_goto (tgt := 7) hx hb d_Mo_behind_118 (by decide) ?_
                        exact ih (i + 1) (some (rN (re rs i))) (some (rN (re rs i))) _ _ (by omega) (by omega) (by first | exact zlst_keep hbb (fun z => absurd (zsg_gt.mpr z.1) (Int32.not_lt.mpr c34)) | exact zlst_ge hjb1 hjb3 hjb4 (fun z => absurd (zsg_lt.mpr z) (Int32.not_lt.mpr c47)) | exact zlst_keep hbb (fun z => z.2 (hp90.1.nz c93)) | exact zlst_new0 hnjb ⟨zsg_gt.mp (Int32.not_le.mp c34), hp90.1.z c93⟩ | exact zlst_new hjb4 (zsg_lt.mp (Int32.not_le.mp c47)) ⟨zsg_gt.mp (Int32.not_le.mp c34), hp90.1.z c93⟩) (by first | exact zlst_ge hjf1 hjf3 hjf4 (fun z => absurd (zsg_lt.mpr z) (Int32.not_lt.mpr c67)) | exact zlst_keep hbf (fun z => z (hp90.1.nz c93)) | exact zlst_new0 hnjf (hp90.1.z c93) | exact zlst_new hjf4 (zsg_lt.mp (Int32.not_le.mp c67)) (hp90.1.z c93)) hG hS ls (lv_sub hl [6, 7, 2, 1, 0] rfl)
                  · refine lv_goto (tgt := 115) hx hb d_Mo_behind_96 (by decide) ?_
                    refine lv_iinc (v := nI (i + 1)) (lv' := [(4, .int (nI (i + 1))), (7, .int 1), (6, .int 1), (5, .ref (rN (re rs i))), (0, .ref a), (1, .ref b1), (2, .null), (3, .ref (rN (re rs jf)))]) hx hb d_Mo_behind_115 hl (k := 7) rfl (nI_add i 1) (by decide) rfl (fun ls hl => ?_)
                    refine lv_goto (tgt := 7) hx hb d_Mo_behind_118 (by decide) ?_
                    exact ih (i + 1) none (some (rN (re rs jf))) _ _ (by omega) (by omega) (by first | exact zlst_keep hbb (fun z => absurd (zsg_gt.mpr z.1) (Int32.not_lt.mpr c34)) | exact zlst_ge hjb1 hjb3 hjb4 (fun z => absurd (zsg_lt.mpr z) (Int32.not_lt.mpr c47)) | exact zlst_keep hbb (fun z => z.2 (hp90.1.nz c93)) | exact zlst_new0 hnjb ⟨zsg_gt.mp (Int32.not_le.mp c34), hp90.1.z c93⟩ | exact zlst_new hjb4 (zsg_lt.mp (Int32.not_le.mp c47)) ⟨zsg_gt.mp (Int32.not_le.mp c34), hp90.1.z c93⟩) (by first | exact zlst_ge hjf1 hjf3 hjf4 (fun z => absurd (zsg_lt.mpr z) (Int32.not_lt.mpr c67)) | exact zlst_keep hbf (fun z => z (hp90.1.nz c93)) | exact zlst_new0 hnjf (hp90.1.z c93) | exact zlst_new hjf4 (zsg_lt.mp (Int32.not_le.mp c67)) (hp90.1.z c93)) hG hS ls (lv_sub hl [4, 5, 6, 7, 0] rfl)
                · have b79 : 1 = 0 := (nI_eq (a := 1) (b := 0) (by omega) (by omega)).mp c79
                  exact absurd b79 (by decide)
      · obtain ⟨jb, hjb1, hjb2, hjb3, hjb4⟩ : ∃ j0, j0 < i ∧ some bq = some (rN (re rs j0)) ∧ (fun j => 0 < nk_d (zkk rs j) (zky ls1) ∧ ¬ zaway lo rs (rM (re rs j))) j0 ∧ ∀ j, j < i → (fun j => 0 < nk_d (zkk rs j) (zky ls1) ∧ ¬ zaway lo rs (rM (re rs j))) j → ¬ nk_d (zkk rs j) (zkk rs j0) < 0 := by
          rcases hbb with ⟨h, -⟩ | h
          · cases h
          · exact h
        have ebq : bq = rN (re rs jb) := Option.some.inj hjb2
        subst ebq
        obtain ⟨-, ⟨nfb, gjb2, gjb3, gjb4, gjb5⟩, -⟩ := hRs _ (re_mem (show jb < rs.length by omega))
        have hl : lv_has ls 8 [(0, .ref a), (1, .ref b1), (2, .ref (rN (re rs jb))), (3, va_rf fo), (4, .int (nI i))] := hl
        rcases fo with _ | fq
        · have hnjf : ∀ j, j < i → ¬ (fun j => ¬ zaway lo rs (rM (re rs j))) j := by
            rcases hbf with ⟨-, h⟩ | ⟨j9, -, h, -⟩
            · exact h
            · cases h
          have hl : lv_has ls 8 [(0, .ref a), (1, .ref b1), (2, .ref (rN (re rs jb))), (3, .null), (4, .int (nI i))] := hl
          refine lv_iload hx hb d_Mo_behind_7 (lv_at hl 4 rfl) ?_
          refine lv_aload_n hx hb d_Mo_behind_9 rfl (lv_at hl 0 rfl) ?_
          refine zg_get (ci := 11) (C := "ZoneAnswersModel") (T := T_Mo) (N := 21) hx hb hts zi_Mo hown hK hG ha rfl 5 (by decide) (hts _ w_1286) (fun _ h9 => h9) rfl d_Mo_behind_10 ?_
          refine lv_icmp_ge (tgt := 121) hx hb d_Mo_behind_13 (by decide) (fun c13 => ?_) (fun c13 => ?_)
          · have b13 : rs.length ≤ i := (nI_leI (a := rs.length) (b := i) (by omega) (by omega)).mp c13
            refine lv_aload_n hx hb d_Mo_behind_121 rfl (lv_at hl 2 rfl) ?_
            refine lv_ifnonnull (tgt := 129) hx hb d_Mo_behind_122 (by decide) ?_
            refine lv_aload_n hx hb d_Mo_behind_129 rfl (lv_at hl 2 rfl) ?_
            exact hret (some (rN (re rs jb))) _ _ _ _ _ _ _ _ hr (Or.inr ⟨_, rfl⟩) (⟨⟨_, _, by rw [← show i = rs.length by omega]; exact hbb, by rw [← show i = rs.length by omega]; exact hbf, rfl⟩, rfl⟩) hG hS (Nat.le_refl _) (Nat.le_refl _) d_Mo_behind_130
          · have b13 : ¬ rs.length ≤ i := fun q => c13 ((nI_leI (a := rs.length) (b := i) (by omega) (by omega)).mpr q)
            have hin : i < rs.length := by omega
            obtain ⟨hr1, ⟨nf, hr2, hr3, hr4, hr5⟩, df, hr6, hr7, hr8⟩ := hRs _ (re_mem hin)
            have sm := hr4.2
            refine lv_aload_n hx hb d_Mo_behind_16 rfl (lv_at hl 0 rfl) ?_
            refine zg_get (ci := 11) (C := "ZoneAnswersModel") (T := T_Mo) (N := 21) hx hb hts zi_Mo hown hK hG ha rfl 4 (by decide) (hts _ w_1285) (fun _ h9 => h9) rfl d_Mo_behind_17 ?_
            refine lv_iload hx hb d_Mo_behind_20 (lv_at hl 4 rfl) ?_
            refine zg_aldq hx hb hK hG 4 hm4 rfl (vp_in_nI (by omega) (by omega)) d_Mo_behind_22 ?_
            refine zr_as (y := fr i) (by rw [zi_n _ (by omega)]) ?_
            refine zr_some (a := rA (re rs i)) (hfr i hin) ?_
            refine zg_get (ci := 12) (C := "ZoneAnswersModel$Rec") (T := T_Re) (N := 5) hx hb hts zi_Re hown hK hG hr1 rfl 0 (by decide) (hts _ w_1265) (fun _ h9 => h9) rfl d_Mo_behind_23 ?_
            refine lv_astore (lv' := [(5, .ref (rN (re rs i))), (0, .ref a), (1, .ref b1), (2, .ref (rN (re rs jb))), (3, .null), (4, .int (nI i))]) hx hb d_Mo_behind_26 hl (by decide) rfl (fun ls hl => ?_)
            refine lv_aload hx hb d_Mo_behind_28 (lv_at hl 0 rfl) ?_
            refine lv_aload_n hx hb d_Mo_behind_30 rfl (lv_at hl 2 rfl) ?_
            refine zk_i (va_runS (As := [.ref (rN (re rs i)), .ref b1]) (rest := []) ⟨hx, hb, hml, hown, hts⟩ (t_Ns_order l E G (rN (re rs i)) (rM (re rs i)) nf hr2 hr3 hr4 hr5 b1 ls1 f1 hb1 hf1 hg1 hft1) (zcS 2 hts w_1505 w_1506 w_33 w_1507 (by decide +kernel) ⟨Nat.le_of_ble_eq_true rfl, Nat.le_of_ble_eq_true rfl⟩) (zc_pre hbase hK hN hQ hG hS) rfl rfl hl.1 rfl (lv_room (Nat.le_of_ble_eq_true rfl)) d_Mo_behind_31 ⟨(by decide), (by decide)⟩) hS (fun r31 G31 H locs hp31 hG hS => ?_)
            have hG : zP E G H := hp31.2 ▸ hG
            refine zi_as (y := zsg (nk_d (zky (rM (re rs i))) (zky ls1))) hp31.1 ?_
            refine lv_if_le (tgt := 54) hx hb d_Mo_behind_34 (by decide) (fun c34 => ?_) (fun c34 => ?_)
            · refine lv_iconst (v := 0) hx hb d_Mo_behind_54 (by decide) ?_
              refine lv_istore (lv' := [(6, .int 0), (5, .ref (rN (re rs i))), (0, .ref a), (1, .ref b1), (2, .ref (rN (re rs jb))), (3, .null), (4, .int (nI i))]) hx hb d_Mo_behind_55 hl (by decide) rfl (fun ls hl => ?_)
              refine lv_aload_nN hx hb d_Mo_behind_57 rfl (lv_at hl 5 rfl) ?_
              refine lv_ifnullN (tgt := 70) hx hb d_Mo_behind_58 (by decide) ?_
              refine lv_iconst (v := 1) hx hb d_Mo_behind_70 (by decide) ?_
              refine lv_goto (tgt := 75) hx hb d_Mo_behind_71 (by decide) ?_
              refine lv_istore (lv' := [(7, .int 1), (6, .int 0), (5, .ref (rN (re rs i))), (0, .ref a), (1, .ref b1), (2, .ref (rN (re rs jb))), (3, .null), (4, .int (nI i))]) hx hb d_Mo_behind_75 hl (by decide) rfl (fun ls hl => ?_)
              refine lv_iload hx hb d_Mo_behind_77 (lv_at hl 1 rfl) ?_
              refine lv_if_ne (tgt := 87) hx hb d_Mo_behind_79 (by decide) (fun c79 => ?_) (fun c79 => ?_)
              · have b79 : ¬ 0 = 0 := fun q => c79 ((nI_eq (a := 0) (b := 0) (by omega) (by omega)).mpr q)
                exact absurd b79 (by decide)
              · have b79 : 0 = 0 := (nI_eq (a := 0) (b := 0) (by omega) (by omega)).mp c79
                refine lv_iload hx hb d_Mo_behind_82 (lv_at hl 0 rfl) ?_
                refine lv_if_eq (tgt := 115) hx hb d_Mo_behind_84 (by decide) (fun c84 => ?_) (fun c84 => ?_)
                · have b84 : 1 = 0 := (nI_eq (a := 1) (b := 0) (by omega) (by omega)).mp c84
                  exact absurd b84 (by decide)
                · have b84 : ¬ 1 = 0 := fun q => c84 ((nI_eq (a := 1) (b := 0) (by omega) (by omega)).mpr q)
                  refine lv_aload_n hx hb d_Mo_behind_87 rfl (lv_at hl 3 rfl) ?_
                  refine lv_aload hx hb d_Mo_behind_88 (lv_at hl 2 rfl) ?_
                  refine zk_i (va_runV (As := [.ref (rN (re rs i))]) (rest := []) ⟨hx, hb, hml, hown, hts⟩ (t_Mo_away l E G rs a m1 m3 m4 m6 m7 m8 m9 m10 m11 m12 m15 m18 th tn m13 m14 m16 m17 m19 m20 ha hRS lo fo hm3 hfo hgo (rN (re rs i)) (rM (re rs i)) nf hr2 hr3 hr4) (zcV 1 hts w_1512 w_1514 wp_46 w_30 w_1515 (by decide +kernel) ⟨Nat.le_of_ble_eq_true rfl, Nat.le_of_ble_eq_true rfl⟩) (zc_preV hbase hK hN hQ hG hS ha rfl) rfl rfl hl.1 rfl (lv_room (Nat.le_of_ble_eq_true rfl)) d_Mo_behind_90 ⟨(by decide), (by decide)⟩) hS (fun r90 G90 H locs hp90 hG hS => ?_)
                  have hG : zP E G H := hp90.2 ▸ hG
                  refine lv_if_eq (tgt := 99) hx hb d_Mo_behind_93 (by decide) (fun c93 => ?_) (fun c93 => ?_)
                  · refine lv_iload hx hb d_Mo_behind_99 (lv_at hl 1 rfl) ?_
                    refine lv_if_eq (tgt := 107) hx hb d_Mo_behind_101 (by decide) (fun c101 => ?_) (fun c101 => ?_)
                    · have b101 : 0 = 0 := (nI_eq (a := 0) (b := 0) (by omega) (by omega)).mp c101
                      refine lv_iload hx hb d_Mo_behind_107 (lv_at hl 0 rfl) ?_
                      refine lv_if_eq (tgt := 115) hx hb d_Mo_behind_109 (by decide) (fun c109 => ?_) (fun c109 => ?_)
                      · have b109 : 1 = 0 := (nI_eq (a := 1) (b := 0) (by omega) (by omega)).mp c109
                        exact absurd b109 (by decide)
                      · have b109 : ¬ 1 = 0 := fun q => c109 ((nI_eq (a := 1) (b := 0) (by omega) (by omega)).mpr q)
                        refine lv_aload hx hb d_Mo_behind_112 (lv_at hl 2 rfl) ?_
                        refine lv_astore_n (lv' := [(3, .ref (rN (re rs i))), (7, .int 1), (6, .int 0), (5, .ref (rN (re rs i))), (0, .ref a), (1, .ref b1), (2, .ref (rN (re rs jb))), (4, .int (nI i))]) hx hb d_Mo_behind_114 rfl hl (by decide) rfl (fun ls hl => ?_)
                        refine lv_iinc (v := nI (i + 1)) (lv' := [(4, .int (nI (i + 1))), (3, .ref (rN (re rs i))), (7, .int 1), (6, .int 0), (5, .ref (rN (re rs i))), (0, .ref a), (1, .ref b1), (2, .ref (rN (re rs jb)))]) hx hb d_Mo_behind_115 hl (k := 7) rfl (nI_add i 1) (by decide) rfl (fun ls hl => ?_)
                        refine lv_goto (tgt := 7) hx hb d_Mo_behind_118 (by decide) ?_
                        exact ih (i + 1) (some (rN (re rs jb))) (some (rN (re rs i))) _ _ (by omega) (by omega) (by first | exact zlst_keep hbb (fun z => absurd (zsg_gt.mpr z.1) (Int32.not_lt.mpr c34)) | exact zlst_ge hjb1 hjb3 hjb4 (fun z => absurd (zsg_lt.mpr z) (Int32.not_lt.mpr c47)) | exact zlst_keep hbb (fun z => z.2 (hp90.1.nz c93)) | exact zlst_new0 hnjb ⟨zsg_gt.mp (Int32.not_le.mp c34), hp90.1.z c93⟩ | exact zlst_new hjb4 (zsg_lt.mp (Int32.not_le.mp c47)) ⟨zsg_gt.mp (Int32.not_le.mp c34), hp90.1.z c93⟩) (by first | exact zlst_ge hjf1 hjf3 hjf4 (fun z => absurd (zsg_lt.mpr z) (Int32.not_lt.mpr c67)) | exact zlst_keep hbf (fun z => z (hp90.1.nz c93)) | exact zlst_new0 hnjf (hp90.1.z c93) | exact zlst_new hjf4 (zsg_lt.mp (Int32.not_le.mp c67)) (hp90.1.z c93)) hG hS ls (lv_sub hl [5, 6, 7, 1, 0] rfl)
                    · have b101 : ¬ 0 = 0 := fun q => c101 ((nI_eq (a := 0) (b := 0) (by omega) (by omega)).mpr q)
                      exact absurd b101 (by decide)
                  · refine lv_goto (tgt := 115) hx hb d_Mo_behind_96 (by decide) ?_
                    refine lv_iinc (v := nI (i + 1)) (lv' := [(4, .int (nI (i + 1))), (7, .int 1), (6, .int 0), (5, .ref (rN (re rs i))), (0, .ref a), (1, .ref b1), (2, .ref (rN (re rs jb))), (3, .null)]) hx hb d_Mo_behind_115 hl (k := 7) rfl (nI_add i 1) (by decide) rfl (fun ls hl => ?_)
                    refine lv_goto (tgt := 7) hx hb d_Mo_behind_118 (by decide) ?_
                    exact ih (i + 1) (some (rN (re rs jb))) none _ _ (by omega) (by omega) (by first | exact zlst_keep hbb (fun z => absurd (zsg_gt.mpr z.1) (Int32.not_lt.mpr c34)) | exact zlst_ge hjb1 hjb3 hjb4 (fun z => absurd (zsg_lt.mpr z) (Int32.not_lt.mpr c47)) | exact zlst_keep hbb (fun z => z.2 (hp90.1.nz c93)) | exact zlst_new0 hnjb ⟨zsg_gt.mp (Int32.not_le.mp c34), hp90.1.z c93⟩ | exact zlst_new hjb4 (zsg_lt.mp (Int32.not_le.mp c47)) ⟨zsg_gt.mp (Int32.not_le.mp c34), hp90.1.z c93⟩) (by first | exact zlst_ge hjf1 hjf3 hjf4 (fun z => absurd (zsg_lt.mpr z) (Int32.not_lt.mpr c67)) | exact zlst_keep hbf (fun z => z (hp90.1.nz c93)) | exact zlst_new0 hnjf (hp90.1.z c93) | exact zlst_new hjf4 (zsg_lt.mp (Int32.not_le.mp c67)) (hp90.1.z c93)) hG hS ls (lv_sub hl [4, 5, 6, 7, 0] rfl)
            · refine lv_aload_n hx hb d_Mo_behind_37 rfl (lv_at hl 3 rfl) ?_
              refine lv_ifnull hx hb d_Mo_behind_38 ?_
              refine lv_aload hx hb d_Mo_behind_41 (lv_at hl 0 rfl) ?_
              refine lv_aload_n hx hb d_Mo_behind_43 rfl (lv_at hl 3 rfl) ?_
              refine zk_i (va_runS (As := [.ref (rN (re rs i)), .ref (rN (re rs jb))]) (rest := []) ⟨hx, hb, hml, hown, hts⟩ (t_Ns_order l E G (rN (re rs i)) (rM (re rs i)) nf hr2 hr3 hr4 hr5 (rN (re rs jb)) (rM (re rs jb)) nfb gjb2 gjb3 gjb4 gjb5) (zcS 2 hts w_1505 w_1506 w_33 w_1507 (by decide +kernel) ⟨Nat.le_of_ble_eq_true rfl, Nat.le_of_ble_eq_true rfl⟩) (zc_pre hbase hK hN hQ hG hS) rfl rfl hl.1 rfl (lv_room (Nat.le_of_ble_eq_true rfl)) d_Mo_behind_44 ⟨(by decide), (by decide)⟩) hS (fun r44 G44 H locs hp44 hG hS => ?_)
              have hG : zP E G H := hp44.2 ▸ hG
              refine zi_as (y := zsg (nk_d (zky (rM (re rs i))) (zky (rM (re rs jb))))) hp44.1 ?_
              refine lv_if_ge (tgt := 54) hx hb d_Mo_behind_47 (by decide) (fun c47 => ?_) (fun c47 => ?_)
              · refine lv_iconst (v := 0) hx hb d_Mo_behind_54 (by decide) ?_
                refine lv_istore (lv' := [(6, .int 0), (5, .ref (rN (re rs i))), (0, .ref a), (1, .ref b1), (2, .ref (rN (re rs jb))), (3, .null), (4, .int (nI i))]) hx hb d_Mo_behind_55 hl (by decide) rfl (fun ls hl => ?_)
                refine lv_aload_nN hx hb d_Mo_behind_57 rfl (lv_at hl 5 rfl) ?_
                refine lv_ifnullN (tgt := 70) hx hb d_Mo_behind_58 (by decide) ?_
                refine lv_iconst (v := 1) hx hb d_Mo_behind_70 (by decide) ?_
                refine lv_goto (tgt := 75) hx hb d_Mo_behind_71 (by decide) ?_
                refine lv_istore (lv' := [(7, .int 1), (6, .int 0), (5, .ref (rN (re rs i))), (0, .ref a), (1, .ref b1), (2, .ref (rN (re rs jb))), (3, .null), (4, .int (nI i))]) hx hb d_Mo_behind_75 hl (by decide) rfl (fun ls hl => ?_)
                refine lv_iload hx hb d_Mo_behind_77 (lv_at hl 1 rfl) ?_
                refine lv_if_ne (tgt := 87) hx hb d_Mo_behind_79 (by decide) (fun c79 => ?_) (fun c79 => ?_)
                · have b79 : ¬ 0 = 0 := fun q => c79 ((nI_eq (a := 0) (b := 0) (by omega) (by omega)).mpr q)
                  exact absurd b79 (by decide)
                · have b79 : 0 = 0 := (nI_eq (a := 0) (b := 0) (by omega) (by omega)).mp c79
                  refine lv_iload hx hb d_Mo_behind_82 (lv_at hl 0 rfl) ?_
                  refine lv_if_eq (tgt := 115) hx hb d_Mo_behind_84 (by decide) (fun c84 => ?_) (fun c84 => ?_)
                  · have b84 : 1 = 0 := (nI_eq (a := 1) (b := 0) (by omega) (by omega)).mp c84
                    exact absurd b84 (by decide)
                  · have b84 : ¬ 1 = 0 := fun q => c84 ((nI_eq (a := 1) (b := 0) (by omega) (by omega)).mpr q)
                    refine lv_aload_n hx hb d_Mo_behind_87 rfl (lv_at hl 3 rfl) ?_
                    refine lv_aload hx hb d_Mo_behind_88 (lv_at hl 2 rfl) ?_
                    refine zk_i (va_runV (As := [.ref (rN (re rs i))]) (rest := []) ⟨hx, hb, hml, hown, hts⟩ (t_Mo_away l E G rs a m1 m3 m4 m6 m7 m8 m9 m10 m11 m12 m15 m18 th tn m13 m14 m16 m17 m19 m20 ha hRS lo fo hm3 hfo hgo (rN (re rs i)) (rM (re rs i)) nf hr2 hr3 hr4) (zcV 1 hts w_1512 w_1514 wp_46 w_30 w_1515 (by decide +kernel) ⟨Nat.le_of_ble_eq_true rfl, Nat.le_of_ble_eq_true rfl⟩) (zc_preV hbase hK hN hQ hG hS ha rfl) rfl rfl hl.1 rfl (lv_room (Nat.le_of_ble_eq_true rfl)) d_Mo_behind_90 ⟨(by decide), (by decide)⟩) hS (fun r90 G90 H locs hp90 hG hS => ?_)
                    have hG : zP E G H := hp90.2 ▸ hG
                    refine lv_if_eq (tgt := 99) hx hb d_Mo_behind_93 (by decide) (fun c93 => ?_) (fun c93 => ?_)
                    · refine lv_iload hx hb d_Mo_behind_99 (lv_at hl 1 rfl) ?_
                      refine lv_if_eq (tgt := 107) hx hb d_Mo_behind_101 (by decide) (fun c101 => ?_) (fun c101 => ?_)
                      · have b101 : 0 = 0 := (nI_eq (a := 0) (b := 0) (by omega) (by omega)).mp c101
                        refine lv_iload hx hb d_Mo_behind_107 (lv_at hl 0 rfl) ?_
                        refine lv_if_eq (tgt := 115) hx hb d_Mo_behind_109 (by decide) (fun c109 => ?_) (fun c109 => ?_)
                        · have b109 : 1 = 0 := (nI_eq (a := 1) (b := 0) (by omega) (by omega)).mp c109
                          exact absurd b109 (by decide)
                        · have b109 : ¬ 1 = 0 := fun q => c109 ((nI_eq (a := 1) (b := 0) (by omega) (by omega)).mpr q)
                          refine lv_aload hx hb d_Mo_behind_112 (lv_at hl 2 rfl) ?_
                          refine lv_astore_n (lv' := [(3, .ref (rN (re rs i))), (7, .int 1), (6, .int 0), (5, .ref (rN (re rs i))), (0, .ref a), (1, .ref b1), (2, .ref (rN (re rs jb))), (4, .int (nI i))]) hx hb d_Mo_behind_114 rfl hl (by decide) rfl (fun ls hl => ?_)
                          refine lv_iinc (v := nI (i + 1)) (lv' := [(4, .int (nI (i + 1))), (3, .ref (rN (re rs i))), (7, .int 1), (6, .int 0), (5, .ref (rN (re rs i))), (0, .ref a), (1, .ref b1), (2, .ref (rN (re rs jb)))]) hx hb d_Mo_behind_115 hl (k := 7) rfl (nI_add i 1) (by decide) rfl (fun ls hl => ?_)
                          refine lv_goto (tgt := 7) hx hb d_Mo_behind_118 (by decide) ?_
                          exact ih (i + 1) (some (rN (re rs jb))) (some (rN (re rs i))) _ _ (by omega) (by omega) (by first | exact zlst_keep hbb (fun z => absurd (zsg_gt.mpr z.1) (Int32.not_lt.mpr c34)) | exact zlst_ge hjb1 hjb3 hjb4 (fun z => absurd (zsg_lt.mpr z) (Int32.not_lt.mpr c47)) | exact zlst_keep hbb (fun z => z.2 (hp90.1.nz c93)) | exact zlst_new0 hnjb ⟨zsg_gt.mp (Int32.not_le.mp c34), hp90.1.z c93⟩ | exact zlst_new hjb4 (zsg_lt.mp (Int32.not_le.mp c47)) ⟨zsg_gt.mp (Int32.not_le.mp c34), hp90.1.z c93⟩) (by first | exact zlst_ge hjf1 hjf3 hjf4 (fun z => absurd (zsg_lt.mpr z) (Int32.not_lt.mpr c67)) | exact zlst_keep hbf (fun z => z (hp90.1.nz c93)) | exact zlst_new0 hnjf (hp90.1.z c93) | exact zlst_new hjf4 (zsg_lt.mp (Int32.not_le.mp c67)) (hp90.1.z c93)) hG hS ls (lv_sub hl [5, 6, 7, 1, 0] rfl)
                      · have b101 : ¬ 0 = 0 := fun q => c101 ((nI_eq (a := 0) (b := 0) (by omega) (by omega)).mpr q)
                        exact absurd b101 (by decide)
                    · refine lv_goto (tgt := 115) hx hb d_Mo_behind_96 (by decide) ?_
                      refine lv_iinc (v := nI (i + 1)) (lv' := [(4, .int (nI (i + 1))), (7, .int 1), (6, .int 0), (5, .ref (rN (re rs i))), (0, .ref a), (1, .ref b1), (2, .ref (rN (re rs jb))), (3, .null)]) hx hb d_Mo_behind_115 hl (k := 7) rfl (nI_add i 1) (by decide) rfl (fun ls hl => ?_)
                      refine lv_goto (tgt := 7) hx hb d_Mo_behind_118 (by decide) ?_
                      exact ih (i + 1) (some (rN (re rs jb))) none _ _ (by omega) (by omega) (by first | exact zlst_keep hbb (fun z => absurd (zsg_gt.mpr z.1) (Int32.not_lt.mpr c34)) | exact zlst_ge hjb1 hjb3 hjb4 (fun z => absurd (zsg_lt.mpr z) (Int32.not_lt.mpr c47)) | exact zlst_keep hbb (fun z => z.2 (hp90.1.nz c93)) | exact zlst_new0 hnjb ⟨zsg_gt.mp (Int32.not_le.mp c34), hp90.1.z c93⟩ | exact zlst_new hjb4 (zsg_lt.mp (Int32.not_le.mp c47)) ⟨zsg_gt.mp (Int32.not_le.mp c34), hp90.1.z c93⟩) (by first | exact zlst_ge hjf1 hjf3 hjf4 (fun z => absurd (zsg_lt.mpr z) (Int32.not_lt.mpr c67)) | exact zlst_keep hbf (fun z => z (hp90.1.nz c93)) | exact zlst_new0 hnjf (hp90.1.z c93) | exact zlst_new hjf4 (zsg_lt.mp (Int32.not_le.mp c67)) (hp90.1.z c93)) hG hS ls (lv_sub hl [4, 5, 6, 7, 0] rfl)
              · refine lv_iconst (v := 1) hx hb d_Mo_behind_50 (by decide) ?_
                refine lv_goto (tgt := 55) hx hb d_Mo_behind_51 (by decide) ?_
                refine lv_istore (lv' := [(6, .int 1), (5, .ref (rN (re rs i))), (0, .ref a), (1, .ref b1), (2, .ref (rN (re rs jb))), (3, .null), (4, .int (nI i))]) hx hb d_Mo_behind_55 hl (by decide) rfl (fun ls hl => ?_)
                refine lv_aload_nN hx hb d_Mo_behind_57 rfl (lv_at hl 5 rfl) ?_
                refine lv_ifnullN (tgt := 70) hx hb d_Mo_behind_58 (by decide) ?_
                refine lv_iconst (v := 1) hx hb d_Mo_behind_70 (by decide) ?_
                refine lv_goto (tgt := 75) hx hb d_Mo_behind_71 (by decide) ?_
                refine lv_istore (lv' := [(7, .int 1), (6, .int 1), (5, .ref (rN (re rs i))), (0, .ref a), (1, .ref b1), (2, .ref (rN (re rs jb))), (3, .null), (4, .int (nI i))]) hx hb d_Mo_behind_75 hl (by decide) rfl (fun ls hl => ?_)
                refine lv_iload hx hb d_Mo_behind_77 (lv_at hl 1 rfl) ?_
                refine lv_if_ne (tgt := 87) hx hb d_Mo_behind_79 (by decide) (fun c79 => ?_) (fun c79 => ?_)
                · have b79 : ¬ 1 = 0 := fun q => c79 ((nI_eq (a := 1) (b := 0) (by omega) (by omega)).mpr q)
                  refine lv_aload_n hx hb d_Mo_behind_87 rfl (lv_at hl 3 rfl) ?_
                  refine lv_aload hx hb d_Mo_behind_88 (lv_at hl 2 rfl) ?_
                  refine zk_i (va_runV (As := [.ref (rN (re rs i))]) (rest := []) ⟨hx, hb, hml, hown, hts⟩ (t_Mo_away l E G rs a m1 m3 m4 m6 m7 m8 m9 m10 m11 m12 m15 m18 th tn m13 m14 m16 m17 m19 m20 ha hRS lo fo hm3 hfo hgo (rN (re rs i)) (rM (re rs i)) nf hr2 hr3 hr4) (zcV 1 hts w_1512 w_1514 wp_46 w_30 w_1515 (by decide +kernel) ⟨Nat.le_of_ble_eq_true rfl, Nat.le_of_ble_eq_true rfl⟩) (zc_preV hbase hK hN hQ hG hS ha rfl) rfl rfl hl.1 rfl (lv_room (Nat.le_of_ble_eq_true rfl)) d_Mo_behind_90 ⟨(by decide), (by decide)⟩) hS (fun r90 G90 H locs hp90 hG hS => ?_)
                  have hG : zP E G H := hp90.2 ▸ hG
                  refine lv_if_eq (tgt := 99) hx hb d_Mo_behind_93 (by decide) (fun c93 => ?_) (fun c93 => ?_)
                  · refine lv_iload hx hb d_Mo_behind_99 (lv_at hl 1 rfl) ?_
                    refine lv_if_eq (tgt := 107) hx hb d_Mo_behind_101 (by decide) (fun c101 => ?_) (fun c101 => ?_)
                    · have b101 : 1 = 0 := (nI_eq (a := 1) (b := 0) (by omega) (by omega)).mp c101
                      exact absurd b101 (by decide)
                    · have b101 : ¬ 1 = 0 := fun q => c101 ((nI_eq (a := 1) (b := 0) (by omega) (by omega)).mpr q)
                      refine lv_aload hx hb d_Mo_behind_104 (lv_at hl 2 rfl) ?_
                      refine lv_astore_n (lv' := [(2, .ref (rN (re rs i))), (7, .int 1), (6, .int 1), (5, .ref (rN (re rs i))), (0, .ref a), (1, .ref b1), (3, .null), (4, .int (nI i))]) hx hb d_Mo_behind_106 rfl hl (by decide) rfl (fun ls hl => ?_)
                      refine lv_iload hx hb d_Mo_behind_107 (lv_at hl 1 rfl) ?_
                      refine lv_if_eq (tgt := 115) hx hb d_Mo_behind_109 (by decide) (fun c109 => ?_) (fun c109 => ?_)
                      · have b109 : 1 = 0 := (nI_eq (a := 1) (b := 0) (by omega) (by omega)).mp c109
                        exact absurd b109 (by decide)
                      · have b109 : ¬ 1 = 0 := fun q => c109 ((nI_eq (a := 1) (b := 0) (by omega) (by omega)).mpr q)
                        refine lv_aload hx hb d_Mo_behind_112 (lv_at hl 3 rfl) ?_
                        refine lv_astore_n (lv' := [(3, .ref (rN (re rs i))), (2, .ref (rN (re rs i))), (7, .int 1), (6, .int 1), (5, .ref (rN (re rs i))), (0, .ref a), (1, .ref b1), (4, .int (nI i))]) hx hb d_Mo_behind_114 rfl hl (by decide) rfl (fun ls hl => ?_)
                        refine lv_iinc (v := nI (i + 1)) (lv' := [(4, .int (nI (i + 1))), (3, .ref (rN (re rs i))), (2, .ref (rN (re rs i))), (7, .int 1), (6, .int 1), (5, .ref (rN (re rs i))), (0, .ref a), (1, .ref b1)]) hx hb d_Mo_behind_115 hl (k := 7) rfl (nI_add i 1) (by decide) rfl (fun ls hl => ?_)
                        refine lv_goto (tgt := 7) hx hb d_Mo_behind_118 (by decide) ?_
                        exact ih (i + 1) (some (rN (re rs i))) (some (rN (re rs i))) _ _ (by omega) (by omega) (by first | exact zlst_keep hbb (fun z => absurd (zsg_gt.mpr z.1) (Int32.not_lt.mpr c34)) | exact zlst_ge hjb1 hjb3 hjb4 (fun z => absurd (zsg_lt.mpr z) (Int32.not_lt.mpr c47)) | exact zlst_keep hbb (fun z => z.2 (hp90.1.nz c93)) | exact zlst_new0 hnjb ⟨zsg_gt.mp (Int32.not_le.mp c34), hp90.1.z c93⟩ | exact zlst_new hjb4 (zsg_lt.mp (Int32.not_le.mp c47)) ⟨zsg_gt.mp (Int32.not_le.mp c34), hp90.1.z c93⟩) (by first | exact zlst_ge hjf1 hjf3 hjf4 (fun z => absurd (zsg_lt.mpr z) (Int32.not_lt.mpr c67)) | exact zlst_keep hbf (fun z => z (hp90.1.nz c93)) | exact zlst_new0 hnjf (hp90.1.z c93) | exact zlst_new hjf4 (zsg_lt.mp (Int32.not_le.mp c67)) (hp90.1.z c93)) hG hS ls (lv_sub hl [6, 7, 2, 1, 0] rfl)
                  · refine lv_goto (tgt := 115) hx hb d_Mo_behind_96 (by decide) ?_
                    refine lv_iinc (v := nI (i + 1)) (lv' := [(4, .int (nI (i + 1))), (7, .int 1), (6, .int 1), (5, .ref (rN (re rs i))), (0, .ref a), (1, .ref b1), (2, .ref (rN (re rs jb))), (3, .null)]) hx hb d_Mo_behind_115 hl (k := 7) rfl (nI_add i 1) (by decide) rfl (fun ls hl => ?_)
                    refine lv_goto (tgt := 7) hx hb d_Mo_behind_118 (by decide) ?_
                    exact ih (i + 1) (some (rN (re rs jb))) none _ _ (by omega) (by omega) (by first | exact zlst_keep hbb (fun z => absurd (zsg_gt.mpr z.1) (Int32.not_lt.mpr c34)) | exact zlst_ge hjb1 hjb3 hjb4 (fun z => absurd (zsg_lt.mpr z) (Int32.not_lt.mpr c47)) | exact zlst_keep hbb (fun z => z.2 (hp90.1.nz c93)) | exact zlst_new0 hnjb ⟨zsg_gt.mp (Int32.not_le.mp c34), hp90.1.z c93⟩ | exact zlst_new hjb4 (zsg_lt.mp (Int32.not_le.mp c47)) ⟨zsg_gt.mp (Int32.not_le.mp c34), hp90.1.z c93⟩) (by first | exact zlst_ge hjf1 hjf3 hjf4 (fun z => absurd (zsg_lt.mpr z) (Int32.not_lt.mpr c67)) | exact zlst_keep hbf (fun z => z (hp90.1.nz c93)) | exact zlst_new0 hnjf (hp90.1.z c93) | exact zlst_new hjf4 (zsg_lt.mp (Int32.not_le.mp c67)) (hp90.1.z c93)) hG hS ls (lv_sub hl [4, 5, 6, 7, 0] rfl)
                · have b79 : 1 = 0 := (nI_eq (a := 1) (b := 0) (by omega) (by omega)).mp c79
                  exact absurd b79 (by decide)
        · obtain ⟨jf, hjf1, hjf2, hjf3, hjf4⟩ : ∃ j0, j0 < i ∧ some fq = some (rN (re rs j0)) ∧ (fun j => ¬ zaway lo rs (rM (re rs j))) j0 ∧ ∀ j, j < i → (fun j => ¬ zaway lo rs (rM (re rs j))) j → ¬ nk_d (zkk rs j) (zkk rs j0) < 0 := by
            rcases hbf with ⟨h, -⟩ | h
            · cases h
            · exact h
          have efq : fq = rN (re rs jf) := Option.some.inj hjf2
          subst efq
          obtain ⟨-, ⟨nff, gjf2, gjf3, gjf4, gjf5⟩, -⟩ := hRs _ (re_mem (show jf < rs.length by omega))
          have hl : lv_has ls 8 [(0, .ref a), (1, .ref b1), (2, .ref (rN (re rs jb))), (3, .ref (rN (re rs jf))), (4, .int (nI i))] := hl
          refine lv_iload hx hb d_Mo_behind_7 (lv_at hl 4 rfl) ?_
          refine lv_aload_n hx hb d_Mo_behind_9 rfl (lv_at hl 0 rfl) ?_
          refine zg_get (ci := 11) (C := "ZoneAnswersModel") (T := T_Mo) (N := 21) hx hb hts zi_Mo hown hK hG ha rfl 5 (by decide) (hts _ w_1286) (fun _ h9 => h9) rfl d_Mo_behind_10 ?_
          refine lv_icmp_ge (tgt := 121) hx hb d_Mo_behind_13 (by decide) (fun c13 => ?_) (fun c13 => ?_)
          · have b13 : rs.length ≤ i := (nI_leI (a := rs.length) (b := i) (by omega) (by omega)).mp c13
            refine lv_aload_n hx hb d_Mo_behind_121 rfl (lv_at hl 2 rfl) ?_
            refine lv_ifnonnull (tgt := 129) hx hb d_Mo_behind_122 (by decide) ?_
            refine lv_aload_n hx hb d_Mo_behind_129 rfl (lv_at hl 2 rfl) ?_
            exact hret (some (rN (re rs jb))) _ _ _ _ _ _ _ _ hr (Or.inr ⟨_, rfl⟩) (⟨⟨_, _, by rw [← show i = rs.length by omega]; exact hbb, by rw [← show i = rs.length by omega]; exact hbf, rfl⟩, rfl⟩) hG hS (Nat.le_refl _) (Nat.le_refl _) d_Mo_behind_130
          · have b13 : ¬ rs.length ≤ i := fun q => c13 ((nI_leI (a := rs.length) (b := i) (by omega) (by omega)).mpr q)
            have hin : i < rs.length := by omega
            obtain ⟨hr1, ⟨nf, hr2, hr3, hr4, hr5⟩, df, hr6, hr7, hr8⟩ := hRs _ (re_mem hin)
            have sm := hr4.2
            refine lv_aload_n hx hb d_Mo_behind_16 rfl (lv_at hl 0 rfl) ?_
            refine zg_get (ci := 11) (C := "ZoneAnswersModel") (T := T_Mo) (N := 21) hx hb hts zi_Mo hown hK hG ha rfl 4 (by decide) (hts _ w_1285) (fun _ h9 => h9) rfl d_Mo_behind_17 ?_
            refine lv_iload hx hb d_Mo_behind_20 (lv_at hl 4 rfl) ?_
            refine zg_aldq hx hb hK hG 4 hm4 rfl (vp_in_nI (by omega) (by omega)) d_Mo_behind_22 ?_
            refine zr_as (y := fr i) (by rw [zi_n _ (by omega)]) ?_
            refine zr_some (a := rA (re rs i)) (hfr i hin) ?_
            refine zg_get (ci := 12) (C := "ZoneAnswersModel$Rec") (T := T_Re) (N := 5) hx hb hts zi_Re hown hK hG hr1 rfl 0 (by decide) (hts _ w_1265) (fun _ h9 => h9) rfl d_Mo_behind_23 ?_
            refine lv_astore (lv' := [(5, .ref (rN (re rs i))), (0, .ref a), (1, .ref b1), (2, .ref (rN (re rs jb))), (3, .ref (rN (re rs jf))), (4, .int (nI i))]) hx hb d_Mo_behind_26 hl (by decide) rfl (fun ls hl => ?_)
            refine lv_aload hx hb d_Mo_behind_28 (lv_at hl 0 rfl) ?_
            refine lv_aload_n hx hb d_Mo_behind_30 rfl (lv_at hl 2 rfl) ?_
            refine zk_i (va_runS (As := [.ref (rN (re rs i)), .ref b1]) (rest := []) ⟨hx, hb, hml, hown, hts⟩ (t_Ns_order l E G (rN (re rs i)) (rM (re rs i)) nf hr2 hr3 hr4 hr5 b1 ls1 f1 hb1 hf1 hg1 hft1) (zcS 2 hts w_1505 w_1506 w_33 w_1507 (by decide +kernel) ⟨Nat.le_of_ble_eq_true rfl, Nat.le_of_ble_eq_true rfl⟩) (zc_pre hbase hK hN hQ hG hS) rfl rfl hl.1 rfl (lv_room (Nat.le_of_ble_eq_true rfl)) d_Mo_behind_31 ⟨(by decide), (by decide)⟩) hS (fun r31 G31 H locs hp31 hG hS => ?_)
            have hG : zP E G H := hp31.2 ▸ hG
            refine zi_as (y := zsg (nk_d (zky (rM (re rs i))) (zky ls1))) hp31.1 ?_
            refine lv_if_le (tgt := 54) hx hb d_Mo_behind_34 (by decide) (fun c34 => ?_) (fun c34 => ?_)
            · refine lv_iconst (v := 0) hx hb d_Mo_behind_54 (by decide) ?_
              refine lv_istore (lv' := [(6, .int 0), (5, .ref (rN (re rs i))), (0, .ref a), (1, .ref b1), (2, .ref (rN (re rs jb))), (3, .ref (rN (re rs jf))), (4, .int (nI i))]) hx hb d_Mo_behind_55 hl (by decide) rfl (fun ls hl => ?_)
              refine lv_aload_n hx hb d_Mo_behind_57 rfl (lv_at hl 5 rfl) ?_
              refine lv_ifnull hx hb d_Mo_behind_58 ?_
              refine lv_aload hx hb d_Mo_behind_61 (lv_at hl 1 rfl) ?_
              refine lv_aload_n hx hb d_Mo_behind_63 rfl (lv_at hl 5 rfl) ?_
              refine zk_i (va_runS (As := [.ref (rN (re rs i)), .ref (rN (re rs jf))]) (rest := []) ⟨hx, hb, hml, hown, hts⟩ (t_Ns_order l E G (rN (re rs i)) (rM (re rs i)) nf hr2 hr3 hr4 hr5 (rN (re rs jf)) (rM (re rs jf)) nff gjf2 gjf3 gjf4 gjf5) (zcS 2 hts w_1505 w_1506 w_33 w_1507 (by decide +kernel) ⟨Nat.le_of_ble_eq_true rfl, Nat.le_of_ble_eq_true rfl⟩) (zc_pre hbase hK hN hQ hG hS) rfl rfl hl.1 rfl (lv_room (Nat.le_of_ble_eq_true rfl)) d_Mo_behind_64 ⟨(by decide), (by decide)⟩) hS (fun r64 G64 H locs hp64 hG hS => ?_)
              have hG : zP E G H := hp64.2 ▸ hG
              refine zi_as (y := zsg (nk_d (zky (rM (re rs i))) (zky (rM (re rs jf))))) hp64.1 ?_
              refine lv_if_ge (tgt := 74) hx hb d_Mo_behind_67 (by decide) (fun c67 => ?_) (fun c67 => ?_)
              · refine lv_iconst (v := 0) hx hb d_Mo_behind_74 (by decide) ?_
                refine lv_istore (lv' := [(7, .int 0), (6, .int 0), (5, .ref (rN (re rs i))), (0, .ref a), (1, .ref b1), (2, .ref (rN (re rs jb))), (3, .ref (rN (re rs jf))), (4, .int (nI i))]) hx hb d_Mo_behind_75 hl (by decide) rfl (fun ls hl => ?_)
                refine lv_iload hx hb d_Mo_behind_77 (lv_at hl 1 rfl) ?_
                refine lv_if_ne (tgt := 87) hx hb d_Mo_behind_79 (by decide) (fun c79 => ?_) (fun c79 => ?_)
                · have b79 : ¬ 0 = 0 := fun q => c79 ((nI_eq (a := 0) (b := 0) (by omega) (by omega)).mpr q)
                  exact absurd b79 (by decide)
                · have b79 : 0 = 0 := (nI_eq (a := 0) (b := 0) (by omega) (by omega)).mp c79
                  refine lv_iload hx hb d_Mo_behind_82 (lv_at hl 0 rfl) ?_
                  refine lv_if_eq (tgt := 115) hx hb d_Mo_behind_84 (by decide) (fun c84 => ?_) (fun c84 => ?_)
                  · have b84 : 0 = 0 := (nI_eq (a := 0) (b := 0) (by omega) (by omega)).mp c84
                    refine lv_iinc (v := nI (i + 1)) (lv' := [(4, .int (nI (i + 1))), (7, .int 0), (6, .int 0), (5, .ref (rN (re rs i))), (0, .ref a), (1, .ref b1), (2, .ref (rN (re rs jb))), (3, .ref (rN (re rs jf)))]) hx hb d_Mo_behind_115 hl (k := 7) rfl (nI_add i 1) (by decide) rfl (fun ls hl => ?_)
                    refine lv_goto (tgt := 7) hx hb d_Mo_behind_118 (by decide) ?_
                    exact ih (i + 1) (some (rN (re rs jb))) (some (rN (re rs jf))) _ _ (by omega) (by omega) (by first | exact zlst_keep hbb (fun z => absurd (zsg_gt.mpr z.1) (Int32.not_lt.mpr c34)) | exact zlst_ge hjb1 hjb3 hjb4 (fun z => absurd (zsg_lt.mpr z) (Int32.not_lt.mpr c47)) | exact zlst_keep hbb (fun z => z.2 (hp90.1.nz c93)) | exact zlst_new0 hnjb ⟨zsg_gt.mp (Int32.not_le.mp c34), hp90.1.z c93⟩ | exact zlst_new hjb4 (zsg_lt.mp (Int32.not_le.mp c47)) ⟨zsg_gt.mp (Int32.not_le.mp c34), hp90.1.z c93⟩) (by first | exact zlst_ge hjf1 hjf3 hjf4 (fun z => absurd (zsg_lt.mpr z) (Int32.not_lt.mpr c67)) | exact zlst_keep hbf (fun z => z (hp90.1.nz c93)) | exact zlst_new0 hnjf (hp90.1.z c93) | exact zlst_new hjf4 (zsg_lt.mp (Int32.not_le.mp c67)) (hp90.1.z c93)) hG hS ls (lv_sub hl [4, 5, 6, 7, 0] rfl)
                  · have b84 : ¬ 0 = 0 := fun q => c84 ((nI_eq (a := 0) (b := 0) (by omega) (by omega)).mpr q)
                    exact absurd b84 (by decide)
              · refine lv_iconst (v := 1) hx hb d_Mo_behind_70 (by decide) ?_
                refine lv_goto (tgt := 75) hx hb d_Mo_behind_71 (by decide) ?_
                refine lv_istore (lv' := [(7, .int 1), (6, .int 0), (5, .ref (rN (re rs i))), (0, .ref a), (1, .ref b1), (2, .ref (rN (re rs jb))), (3, .ref (rN (re rs jf))), (4, .int (nI i))]) hx hb d_Mo_behind_75 hl (by decide) rfl (fun ls hl => ?_)
                refine lv_iload hx hb d_Mo_behind_77 (lv_at hl 1 rfl) ?_
                refine lv_if_ne (tgt := 87) hx hb d_Mo_behind_79 (by decide) (fun c79 => ?_) (fun c79 => ?_)
                · have b79 : ¬ 0 = 0 := fun q => c79 ((nI_eq (a := 0) (b := 0) (by omega) (by omega)).mpr q)
                  exact absurd b79 (by decide)
                · have b79 : 0 = 0 := (nI_eq (a := 0) (b := 0) (by omega) (by omega)).mp c79
                  refine lv_iload hx hb d_Mo_behind_82 (lv_at hl 0 rfl) ?_
                  refine lv_if_eq (tgt := 115) hx hb d_Mo_behind_84 (by decide) (fun c84 => ?_) (fun c84 => ?_)
                  · have b84 : 1 = 0 := (nI_eq (a := 1) (b := 0) (by omega) (by omega)).mp c84
                    exact absurd b84 (by decide)
                  · have b84 : ¬ 1 = 0 := fun q => c84 ((nI_eq (a := 1) (b := 0) (by omega) (by omega)).mpr q)
                    refine lv_aload_n hx hb d_Mo_behind_87 rfl (lv_at hl 3 rfl) ?_
                    refine lv_aload hx hb d_Mo_behind_88 (lv_at hl 2 rfl) ?_
                    refine zk_i (va_runV (As := [.ref (rN (re rs i))]) (rest := []) ⟨hx, hb, hml, hown, hts⟩ (t_Mo_away l E G rs a m1 m3 m4 m6 m7 m8 m9 m10 m11 m12 m15 m18 th tn m13 m14 m16 m17 m19 m20 ha hRS lo fo hm3 hfo hgo (rN (re rs i)) (rM (re rs i)) nf hr2 hr3 hr4) (zcV 1 hts w_1512 w_1514 wp_46 w_30 w_1515 (by decide +kernel) ⟨Nat.le_of_ble_eq_true rfl, Nat.le_of_ble_eq_true rfl⟩) (zc_preV hbase hK hN hQ hG hS ha rfl) rfl rfl hl.1 rfl (lv_room (Nat.le_of_ble_eq_true rfl)) d_Mo_behind_90 ⟨(by decide), (by decide)⟩) hS (fun r90 G90 H locs hp90 hG hS => ?_)
                    have hG : zP E G H := hp90.2 ▸ hG
                    refine lv_if_eq (tgt := 99) hx hb d_Mo_behind_93 (by decide) (fun c93 => ?_) (fun c93 => ?_)
                    · refine lv_iload hx hb d_Mo_behind_99 (lv_at hl 1 rfl) ?_
                      refine lv_if_eq (tgt := 107) hx hb d_Mo_behind_101 (by decide) (fun c101 => ?_) (fun c101 => ?_)
                      · have b101 : 0 = 0 := (nI_eq (a := 0) (b := 0) (by omega) (by omega)).mp c101
                        refine lv_iload hx hb d_Mo_behind_107 (lv_at hl 0 rfl) ?_
                        refine lv_if_eq (tgt := 115) hx hb d_Mo_behind_109 (by decide) (fun c109 => ?_) (fun c109 => ?_)
                        · have b109 : 1 = 0 := (nI_eq (a := 1) (b := 0) (by omega) (by omega)).mp c109
                          exact absurd b109 (by decide)
                        · have b109 : ¬ 1 = 0 := fun q => c109 ((nI_eq (a := 1) (b := 0) (by omega) (by omega)).mpr q)
                          refine lv_aload hx hb d_Mo_behind_112 (lv_at hl 2 rfl) ?_
                          refine lv_astore_n (lv' := [(3, .ref (rN (re rs i))), (7, .int 1), (6, .int 0), (5, .ref (rN (re rs i))), (0, .ref a), (1, .ref b1), (2, .ref (rN (re rs jb))), (4, .int (nI i))]) hx hb d_Mo_behind_114 rfl hl (by decide) rfl (fun ls hl => ?_)
                          refine lv_iinc (v := nI (i + 1)) (lv' := [(4, .int (nI (i + 1))), (3, .ref (rN (re rs i))), (7, .int 1), (6, .int 0), (5, .ref (rN (re rs i))), (0, .ref a), (1, .ref b1), (2, .ref (rN (re rs jb)))]) hx hb d_Mo_behind_115 hl (k := 7) rfl (nI_add i 1) (by decide) rfl (fun ls hl => ?_)
                          refine lv_goto (tgt := 7) hx hb d_Mo_behind_118 (by decide) ?_
                          exact ih (i + 1) (some (rN (re rs jb))) (some (rN (re rs i))) _ _ (by omega) (by omega) (by first | exact zlst_keep hbb (fun z => absurd (zsg_gt.mpr z.1) (Int32.not_lt.mpr c34)) | exact zlst_ge hjb1 hjb3 hjb4 (fun z => absurd (zsg_lt.mpr z) (Int32.not_lt.mpr c47)) | exact zlst_keep hbb (fun z => z.2 (hp90.1.nz c93)) | exact zlst_new0 hnjb ⟨zsg_gt.mp (Int32.not_le.mp c34), hp90.1.z c93⟩ | exact zlst_new hjb4 (zsg_lt.mp (Int32.not_le.mp c47)) ⟨zsg_gt.mp (Int32.not_le.mp c34), hp90.1.z c93⟩) (by first | exact zlst_ge hjf1 hjf3 hjf4 (fun z => absurd (zsg_lt.mpr z) (Int32.not_lt.mpr c67)) | exact zlst_keep hbf (fun z => z (hp90.1.nz c93)) | exact zlst_new0 hnjf (hp90.1.z c93) | exact zlst_new hjf4 (zsg_lt.mp (Int32.not_le.mp c67)) (hp90.1.z c93)) hG hS ls (lv_sub hl [5, 6, 7, 1, 0] rfl)
                      · have b101 : ¬ 0 = 0 := fun q => c101 ((nI_eq (a := 0) (b := 0) (by omega) (by omega)).mpr q)
                        exact absurd b101 (by decide)
                    · refine lv_goto (tgt := 115) hx hb d_Mo_behind_96 (by decide) ?_
                      refine lv_iinc (v := nI (i + 1)) (lv' := [(4, .int (nI (i + 1))), (7, .int 1), (6, .int 0), (5, .ref (rN (re rs i))), (0, .ref a), (1, .ref b1), (2, .ref (rN (re rs jb))), (3, .ref (rN (re rs jf)))]) hx hb d_Mo_behind_115 hl (k := 7) rfl (nI_add i 1) (by decide) rfl (fun ls hl => ?_)
                      refine lv_goto (tgt := 7) hx hb d_Mo_behind_118 (by decide) ?_
                      exact ih (i + 1) (some (rN (re rs jb))) (some (rN (re rs jf))) _ _ (by omega) (by omega) (by first | exact zlst_keep hbb (fun z => absurd (zsg_gt.mpr z.1) (Int32.not_lt.mpr c34)) | exact zlst_ge hjb1 hjb3 hjb4 (fun z => absurd (zsg_lt.mpr z) (Int32.not_lt.mpr c47)) | exact zlst_keep hbb (fun z => z.2 (hp90.1.nz c93)) | exact zlst_new0 hnjb ⟨zsg_gt.mp (Int32.not_le.mp c34), hp90.1.z c93⟩ | exact zlst_new hjb4 (zsg_lt.mp (Int32.not_le.mp c47)) ⟨zsg_gt.mp (Int32.not_le.mp c34), hp90.1.z c93⟩) (by first | exact zlst_ge hjf1 hjf3 hjf4 (fun z => absurd (zsg_lt.mpr z) (Int32.not_lt.mpr c67)) | exact zlst_keep hbf (fun z => z (hp90.1.nz c93)) | exact zlst_new0 hnjf (hp90.1.z c93) | exact zlst_new hjf4 (zsg_lt.mp (Int32.not_le.mp c67)) (hp90.1.z c93)) hG hS ls (lv_sub hl [4, 5, 6, 7, 0] rfl)
            · refine lv_aload_n hx hb d_Mo_behind_37 rfl (lv_at hl 3 rfl) ?_
              refine lv_ifnull hx hb d_Mo_behind_38 ?_
              refine lv_aload hx hb d_Mo_behind_41 (lv_at hl 0 rfl) ?_
              refine lv_aload_n hx hb d_Mo_behind_43 rfl (lv_at hl 3 rfl) ?_
              refine zk_i (va_runS (As := [.ref (rN (re rs i)), .ref (rN (re rs jb))]) (rest := []) ⟨hx, hb, hml, hown, hts⟩ (t_Ns_order l E G (rN (re rs i)) (rM (re rs i)) nf hr2 hr3 hr4 hr5 (rN (re rs jb)) (rM (re rs jb)) nfb gjb2 gjb3 gjb4 gjb5) (zcS 2 hts w_1505 w_1506 w_33 w_1507 (by decide +kernel) ⟨Nat.le_of_ble_eq_true rfl, Nat.le_of_ble_eq_true rfl⟩) (zc_pre hbase hK hN hQ hG hS) rfl rfl hl.1 rfl (lv_room (Nat.le_of_ble_eq_true rfl)) d_Mo_behind_44 ⟨(by decide), (by decide)⟩) hS (fun r44 G44 H locs hp44 hG hS => ?_)
              have hG : zP E G H := hp44.2 ▸ hG
              refine zi_as (y := zsg (nk_d (zky (rM (re rs i))) (zky (rM (re rs jb))))) hp44.1 ?_
              refine lv_if_ge (tgt := 54) hx hb d_Mo_behind_47 (by decide) (fun c47 => ?_) (fun c47 => ?_)
              · refine lv_iconst (v := 0) hx hb d_Mo_behind_54 (by decide) ?_
                refine lv_istore (lv' := [(6, .int 0), (5, .ref (rN (re rs i))), (0, .ref a), (1, .ref b1), (2, .ref (rN (re rs jb))), (3, .ref (rN (re rs jf))), (4, .int (nI i))]) hx hb d_Mo_behind_55 hl (by decide) rfl (fun ls hl => ?_)
                refine lv_aload_n hx hb d_Mo_behind_57 rfl (lv_at hl 5 rfl) ?_
                refine lv_ifnull hx hb d_Mo_behind_58 ?_
                refine lv_aload hx hb d_Mo_behind_61 (lv_at hl 1 rfl) ?_
                refine lv_aload_n hx hb d_Mo_behind_63 rfl (lv_at hl 5 rfl) ?_
                refine zk_i (va_runS (As := [.ref (rN (re rs i)), .ref (rN (re rs jf))]) (rest := []) ⟨hx, hb, hml, hown, hts⟩ (t_Ns_order l E G (rN (re rs i)) (rM (re rs i)) nf hr2 hr3 hr4 hr5 (rN (re rs jf)) (rM (re rs jf)) nff gjf2 gjf3 gjf4 gjf5) (zcS 2 hts w_1505 w_1506 w_33 w_1507 (by decide +kernel) ⟨Nat.le_of_ble_eq_true rfl, Nat.le_of_ble_eq_true rfl⟩) (zc_pre hbase hK hN hQ hG hS) rfl rfl hl.1 rfl (lv_room (Nat.le_of_ble_eq_true rfl)) d_Mo_behind_64 ⟨(by decide), (by decide)⟩) hS (fun r64 G64 H locs hp64 hG hS => ?_)
                have hG : zP E G H := hp64.2 ▸ hG
                refine zi_as (y := zsg (nk_d (zky (rM (re rs i))) (zky (rM (re rs jf))))) hp64.1 ?_
                refine lv_if_ge (tgt := 74) hx hb d_Mo_behind_67 (by decide) (fun c67 => ?_) (fun c67 => ?_)
                · refine lv_iconst (v := 0) hx hb d_Mo_behind_74 (by decide) ?_
                  refine lv_istore (lv' := [(7, .int 0), (6, .int 0), (5, .ref (rN (re rs i))), (0, .ref a), (1, .ref b1), (2, .ref (rN (re rs jb))), (3, .ref (rN (re rs jf))), (4, .int (nI i))]) hx hb d_Mo_behind_75 hl (by decide) rfl (fun ls hl => ?_)
                  refine lv_iload hx hb d_Mo_behind_77 (lv_at hl 1 rfl) ?_
                  refine lv_if_ne (tgt := 87) hx hb d_Mo_behind_79 (by decide) (fun c79 => ?_) (fun c79 => ?_)
                  · have b79 : ¬ 0 = 0 := fun q => c79 ((nI_eq (a := 0) (b := 0) (by omega) (by omega)).mpr q)
                    exact absurd b79 (by decide)
                  · have b79 : 0 = 0 := (nI_eq (a := 0) (b := 0) (by omega) (by omega)).mp c79
                    refine lv_iload hx hb d_Mo_behind_82 (lv_at hl 0 rfl) ?_
                    refine lv_if_eq (tgt := 115) hx hb d_Mo_behind_84 (by decide) (fun c84 => ?_) (fun c84 => ?_)
                    · have b84 : 0 = 0 := (nI_eq (a := 0) (b := 0) (by omega) (by omega)).mp c84
                      refine lv_iinc (v := nI (i + 1)) (lv' := [(4, .int (nI (i + 1))), (7, .int 0), (6, .int 0), (5, .ref (rN (re rs i))), (0, .ref a), (1, .ref b1), (2, .ref (rN (re rs jb))), (3, .ref (rN (re rs jf)))]) hx hb d_Mo_behind_115 hl (k := 7) rfl (nI_add i 1) (by decide) rfl (fun ls hl => ?_)
                      refine lv_goto (tgt := 7) hx hb d_Mo_behind_118 (by decide) ?_
                      exact ih (i + 1) (some (rN (re rs jb))) (some (rN (re rs jf))) _ _ (by omega) (by omega) (by first | exact zlst_keep hbb (fun z => absurd (zsg_gt.mpr z.1) (Int32.not_lt.mpr c34)) | exact zlst_ge hjb1 hjb3 hjb4 (fun z => absurd (zsg_lt.mpr z) (Int32.not_lt.mpr c47)) | exact zlst_keep hbb (fun z => z.2 (hp90.1.nz c93)) | exact zlst_new0 hnjb ⟨zsg_gt.mp (Int32.not_le.mp c34), hp90.1.z c93⟩ | exact zlst_new hjb4 (zsg_lt.mp (Int32.not_le.mp c47)) ⟨zsg_gt.mp (Int32.not_le.mp c34), hp90.1.z c93⟩) (by first | exact zlst_ge hjf1 hjf3 hjf4 (fun z => absurd (zsg_lt.mpr z) (Int32.not_lt.mpr c67)) | exact zlst_keep hbf (fun z => z (hp90.1.nz c93)) | exact zlst_new0 hnjf (hp90.1.z c93) | exact zlst_new hjf4 (zsg_lt.mp (Int32.not_le.mp c67)) (hp90.1.z c93)) hG hS ls (lv_sub hl [4, 5, 6, 7, 0] rfl)
                    · have b84 : ¬ 0 = 0 := fun q => c84 ((nI_eq (a := 0) (b := 0) (by omega) (by omega)).mpr q)
                      exact absurd b84 (by decide)
                · refine lv_iconst (v := 1) hx hb d_Mo_behind_70 (by decide) ?_
                  refine lv_goto (tgt := 75) hx hb d_Mo_behind_71 (by decide) ?_
                  refine lv_istore (lv' := [(7, .int 1), (6, .int 0), (5, .ref (rN (re rs i))), (0, .ref a), (1, .ref b1), (2, .ref (rN (re rs jb))), (3, .ref (rN (re rs jf))), (4, .int (nI i))]) hx hb d_Mo_behind_75 hl (by decide) rfl (fun ls hl => ?_)
                  refine lv_iload hx hb d_Mo_behind_77 (lv_at hl 1 rfl) ?_
                  refine lv_if_ne (tgt := 87) hx hb d_Mo_behind_79 (by decide) (fun c79 => ?_) (fun c79 => ?_)
                  · have b79 : ¬ 0 = 0 := fun q => c79 ((nI_eq (a := 0) (b := 0) (by omega) (by omega)).mpr q)
                    exact absurd b79 (by decide)
                  · have b79 : 0 = 0 := (nI_eq (a := 0) (b := 0) (by omega) (by omega)).mp c79
                    refine lv_iload hx hb d_Mo_behind_82 (lv_at hl 0 rfl) ?_
                    refine lv_if_eq (tgt := 115) hx hb d_Mo_behind_84 (by decide) (fun c84 => ?_) (fun c84 => ?_)
                    · have b84 : 1 = 0 := (nI_eq (a := 1) (b := 0) (by omega) (by omega)).mp c84
                      exact absurd b84 (by decide)
                    · have b84 : ¬ 1 = 0 := fun q => c84 ((nI_eq (a := 1) (b := 0) (by omega) (by omega)).mpr q)
                      refine lv_aload_n hx hb d_Mo_behind_87 rfl (lv_at hl 3 rfl) ?_
                      refine lv_aload hx hb d_Mo_behind_88 (lv_at hl 2 rfl) ?_
                      refine zk_i (va_runV (As := [.ref (rN (re rs i))]) (rest := []) ⟨hx, hb, hml, hown, hts⟩ (t_Mo_away l E G rs a m1 m3 m4 m6 m7 m8 m9 m10 m11 m12 m15 m18 th tn m13 m14 m16 m17 m19 m20 ha hRS lo fo hm3 hfo hgo (rN (re rs i)) (rM (re rs i)) nf hr2 hr3 hr4) (zcV 1 hts w_1512 w_1514 wp_46 w_30 w_1515 (by decide +kernel) ⟨Nat.le_of_ble_eq_true rfl, Nat.le_of_ble_eq_true rfl⟩) (zc_preV hbase hK hN hQ hG hS ha rfl) rfl rfl hl.1 rfl (lv_room (Nat.le_of_ble_eq_true rfl)) d_Mo_behind_90 ⟨(by decide), (by decide)⟩) hS (fun r90 G90 H locs hp90 hG hS => ?_)
                      have hG : zP E G H := hp90.2 ▸ hG
                      refine lv_if_eq (tgt := 99) hx hb d_Mo_behind_93 (by decide) (fun c93 => ?_) (fun c93 => ?_)
                      · refine lv_iload hx hb d_Mo_behind_99 (lv_at hl 1 rfl) ?_
                        refine lv_if_eq (tgt := 107) hx hb d_Mo_behind_101 (by decide) (fun c101 => ?_) (fun c101 => ?_)
                        · have b101 : 0 = 0 := (nI_eq (a := 0) (b := 0) (by omega) (by omega)).mp c101
                          refine lv_iload hx hb d_Mo_behind_107 (lv_at hl 0 rfl) ?_
                          refine lv_if_eq (tgt := 115) hx hb d_Mo_behind_109 (by decide) (fun c109 => ?_) (fun c109 => ?_)
                          · have b109 : 1 = 0 := (nI_eq (a := 1) (b := 0) (by omega) (by omega)).mp c109
                            exact absurd b109 (by decide)
                          · have b109 : ¬ 1 = 0 := fun q => c109 ((nI_eq (a := 1) (b := 0) (by omega) (by omega)).mpr q)
                            refine lv_aload hx hb d_Mo_behind_112 (lv_at hl 2 rfl) ?_
                            refine lv_astore_n (lv' := [(3, .ref (rN (re rs i))), (7, .int 1), (6, .int 0), (5, .ref (rN (re rs i))), (0, .ref a), (1, .ref b1), (2, .ref (rN (re rs jb))), (4, .int (nI i))]) hx hb d_Mo_behind_114 rfl hl (by decide) rfl (fun ls hl => ?_)
                            refine lv_iinc (v := nI (i + 1)) (lv' := [(4, .int (nI (i + 1))), (3, .ref (rN (re rs i))), (7, .int 1), (6, .int 0), (5, .ref (rN (re rs i))), (0, .ref a), (1, .ref b1), (2, .ref (rN (re rs jb)))]) hx hb d_Mo_behind_115 hl (k := 7) rfl (nI_add i 1) (by decide) rfl (fun ls hl => ?_)
                            refine lv_goto (tgt := 7) hx hb d_Mo_behind_118 (by decide) ?_
                            exact ih (i + 1) (some (rN (re rs jb))) (some (rN (re rs i))) _ _ (by omega) (by omega) (by first | exact zlst_keep hbb (fun z => absurd (zsg_gt.mpr z.1) (Int32.not_lt.mpr c34)) | exact zlst_ge hjb1 hjb3 hjb4 (fun z => absurd (zsg_lt.mpr z) (Int32.not_lt.mpr c47)) | exact zlst_keep hbb (fun z => z.2 (hp90.1.nz c93)) | exact zlst_new0 hnjb ⟨zsg_gt.mp (Int32.not_le.mp c34), hp90.1.z c93⟩ | exact zlst_new hjb4 (zsg_lt.mp (Int32.not_le.mp c47)) ⟨zsg_gt.mp (Int32.not_le.mp c34), hp90.1.z c93⟩) (by first | exact zlst_ge hjf1 hjf3 hjf4 (fun z => absurd (zsg_lt.mpr z) (Int32.not_lt.mpr c67)) | exact zlst_keep hbf (fun z => z (hp90.1.nz c93)) | exact zlst_new0 hnjf (hp90.1.z c93) | exact zlst_new hjf4 (zsg_lt.mp (Int32.not_le.mp c67)) (hp90.1.z c93)) hG hS ls (lv_sub hl [5, 6, 7, 1, 0] rfl)
                        · have b101 : ¬ 0 = 0 := fun q => c101 ((nI_eq (a := 0) (b := 0) (by omega) (by omega)).mpr q)
                          exact absurd b101 (by decide)
                      · refine lv_goto (tgt := 115) hx hb d_Mo_behind_96 (by decide) ?_
                        refine lv_iinc (v := nI (i + 1)) (lv' := [(4, .int (nI (i + 1))), (7, .int 1), (6, .int 0), (5, .ref (rN (re rs i))), (0, .ref a), (1, .ref b1), (2, .ref (rN (re rs jb))), (3, .ref (rN (re rs jf)))]) hx hb d_Mo_behind_115 hl (k := 7) rfl (nI_add i 1) (by decide) rfl (fun ls hl => ?_)
                        refine lv_goto (tgt := 7) hx hb d_Mo_behind_118 (by decide) ?_
                        exact ih (i + 1) (some (rN (re rs jb))) (some (rN (re rs jf))) _ _ (by omega) (by omega) (by first | exact zlst_keep hbb (fun z => absurd (zsg_gt.mpr z.1) (Int32.not_lt.mpr c34)) | exact zlst_ge hjb1 hjb3 hjb4 (fun z => absurd (zsg_lt.mpr z) (Int32.not_lt.mpr c47)) | exact zlst_keep hbb (fun z => z.2 (hp90.1.nz c93)) | exact zlst_new0 hnjb ⟨zsg_gt.mp (Int32.not_le.mp c34), hp90.1.z c93⟩ | exact zlst_new hjb4 (zsg_lt.mp (Int32.not_le.mp c47)) ⟨zsg_gt.mp (Int32.not_le.mp c34), hp90.1.z c93⟩) (by first | exact zlst_ge hjf1 hjf3 hjf4 (fun z => absurd (zsg_lt.mpr z) (Int32.not_lt.mpr c67)) | exact zlst_keep hbf (fun z => z (hp90.1.nz c93)) | exact zlst_new0 hnjf (hp90.1.z c93) | exact zlst_new hjf4 (zsg_lt.mp (Int32.not_le.mp c67)) (hp90.1.z c93)) hG hS ls (lv_sub hl [4, 5, 6, 7, 0] rfl)
              · refine lv_iconst (v := 1) hx hb d_Mo_behind_50 (by decide) ?_
                refine lv_goto (tgt := 55) hx hb d_Mo_behind_51 (by decide) ?_
                refine lv_istore (lv' := [(6, .int 1), (5, .ref (rN (re rs i))), (0, .ref a), (1, .ref b1), (2, .ref (rN (re rs jb))), (3, .ref (rN (re rs jf))), (4, .int (nI i))]) hx hb d_Mo_behind_55 hl (by decide) rfl (fun ls hl => ?_)
                refine lv_aload_n hx hb d_Mo_behind_57 rfl (lv_at hl 5 rfl) ?_
                refine lv_ifnull hx hb d_Mo_behind_58 ?_
                refine lv_aload hx hb d_Mo_behind_61 (lv_at hl 1 rfl) ?_
                refine lv_aload_n hx hb d_Mo_behind_63 rfl (lv_at hl 5 rfl) ?_
                refine zk_i (va_runS (As := [.ref (rN (re rs i)), .ref (rN (re rs jf))]) (rest := []) ⟨hx, hb, hml, hown, hts⟩ (t_Ns_order l E G (rN (re rs i)) (rM (re rs i)) nf hr2 hr3 hr4 hr5 (rN (re rs jf)) (rM (re rs jf)) nff gjf2 gjf3 gjf4 gjf5) (zcS 2 hts w_1505 w_1506 w_33 w_1507 (by decide +kernel) ⟨Nat.le_of_ble_eq_true rfl, Nat.le_of_ble_eq_true rfl⟩) (zc_pre hbase hK hN hQ hG hS) rfl rfl hl.1 rfl (lv_room (Nat.le_of_ble_eq_true rfl)) d_Mo_behind_64 ⟨(by decide), (by decide)⟩) hS (fun r64 G64 H locs hp64 hG hS => ?_)
                have hG : zP E G H := hp64.2 ▸ hG
                refine zi_as (y := zsg (nk_d (zky (rM (re rs i))) (zky (rM (re rs jf))))) hp64.1 ?_
                refine lv_if_ge (tgt := 74) hx hb d_Mo_behind_67 (by decide) (fun c67 => ?_) (fun c67 => ?_)
                · refine lv_iconst (v := 0) hx hb d_Mo_behind_74 (by decide) ?_
                  refine lv_istore (lv' := [(7, .int 0), (6, .int 1), (5, .ref (rN (re rs i))), (0, .ref a), (1, .ref b1), (2, .ref (rN (re rs jb))), (3, .ref (rN (re rs jf))), (4, .int (nI i))]) hx hb d_Mo_behind_75 hl (by decide) rfl (fun ls hl => ?_)
                  refine lv_iload hx hb d_Mo_behind_77 (lv_at hl 1 rfl) ?_
                  refine lv_if_ne (tgt := 87) hx hb d_Mo_behind_79 (by decide) (fun c79 => ?_) (fun c79 => ?_)
                  · have b79 : ¬ 1 = 0 := fun q => c79 ((nI_eq (a := 1) (b := 0) (by omega) (by omega)).mpr q)
                    refine lv_aload_n hx hb d_Mo_behind_87 rfl (lv_at hl 3 rfl) ?_
                    refine lv_aload hx hb d_Mo_behind_88 (lv_at hl 2 rfl) ?_
                    refine zk_i (va_runV (As := [.ref (rN (re rs i))]) (rest := []) ⟨hx, hb, hml, hown, hts⟩ (t_Mo_away l E G rs a m1 m3 m4 m6 m7 m8 m9 m10 m11 m12 m15 m18 th tn m13 m14 m16 m17 m19 m20 ha hRS lo fo hm3 hfo hgo (rN (re rs i)) (rM (re rs i)) nf hr2 hr3 hr4) (zcV 1 hts w_1512 w_1514 wp_46 w_30 w_1515 (by decide +kernel) ⟨Nat.le_of_ble_eq_true rfl, Nat.le_of_ble_eq_true rfl⟩) (zc_preV hbase hK hN hQ hG hS ha rfl) rfl rfl hl.1 rfl (lv_room (Nat.le_of_ble_eq_true rfl)) d_Mo_behind_90 ⟨(by decide), (by decide)⟩) hS (fun r90 G90 H locs hp90 hG hS => ?_)
                    have hG : zP E G H := hp90.2 ▸ hG
                    refine lv_if_eq (tgt := 99) hx hb d_Mo_behind_93 (by decide) (fun c93 => ?_) (fun c93 => ?_)
                    · refine lv_iload hx hb d_Mo_behind_99 (lv_at hl 1 rfl) ?_
                      refine lv_if_eq (tgt := 107) hx hb d_Mo_behind_101 (by decide) (fun c101 => ?_) (fun c101 => ?_)
                      · have b101 : 1 = 0 := (nI_eq (a := 1) (b := 0) (by omega) (by omega)).mp c101
                        exact absurd b101 (by decide)
                      · have b101 : ¬ 1 = 0 := fun q => c101 ((nI_eq (a := 1) (b := 0) (by omega) (by omega)).mpr q)
                        refine lv_aload hx hb d_Mo_behind_104 (lv_at hl 2 rfl) ?_
                        refine lv_astore_n (lv' := [(2, .ref (rN (re rs i))), (7, .int 0), (6, .int 1), (5, .ref (rN (re rs i))), (0, .ref a), (1, .ref b1), (3, .ref (rN (re rs jf))), (4, .int (nI i))]) hx hb d_Mo_behind_106 rfl hl (by decide) rfl (fun ls hl => ?_)
                        refine lv_iload hx hb d_Mo_behind_107 (lv_at hl 1 rfl) ?_
                        refine lv_if_eq (tgt := 115) hx hb d_Mo_behind_109 (by decide) (fun c109 => ?_) (fun c109 => ?_)
                        · have b109 : 0 = 0 := (nI_eq (a := 0) (b := 0) (by omega) (by omega)).mp c109
                          refine lv_iinc (v := nI (i + 1)) (lv' := [(4, .int (nI (i + 1))), (2, .ref (rN (re rs i))), (7, .int 0), (6, .int 1), (5, .ref (rN (re rs i))), (0, .ref a), (1, .ref b1), (3, .ref (rN (re rs jf)))]) hx hb d_Mo_behind_115 hl (k := 7) rfl (nI_add i 1) (by decide) rfl (fun ls hl => ?_)
                          refine lv_goto (tgt := 7) hx hb d_Mo_behind_118 (by decide) ?_
                          exact ih (i + 1) (some (rN (re rs i))) (some (rN (re rs jf))) _ _ (by omega) (by omega) (by first | exact zlst_keep hbb (fun z => absurd (zsg_gt.mpr z.1) (Int32.not_lt.mpr c34)) | exact zlst_ge hjb1 hjb3 hjb4 (fun z => absurd (zsg_lt.mpr z) (Int32.not_lt.mpr c47)) | exact zlst_keep hbb (fun z => z.2 (hp90.1.nz c93)) | exact zlst_new0 hnjb ⟨zsg_gt.mp (Int32.not_le.mp c34), hp90.1.z c93⟩ | exact zlst_new hjb4 (zsg_lt.mp (Int32.not_le.mp c47)) ⟨zsg_gt.mp (Int32.not_le.mp c34), hp90.1.z c93⟩) (by first | exact zlst_ge hjf1 hjf3 hjf4 (fun z => absurd (zsg_lt.mpr z) (Int32.not_lt.mpr c67)) | exact zlst_keep hbf (fun z => z (hp90.1.nz c93)) | exact zlst_new0 hnjf (hp90.1.z c93) | exact zlst_new hjf4 (zsg_lt.mp (Int32.not_le.mp c67)) (hp90.1.z c93)) hG hS ls (lv_sub hl [5, 6, 1, 7, 0] rfl)
                        · have b109 : ¬ 0 = 0 := fun q => c109 ((nI_eq (a := 0) (b := 0) (by omega) (by omega)).mpr q)
                          exact absurd b109 (by decide)
                    · refine lv_goto (tgt := 115) hx hb d_Mo_behind_96 (by decide) ?_
                      refine lv_iinc (v := nI (i + 1)) (lv' := [(4, .int (nI (i + 1))), (7, .int 0), (6, .int 1), (5, .ref (rN (re rs i))), (0, .ref a), (1, .ref b1), (2, .ref (rN (re rs jb))), (3, .ref (rN (re rs jf)))]) hx hb d_Mo_behind_115 hl (k := 7) rfl (nI_add i 1) (by decide) rfl (fun ls hl => ?_)
                      refine lv_goto (tgt := 7) hx hb d_Mo_behind_118 (by decide) ?_
                      exact ih (i + 1) (some (rN (re rs jb))) (some (rN (re rs jf))) _ _ (by omega) (by omega) (by first | exact zlst_keep hbb (fun z => absurd (zsg_gt.mpr z.1) (Int32.not_lt.mpr c34)) | exact zlst_ge hjb1 hjb3 hjb4 (fun z => absurd (zsg_lt.mpr z) (Int32.not_lt.mpr c47)) | exact zlst_keep hbb (fun z => z.2 (hp90.1.nz c93)) | exact zlst_new0 hnjb ⟨zsg_gt.mp (Int32.not_le.mp c34), hp90.1.z c93⟩ | exact zlst_new hjb4 (zsg_lt.mp (Int32.not_le.mp c47)) ⟨zsg_gt.mp (Int32.not_le.mp c34), hp90.1.z c93⟩) (by first | exact zlst_ge hjf1 hjf3 hjf4 (fun z => absurd (zsg_lt.mpr z) (Int32.not_lt.mpr c67)) | exact zlst_keep hbf (fun z => z (hp90.1.nz c93)) | exact zlst_new0 hnjf (hp90.1.z c93) | exact zlst_new hjf4 (zsg_lt.mp (Int32.not_le.mp c67)) (hp90.1.z c93)) hG hS ls (lv_sub hl [4, 5, 6, 7, 0] rfl)
                  · have b79 : 1 = 0 := (nI_eq (a := 1) (b := 0) (by omega) (by omega)).mp c79
                    exact absurd b79 (by decide)
                · refine lv_iconst (v := 1) hx hb d_Mo_behind_70 (by decide) ?_
                  refine lv_goto (tgt := 75) hx hb d_Mo_behind_71 (by decide) ?_
                  refine lv_istore (lv' := [(7, .int 1), (6, .int 1), (5, .ref (rN (re rs i))), (0, .ref a), (1, .ref b1), (2, .ref (rN (re rs jb))), (3, .ref (rN (re rs jf))), (4, .int (nI i))]) hx hb d_Mo_behind_75 hl (by decide) rfl (fun ls hl => ?_)
                  refine lv_iload hx hb d_Mo_behind_77 (lv_at hl 1 rfl) ?_
                  refine lv_if_ne (tgt := 87) hx hb d_Mo_behind_79 (by decide) (fun c79 => ?_) (fun c79 => ?_)
                  · have b79 : ¬ 1 = 0 := fun q => c79 ((nI_eq (a := 1) (b := 0) (by omega) (by omega)).mpr q)
                    refine lv_aload_n hx hb d_Mo_behind_87 rfl (lv_at hl 3 rfl) ?_
                    refine lv_aload hx hb d_Mo_behind_88 (lv_at hl 2 rfl) ?_
                    refine zk_i (va_runV (As := [.ref (rN (re rs i))]) (rest := []) ⟨hx, hb, hml, hown, hts⟩ (t_Mo_away l E G rs a m1 m3 m4 m6 m7 m8 m9 m10 m11 m12 m15 m18 th tn m13 m14 m16 m17 m19 m20 ha hRS lo fo hm3 hfo hgo (rN (re rs i)) (rM (re rs i)) nf hr2 hr3 hr4) (zcV 1 hts w_1512 w_1514 wp_46 w_30 w_1515 (by decide +kernel) ⟨Nat.le_of_ble_eq_true rfl, Nat.le_of_ble_eq_true rfl⟩) (zc_preV hbase hK hN hQ hG hS ha rfl) rfl rfl hl.1 rfl (lv_room (Nat.le_of_ble_eq_true rfl)) d_Mo_behind_90 ⟨(by decide), (by decide)⟩) hS (fun r90 G90 H locs hp90 hG hS => ?_)
                    have hG : zP E G H := hp90.2 ▸ hG
                    refine lv_if_eq (tgt := 99) hx hb d_Mo_behind_93 (by decide) (fun c93 => ?_) (fun c93 => ?_)
                    · refine lv_iload hx hb d_Mo_behind_99 (lv_at hl 1 rfl) ?_
                      refine lv_if_eq (tgt := 107) hx hb d_Mo_behind_101 (by decide) (fun c101 => ?_) (fun c101 => ?_)
                      · have b101 : 1 = 0 := (nI_eq (a := 1) (b := 0) (by omega) (by omega)).mp c101
                        exact absurd b101 (by decide)
                      · have b101 : ¬ 1 = 0 := fun q => c101 ((nI_eq (a := 1) (b := 0) (by omega) (by omega)).mpr q)
                        refine lv_aload hx hb d_Mo_behind_104 (lv_at hl 2 rfl) ?_
                        refine lv_astore_n (lv' := [(2, .ref (rN (re rs i))), (7, .int 1), (6, .int 1), (5, .ref (rN (re rs i))), (0, .ref a), (1, .ref b1), (3, .ref (rN (re rs jf))), (4, .int (nI i))]) hx hb d_Mo_behind_106 rfl hl (by decide) rfl (fun ls hl => ?_)
                        refine lv_iload hx hb d_Mo_behind_107 (lv_at hl 1 rfl) ?_
                        refine lv_if_eq (tgt := 115) hx hb d_Mo_behind_109 (by decide) (fun c109 => ?_) (fun c109 => ?_)
                        · have b109 : 1 = 0 := (nI_eq (a := 1) (b := 0) (by omega) (by omega)).mp c109
                          exact absurd b109 (by decide)
                        · have b109 : ¬ 1 = 0 := fun q => c109 ((nI_eq (a := 1) (b := 0) (by omega) (by omega)).mpr q)
                          refine lv_aload hx hb d_Mo_behind_112 (lv_at hl 3 rfl) ?_
                          refine lv_astore_n (lv' := [(3, .ref (rN (re rs i))), (2, .ref (rN (re rs i))), (7, .int 1), (6, .int 1), (5, .ref (rN (re rs i))), (0, .ref a), (1, .ref b1), (4, .int (nI i))]) hx hb d_Mo_behind_114 rfl hl (by decide) rfl (fun ls hl => ?_)
                          refine lv_iinc (v := nI (i + 1)) (lv' := [(4, .int (nI (i + 1))), (3, .ref (rN (re rs i))), (2, .ref (rN (re rs i))), (7, .int 1), (6, .int 1), (5, .ref (rN (re rs i))), (0, .ref a), (1, .ref b1)]) hx hb d_Mo_behind_115 hl (k := 7) rfl (nI_add i 1) (by decide) rfl (fun ls hl => ?_)
                          refine lv_goto (tgt := 7) hx hb d_Mo_behind_118 (by decide) ?_
                          exact ih (i + 1) (some (rN (re rs i))) (some (rN (re rs i))) _ _ (by omega) (by omega) (by first | exact zlst_keep hbb (fun z => absurd (zsg_gt.mpr z.1) (Int32.not_lt.mpr c34)) | exact zlst_ge hjb1 hjb3 hjb4 (fun z => absurd (zsg_lt.mpr z) (Int32.not_lt.mpr c47)) | exact zlst_keep hbb (fun z => z.2 (hp90.1.nz c93)) | exact zlst_new0 hnjb ⟨zsg_gt.mp (Int32.not_le.mp c34), hp90.1.z c93⟩ | exact zlst_new hjb4 (zsg_lt.mp (Int32.not_le.mp c47)) ⟨zsg_gt.mp (Int32.not_le.mp c34), hp90.1.z c93⟩) (by first | exact zlst_ge hjf1 hjf3 hjf4 (fun z => absurd (zsg_lt.mpr z) (Int32.not_lt.mpr c67)) | exact zlst_keep hbf (fun z => z (hp90.1.nz c93)) | exact zlst_new0 hnjf (hp90.1.z c93) | exact zlst_new hjf4 (zsg_lt.mp (Int32.not_le.mp c67)) (hp90.1.z c93)) hG hS ls (lv_sub hl [6, 7, 2, 1, 0] rfl)
                    · refine lv_goto (tgt := 115) hx hb d_Mo_behind_96 (by decide) ?_
                      refine lv_iinc (v := nI (i + 1)) (lv' := [(4, .int (nI (i + 1))), (7, .int 1), (6, .int 1), (5, .ref (rN (re rs i))), (0, .ref a), (1, .ref b1), (2, .ref (rN (re rs jb))), (3, .ref (rN (re rs jf)))]) hx hb d_Mo_behind_115 hl (k := 7) rfl (nI_add i 1) (by decide) rfl (fun ls hl => ?_)
                      refine lv_goto (tgt := 7) hx hb d_Mo_behind_118 (by decide) ?_
                      exact ih (i + 1) (some (rN (re rs jb))) (some (rN (re rs jf))) _ _ (by omega) (by omega) (by first | exact zlst_keep hbb (fun z => absurd (zsg_gt.mpr z.1) (Int32.not_lt.mpr c34)) | exact zlst_ge hjb1 hjb3 hjb4 (fun z => absurd (zsg_lt.mpr z) (Int32.not_lt.mpr c47)) | exact zlst_keep hbb (fun z => z.2 (hp90.1.nz c93)) | exact zlst_new0 hnjb ⟨zsg_gt.mp (Int32.not_le.mp c34), hp90.1.z c93⟩ | exact zlst_new hjb4 (zsg_lt.mp (Int32.not_le.mp c47)) ⟨zsg_gt.mp (Int32.not_le.mp c34), hp90.1.z c93⟩) (by first | exact zlst_ge hjf1 hjf3 hjf4 (fun z => absurd (zsg_lt.mpr z) (Int32.not_lt.mpr c67)) | exact zlst_keep hbf (fun z => z (hp90.1.nz c93)) | exact zlst_new0 hnjf (hp90.1.z c93) | exact zlst_new hjf4 (zsg_lt.mp (Int32.not_le.mp c67)) (hp90.1.z c93)) hG hS ls (lv_sub hl [4, 5, 6, 7, 0] rfl)
                  · have b79 : 1 = 0 := (nI_eq (a := 1) (b := 0) (by omega) (by omega)).mp c79
                    exact absurd b79 (by decide)
  exact loop7 _ 0 none none _ _ (Nat.lt_succ_self _) (Nat.zero_le _) (Or.inl ⟨rfl, fun j h => absurd h (Nat.not_lt_zero j)⟩) (Or.inl ⟨rfl, fun j h => absurd h (Nat.not_lt_zero j)⟩) hG hS ls (lv_sub hl [3, 4, 2, 1, 0] rfl)
