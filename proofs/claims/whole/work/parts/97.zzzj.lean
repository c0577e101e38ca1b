/-! THE REFERENCE'S REST: the next type of a name -/
def rNx (P : Int32 → Prop) (u w : Int32) : Prop := (w = 0 ∧ ∀ t, P t → ¬ u < t) ∨ (0 < w ∧ P w ∧ u < w ∧ ∀ t, P t → u < t → w ≤ t)
def rTy (rs : List zRt) (x : np_N) (gv : Prop) (i : Nat) (t : Int32) : Prop := t = 46 ∨ t = 47 ∨ ∃ j, j < i ∧ rT (re rs j) = t ∧ rM (re rs j) = x ∧ (gv → t = 2 ∨ t = 43)
theorem rNx_un {P : Int32 → Prop} {u w w2 : Int32} (h : rNx P u w) (h2 : rNx P u w2) : w = w2 := by
  rcases h with ⟨a1, a2⟩ | ⟨a1, a2, a3, a4⟩ <;> rcases h2 with ⟨c1, c2⟩ | ⟨c1, c2, c3, c4⟩
  · rw [a1, c1]
  · exact absurd c3 (a2 _ c2)
  · exact absurd a3 (c2 _ a2)
  · exact Int32.le_antisymm (a4 _ c2 c3) (c4 _ a2 a3)
theorem rTy_0 {rs : List zRt} {x : np_N} {gv : Prop} {t : Int32} (h : rTy rs x gv 0 t) : t = 46 ∨ t = 47 := by
  rcases h with h | h | ⟨j, hj, -⟩
  · exact Or.inl h
  · exact Or.inr h
  · exact absurd hj (Nat.not_lt_zero j)
theorem rNx_01 {rs : List zRt} {x : np_N} {gv : Prop} {u : Int32} (h : u < 46) : rNx (rTy rs x gv 0) u 46 := Or.inr ⟨by decide, Or.inl rfl, h, fun t ht _ => by rcases rTy_0 ht with e | e <;> rw [e] <;> decide⟩
theorem rNx_02 {rs : List zRt} {x : np_N} {gv : Prop} {u : Int32} (h : ¬ u < 46) (h2 : u < 47) : rNx (rTy rs x gv 0) u 47 := Or.inr ⟨by decide, Or.inr (Or.inl rfl), h2, fun t ht hu => by
  rcases rTy_0 ht with e | e
  · rw [e] at hu; exact absurd hu h
  · rw [e]; exact Int32.le_refl _⟩
theorem rNx_03 {rs : List zRt} {x : np_N} {gv : Prop} {u : Int32} (h2 : ¬ u < 47) : rNx (rTy rs x gv 0) u 0 := Or.inl ⟨rfl, fun t ht hu => by
  rcases rTy_0 ht with e | e
  · rw [e] at hu; exact h2 (Int32.lt_trans hu (by decide))
  · rw [e] at hu; exact h2 hu⟩
theorem rTy_s {rs : List zRt} {x : np_N} {gv : Prop} {i : Nat} {t : Int32} (h : rTy rs x gv (i + 1) t) : rTy rs x gv i t ∨ (rT (re rs i) = t ∧ rM (re rs i) = x ∧ (gv → t = 2 ∨ t = 43)) := by
  rcases h with h | h | ⟨j, hj, h⟩
  · exact Or.inl (Or.inl h)
  · exact Or.inl (Or.inr (Or.inl h))
  · rcases Nat.lt_or_ge j i with q | q
    · exact Or.inl (Or.inr (Or.inr ⟨j, q, h⟩))
    · rw [show j = i by omega] at h; exact Or.inr h
theorem rTy_m {rs : List zRt} {x : np_N} {gv : Prop} {i : Nat} {t : Int32} (h : rTy rs x gv i t) : rTy rs x gv (i + 1) t := by
  rcases h with h | h | ⟨j, hj, h⟩
  · exact Or.inl h
  · exact Or.inr (Or.inl h)
  · exact Or.inr (Or.inr ⟨j, by omega, h⟩)
/-- the record at i changes nothing -/
theorem rNx_n {rs : List zRt} {x : np_N} {gv : Prop} {i : Nat} {u w : Int32} (h : rNx (rTy rs x gv i) u w) (hn : rM (re rs i) = x → (gv → rT (re rs i) = 2 ∨ rT (re rs i) = 43) → u < rT (re rs i) → 0 < w ∧ w ≤ rT (re rs i)) : rNx (rTy rs x gv (i + 1)) u w := by
  rcases h with ⟨a1, a2⟩ | ⟨a1, a2, a3, a4⟩
  · refine Or.inl ⟨a1, fun t ht hu => ?_⟩
    rcases rTy_s ht with q | ⟨q1, q2, q3⟩
    · exact a2 t q hu
    · rw [← q1] at q3 hu
      have := (hn q2 q3 hu).1
      rw [a1] at this; exact absurd this (by decide)
  · refine Or.inr ⟨a1, rTy_m a2, a3, fun t ht hu => ?_⟩
    rcases rTy_s ht with q | ⟨q1, q2, q3⟩
    · exact a4 t q hu
    · rw [← q1] at q3 hu ⊢
      exact (hn q2 q3 hu).2
theorem rNx_y {rs : List zRt} {x : np_N} {gv : Prop} {i : Nat} {u w : Int32} (h : rNx (rTy rs x gv i) u w) (h0 : 0 < rT (re rs i)) (h1 : ¬ rT (re rs i) ≤ u) (h2 : w ≤ 0 ∨ rT (re rs i) < w) (h3 : gv → rT (re rs i) = 2 ∨ rT (re rs i) = 43) (h4 : rM (re rs i) = x) : rNx (rTy rs x gv (i + 1)) u (rT (re rs i)) := by
  refine Or.inr ⟨h0, Or.inr (Or.inr ⟨i, by omega, rfl, h4, h3⟩), Int32.not_le.mp h1, fun t ht hu => ?_⟩
  rcases rTy_s ht with q | ⟨q1, q2, q3⟩
  · rcases h with ⟨a1, a2⟩ | ⟨a1, a2, a3, a4⟩
    · exact absurd hu (a2 t q)
    · rcases h2 with h2 | h2
      · exact absurd a1 (Int32.not_lt.mpr h2)
      · exact Int32.le_trans (Int32.le_of_lt h2) (a4 t q hu)
  · rw [q1]; exact Int32.le_refl _
abbrev c_Mo_next : ByteArray := prog_12_method_24_code
abbrev y_Mo_next : MethodName := ⟨"ZoneAnswersModel", "next", "([BIZ)I"⟩
theorem d_Mo_next_0 : decode c_Mo_next 0 = .ok (.iload_n 2, 1) := by decide +kernel
theorem d_Mo_next_1 : decode c_Mo_next 1 = .ok (.bipush 46, 2) := by decide +kernel
theorem d_Mo_next_3 : decode c_Mo_next 3 = .ok (.if_icmp .ge 8, 3) := by decide +kernel
theorem d_Mo_next_6 : decode c_Mo_next 6 = .ok (.bipush 46, 2) := by decide +kernel
theorem d_Mo_next_8 : decode c_Mo_next 8 = .ok (.goto 15, 3) := by decide +kernel
theorem d_Mo_next_11 : decode c_Mo_next 11 = .ok (.iload_n 2, 1) := by decide +kernel
theorem d_Mo_next_12 : decode c_Mo_next 12 = .ok (.bipush 47, 2) := by decide +kernel
theorem d_Mo_next_14 : decode c_Mo_next 14 = .ok (.if_icmp .ge 8, 3) := by decide +kernel
theorem d_Mo_next_17 : decode c_Mo_next 17 = .ok (.bipush 47, 2) := by decide +kernel
theorem d_Mo_next_19 : decode c_Mo_next 19 = .ok (.goto 4, 3) := by decide +kernel
theorem d_Mo_next_22 : decode c_Mo_next 22 = .ok (.iconst 0, 1) := by decide +kernel
theorem d_Mo_next_23 : decode c_Mo_next 23 = .ok (.istore 4, 2) := by decide +kernel
theorem d_Mo_next_25 : decode c_Mo_next 25 = .ok (.iconst 0, 1) := by decide +kernel
theorem d_Mo_next_26 : decode c_Mo_next 26 = .ok (.istore 5, 2) := by decide +kernel
theorem d_Mo_next_28 : decode c_Mo_next 28 = .ok (.iload 5, 2) := by decide +kernel
theorem d_Mo_next_30 : decode c_Mo_next 30 = .ok (.aload_n 0, 1) := by decide +kernel
theorem d_Mo_next_31 : decode c_Mo_next 31 = .ok (.getfield 61, 3) := by decide +kernel
theorem d_Mo_next_34 : decode c_Mo_next 34 = .ok (.if_icmp .ge 80, 3) := by decide +kernel
theorem d_Mo_next_37 : decode c_Mo_next 37 = .ok (.aload_n 0, 1) := by decide +kernel
theorem d_Mo_next_38 : decode c_Mo_next 38 = .ok (.getfield 19, 3) := by decide +kernel
theorem d_Mo_next_41 : decode c_Mo_next 41 = .ok (.iload 5, 2) := by decide +kernel
theorem d_Mo_next_43 : decode c_Mo_next 43 = .ok (.aaload, 1) := by decide +kernel
theorem d_Mo_next_44 : decode c_Mo_next 44 = .ok (.getfield 67, 3) := by decide +kernel
theorem d_Mo_next_47 : decode c_Mo_next 47 = .ok (.istore 6, 2) := by decide +kernel
theorem d_Mo_next_49 : decode c_Mo_next 49 = .ok (.iload 6, 2) := by decide +kernel
theorem d_Mo_next_51 : decode c_Mo_next 51 = .ok (.iload_n 2, 1) := by decide +kernel
theorem d_Mo_next_52 : decode c_Mo_next 52 = .ok (.if_icmp .le 56, 3) := by decide +kernel
theorem d_Mo_next_55 : decode c_Mo_next 55 = .ok (.iload 4, 2) := by decide +kernel
theorem d_Mo_next_57 : decode c_Mo_next 57 = .ok (.ifCond .le 10, 3) := by decide +kernel
theorem d_Mo_next_60 : decode c_Mo_next 60 = .ok (.iload 6, 2) := by decide +kernel
theorem d_Mo_next_62 : decode c_Mo_next 62 = .ok (.iload 4, 2) := by decide +kernel
theorem d_Mo_next_64 : decode c_Mo_next 64 = .ok (.if_icmp .ge 44, 3) := by decide +kernel
theorem d_Mo_next_67 : decode c_Mo_next 67 = .ok (.iload_n 3, 1) := by decide +kernel
theorem d_Mo_next_68 : decode c_Mo_next 68 = .ok (.ifCond .eq 19, 3) := by decide +kernel
theorem d_Mo_next_71 : decode c_Mo_next 71 = .ok (.iload 6, 2) := by decide +kernel
theorem d_Mo_next_73 : decode c_Mo_next 73 = .ok (.iconst 2, 1) := by decide +kernel
theorem d_Mo_next_74 : decode c_Mo_next 74 = .ok (.if_icmp .eq 13, 3) := by decide +kernel
theorem d_Mo_next_77 : decode c_Mo_next 77 = .ok (.iload 6, 2) := by decide +kernel
theorem d_Mo_next_79 : decode c_Mo_next 79 = .ok (.bipush 43, 2) := by decide +kernel
theorem d_Mo_next_81 : decode c_Mo_next 81 = .ok (.if_icmp .eq 6, 3) := by decide +kernel
theorem d_Mo_next_84 : decode c_Mo_next 84 = .ok (.goto 24, 3) := by decide +kernel
theorem d_Mo_next_87 : decode c_Mo_next 87 = .ok (.aload_n 0, 1) := by decide +kernel
theorem d_Mo_next_88 : decode c_Mo_next 88 = .ok (.getfield 19, 3) := by decide +kernel
theorem d_Mo_next_91 : decode c_Mo_next 91 = .ok (.iload 5, 2) := by decide +kernel
theorem d_Mo_next_93 : decode c_Mo_next 93 = .ok (.aaload, 1) := by decide +kernel
theorem d_Mo_next_94 : decode c_Mo_next 94 = .ok (.getfield 65, 3) := by decide +kernel
theorem d_Mo_next_97 : decode c_Mo_next 97 = .ok (.aload_n 1, 1) := by decide +kernel
theorem d_Mo_next_98 : decode c_Mo_next 98 = .ok (.invokestatic 80, 3) := by decide +kernel
theorem d_Mo_next_101 : decode c_Mo_next 101 = .ok (.ifCond .eq 7, 3) := by decide +kernel
theorem d_Mo_next_104 : decode c_Mo_next 104 = .ok (.iload 6, 2) := by decide +kernel
theorem d_Mo_next_106 : decode c_Mo_next 106 = .ok (.istore 4, 2) := by decide +kernel
theorem d_Mo_next_108 : decode c_Mo_next 108 = .ok (.iinc 5 1, 3) := by decide +kernel
theorem d_Mo_next_111 : decode c_Mo_next 111 = .ok (.goto (-83), 3) := by decide +kernel
theorem d_Mo_next_114 : decode c_Mo_next 114 = .ok (.iload 4, 2) := by decide +kernel
theorem d_Mo_next_116 : decode c_Mo_next 116 = .ok (.ireturn, 1) := by decide +kernel
abbrev rm_Mo_next : Room := { frames := 2, cells := 0, slots := 0, locals := 40 }
set_option maxHeartbeats 4000000 in
set_option maxRecDepth 100000 in
/-- next(x, u, given), of the reference -/
theorem t_Mo_next (l : Launch) (E : zc_E) (G : zg_G) (rs : List zRt) (a m1 m3 m4 m6 m7 m8 m9 m10 m11 m12 m15 m18 : Nat) (th tn m13 m14 m16 m17 : Int32) (m19 m20 : Value) (ha : G a = some (.inr (11, [.int th, .ref m1, .int tn, .ref m3, .ref m4, .int (nI rs.length), .ref m6, .ref m7, .ref m8, .ref m9, .ref m10, .ref m11, .ref m12, .int m13, .int m14, .ref m15, .int m16, .int m17, .ref m18, m19, m20]))) (hRS : zRS E G m4 rs) (hty : ∀ e ∈ rs, 0 < rT e) (b1 : Nat) (ls1 : np_N) (f1 : Nat → Int32) (hb1 : G b1 = some (.inl (E.2.1 0, np_len ls1, .inl f1))) (hf1 : np_f ls1 f1) (hg1 : np_g ls1) (u z : Int32) (gv : Prop) (hz : zb z gv) : zMi l E y_Mo_next c_Mo_next 7 (some .int) rm_Mo_next [.ref a, .ref b1, .int u, .int z] G (fun (r : Int32) (G2 : zg_G) => rNx (rTy rs ls1 gv rs.length) u r ∧ G2 = G) := by
  refine zMi.of (by decide) (Nat.le_of_ble_eq_true rfl) ?_
  intro p e s m args below meth c Q hZ hG hret ls hl
  obtain ⟨hx, hb, hr, hts, hown, hlocks, hml, hnm, hbase, hK, hN, hQ⟩ := hZ
  have hl : lv_has ls 7 [(0, .ref a), (1, .ref b1), (2, .int u), (3, .int z)] := hl
  have hS : zg_S (zc_b E) s.heap s.heap [] := va_S.rf
  obtain ⟨⟨fr, hm4, hfr⟩, hn2, hRs⟩ := id hRS
  have sm1 := hg1.2
  refine lv_iload_n hx hb d_Mo_next_0 rfl (lv_at hl 2 rfl) ?_
  refine lv_bipush (v := 46) hx hb d_Mo_next_1 (by decide) ?_
  refine lv_icmp_ge (tgt := 11) hx hb d_Mo_next_3 (by decide) (fun c3 => ?_) (fun c3 => ?_)
  · refine lv_iload_n hx hb d_Mo_next_11 rfl (lv_at hl 2 rfl) ?_
    refine lv_bipush (v := 47) hx hb d_Mo_next_12 (by decide) ?_
    refine lv_icmp_ge (tgt := 22) hx hb d_Mo_next_14 (by decide) (fun c14 => ?_) (fun c14 => ?_)
    · refine lv_iconst (v := 0) hx hb d_Mo_next_22 (by decide) ?_
      refine lv_istore (lv' := [(4, .int 0), (0, .ref a), (1, .ref b1), (2, .int u), (3, .int z)]) hx hb d_Mo_next_23 hl (by decide) rfl (fun ls hl => ?_)
      refine lv_iconst (v := 0) hx hb d_Mo_next_25 (by decide) ?_
      refine zi_as (y := nI 0) (nI_0.symm) ?_
      refine lv_istore (lv' := [(5, .int (nI 0)), (4, .int 0), (0, .ref a), (1, .ref b1), (2, .int u), (3, .int z)]) hx hb d_Mo_next_26 hl (by decide) rfl (fun ls hl => ?_)
      have loop28 : ∀ (N : Nat) (i : Nat) (w : Int32) (H : Heap) (locs : List Loc), (rs.length - i) < N → (i ≤ rs.length) → (rNx (rTy rs ls1 gv i) u w) → zP E G H → zg_S (zc_b E) s.heap H locs → ∀ (ls : Array Slot), lv_has ls 7 [(0, .ref a), (1, .ref b1), (2, .int u), (3, .int z), (4, .int w), (5, .int (nI i))] → W p l e rm_Mo_next s m args below meth c H locs 0 0 Q (F0 m 28 ls []) := by
        intro N
        induction N with
        | zero =>
          intro i w H locs hlt
          exact absurd hlt (Nat.not_lt_zero _)
        | succ N ih =>
          intro i w H locs hlt hi hnx hG hS ls hl
          refine lv_iload hx hb d_Mo_next_28 (lv_at hl 5 rfl) ?_
          refine lv_aload_n hx hb d_Mo_next_30 rfl (lv_at hl 0 rfl) ?_
          refine zg_get (ci := 11) (C := "ZoneAnswersModel") (T := T_Mo) (N := 21) hx hb hts zi_Mo hown hK hG ha rfl 5 (by decide) (hts _ w_1286) (fun _ h9 => h9) rfl d_Mo_next_31 ?_
          refine lv_icmp_ge (tgt := 114) hx hb d_Mo_next_34 (by decide) (fun c34 => ?_) (fun c34 => ?_)
          · have b34 : rs.length ≤ i := (nI_leI (a := rs.length) (b := i) (by omega) (by omega)).mp c34
            refine lv_iload hx hb d_Mo_next_114 (lv_at hl 4 rfl) ?_
            exact hret _ _ _ _ _ _ _ _ _ hr (rfl) (⟨by rw [show rs.length = i by omega]; exact hnx, rfl⟩) hG hS (Nat.le_refl _) (Nat.le_refl _) d_Mo_next_116
          · have b34 : ¬ rs.length ≤ i := fun q => c34 ((nI_leI (a := rs.length) (b := i) (by omega) (by omega)).mpr q)
            have hin : i < rs.length := by omega
            obtain ⟨hr1, ⟨nf, hr2, hr3, hr4, hr5⟩, df, hr6, hr7, hr8⟩ := hRs _ (re_mem hin)
            have sm := hr4.2
            refine lv_aload_n hx hb d_Mo_next_37 rfl (lv_at hl 0 rfl) ?_
            refine zg_get (ci := 11) (C := "ZoneAnswersModel") (T := T_Mo) (N := 21) hx hb hts zi_Mo hown hK hG ha rfl 4 (by decide) (hts _ w_1285) (fun _ h9 => h9) rfl d_Mo_next_38 ?_
            refine lv_iload hx hb d_Mo_next_41 (lv_at hl 5 rfl) ?_
            refine zg_aldq hx hb hK hG 4 hm4 rfl (vp_in_nI (by omega) (by omega)) d_Mo_next_43 ?_
            refine zr_as (y := fr i) (by rw [zi_n _ (by omega)]) ?_
            refine zr_some (a := rA (re rs i)) (hfr i hin) ?_
            refine zg_get (ci := 12) (C := "ZoneAnswersModel$Rec") (T := T_Re) (N := 5) hx hb hts zi_Re hown hK hG hr1 rfl 3 (by decide) (hts _ w_1268) (fun _ h9 => h9) rfl d_Mo_next_44 ?_
            refine lv_istore (lv' := [(6, .int (rT (re rs i))), (0, .ref a), (1, .ref b1), (2, .int u), (3, .int z), (4, .int w), (5, .int (nI i))]) hx hb d_Mo_next_47 hl (by decide) rfl (fun ls hl => ?_)
            refine lv_iload hx hb d_Mo_next_49 (lv_at hl 0 rfl) ?_
            refine lv_iload_n hx hb d_Mo_next_51 rfl (lv_at hl 3 rfl) ?_
            refine lv_icmp_le (tgt := 108) hx hb d_Mo_next_52 (by decide) (fun c52 => ?_) (fun c52 => ?_)
            · refine lv_iinc (v := nI (i + 1)) (lv' := [(5, .int (nI (i + 1))), (6, .int (rT (re rs i))), (0, .ref a), (1, .ref b1), (2, .int u), (3, .int z), (4, .int w)]) hx hb d_Mo_next_108 hl (k := 6) rfl (nI_add i 1) (by decide) rfl (fun ls hl => ?_)
              refine lv_goto (tgt := 28) hx hb d_Mo_next_111 (by decide) ?_
              exact ih (i + 1) w _ _ (by omega) (by omega) (by first | exact rNx_n hnx (fun _ _ q => absurd q (Int32.not_lt.mpr c52)) | exact rNx_n hnx (fun _ _ _ => ⟨Int32.not_le.mp c57, c64⟩) | exact rNx_n hnx (fun _ q _ => absurd (q (hz.nz c68)) (fun z => z.elim c74 c81)) | exact rNx_n hnx (fun q _ _ => absurd ((zsm_n hr3 hf1 hr4 hg1).mpr q) (hp98.1.z c101)) | exact rNx_y hnx (hty _ (re_mem hin)) c52 (by first | exact Or.inl c57 | exact Or.inr (Int32.not_le.mp c64)) (by first | exact fun g => absurd g (hz.z c68) | exact fun _ => Or.inl c74 | exact fun _ => Or.inr c81) ((zsm_n hr3 hf1 hr4 hg1).mp (hp98.1.nz c101))) hG hS ls (lv_sub hl [2, 3, 4, 5, 6, 0] rfl)
            · refine lv_iload hx hb d_Mo_next_55 (lv_at hl 5 rfl) ?_
              refine lv_if_le (tgt := 67) hx hb d_Mo_next_57 (by decide) (fun c57 => ?_) (fun c57 => ?_)
              · refine lv_iload_n hx hb d_Mo_next_67 rfl (lv_at hl 4 rfl) ?_
                refine lv_if_eq (tgt := 87) hx hb d_Mo_next_68 (by decide) (fun c68 => ?_) (fun c68 => ?_)
                · refine lv_aload_n hx hb d_Mo_next_87 rfl (lv_at hl 1 rfl) ?_
                  refine zg_get (ci := 11) (C := "ZoneAnswersModel") (T := T_Mo) (N := 21) hx hb hts zi_Mo hown hK hG ha rfl 4 (by decide) (hts _ w_1285) (fun _ h9 => h9) rfl d_Mo_next_88 ?_
                  refine lv_iload hx hb d_Mo_next_91 (lv_at hl 6 rfl) ?_
                  refine zg_aldq hx hb hK hG 4 hm4 rfl (vp_in_nI (by omega) (by omega)) d_Mo_next_93 ?_
                  refine zr_as (y := fr i) (by rw [zi_n _ (by omega)]) ?_
                  refine zr_some (a := rA (re rs i)) (hfr i hin) ?_
                  refine zg_get (ci := 12) (C := "ZoneAnswersModel$Rec") (T := T_Re) (N := 5) hx hb hts zi_Re hown hK hG hr1 rfl 0 (by decide) (hts _ w_1265) (fun _ h9 => h9) rfl d_Mo_next_94 ?_
                  refine lv_aload_n hx hb d_Mo_next_97 rfl (lv_at hl 2 rfl) ?_
                  refine zk_i (va_runS (As := [.ref (rN (re rs i)), .ref b1]) (rest := []) ⟨hx, hb, hml, hown, hts⟩ (t_Ns_same l E G (rN (re rs i)) (np_len (rM (re rs i))) nf hr2 b1 (np_len ls1) f1 hb1 (by omega) (by omega)) (zcS 2 hts w_1405 w_1406 w_33 w_1407 (by decide +kernel) ⟨Nat.le_of_ble_eq_true rfl, Nat.le_of_ble_eq_true rfl⟩) (zc_pre hbase hK hN hQ hG hS) rfl rfl hl.1 rfl (lv_room (Nat.le_of_ble_eq_true rfl)) d_Mo_next_98 ⟨(by decide), (by decide)⟩) hS (fun r98 G98 H locs hp98 hG hS => ?_)
                  have hG : zP E G H := hp98.2 ▸ hG
                  refine lv_if_eq (tgt := 108) hx hb d_Mo_next_101 (by decide) (fun c101 => ?_) (fun c101 => ?_)
                  · refine lv_iinc (v := nI (i + 1)) (lv' := [(5, .int (nI (i + 1))), (6, .int (rT (re rs i))), (0, .ref a), (1, .ref b1), (2, .int u), (3, .int z), (4, .int w)]) hx hb d_Mo_next_108 hl (k := 6) rfl (nI_add i 1) (by decide) rfl (fun ls hl => ?_)
                    refine lv_goto (tgt := 28) hx hb d_Mo_next_111 (by decide) ?_
                    exact ih (i + 1) w _ _ (by omega) (by omega) (by first | exact rNx_n hnx (fun _ _ q => absurd q (Int32.not_lt.mpr c52)) | exact rNx_n hnx (fun _ _ _ => ⟨Int32.not_le.mp c57, c64⟩) | exact rNx_n hnx (fun _ q _ => absurd (q (hz.nz c68)) (fun z => z.elim c74 c81)) | exact rNx_n hnx (fun q _ _ => absurd ((zsm_n hr3 hf1 hr4 hg1).mpr q) (hp98.1.z c101)) | exact rNx_y hnx (hty _ (re_mem hin)) c52 (by first | exact Or.inl c57 | exact Or.inr (Int32.not_le.mp c64)) (by first | exact fun g => absurd g (hz.z c68) | exact fun _ => Or.inl c74 | exact fun _ => Or.inr c81) ((zsm_n hr3 hf1 hr4 hg1).mp (hp98.1.nz c101))) hG hS ls (lv_sub hl [2, 3, 4, 5, 6, 0] rfl)
                  · refine lv_iload hx hb d_Mo_next_104 (lv_at hl 0 rfl) ?_
                    refine lv_istore (lv' := [(4, .int (rT (re rs i))), (6, .int (rT (re rs i))), (0, .ref a), (1, .ref b1), (2, .int u), (3, .int z), (5, .int (nI i))]) hx hb d_Mo_next_106 hl (by decide) rfl (fun ls hl => ?_)
                    refine lv_iinc (v := nI (i + 1)) (lv' := [(5, .int (nI (i + 1))), (4, .int (rT (re rs i))), (6, .int (rT (re rs i))), (0, .ref a), (1, .ref b1), (2, .int u), (3, .int z)]) hx hb d_Mo_next_108 hl (k := 6) rfl (nI_add i 1) (by decide) rfl (fun ls hl => ?_)
                    refine lv_goto (tgt := 28) hx hb d_Mo_next_111 (by decide) ?_
                    exact ih (i + 1) (rT (re rs i)) _ _ (by omega) (by omega) (by first | exact rNx_n hnx (fun _ _ q => absurd q (Int32.not_lt.mpr c52)) | exact rNx_n hnx (fun _ _ _ => ⟨Int32.not_le.mp c57, c64⟩) | exact rNx_n hnx (fun _ q _ => absurd (q (hz.nz c68)) (fun z => z.elim c74 c81)) | exact rNx_n hnx (fun q _ _ => absurd ((zsm_n hr3 hf1 hr4 hg1).mpr q) (hp98.1.z c101)) | exact rNx_y hnx (hty _ (re_mem hin)) c52 (by first | exact Or.inl c57 | exact Or.inr (Int32.not_le.mp c64)) (by first | exact fun g => absurd g (hz.z c68) | exact fun _ => Or.inl c74 | exact fun _ => Or.inr c81) ((zsm_n hr3 hf1 hr4 hg1).mp (hp98.1.nz c101))) hG hS ls (lv_sub hl [3, 4, 5, 6, 1, 0] rfl)
                · refine lv_iload hx hb d_Mo_next_71 (lv_at hl 0 rfl) ?_
                  refine lv_iconst (v := 2) hx hb d_Mo_next_73 (by decide) ?_
                  refine lv_icmp_eq (tgt := 87) hx hb d_Mo_next_74 (by decide) (fun c74 => ?_) (fun c74 => ?_)
                  · refine lv_aload_n hx hb d_Mo_next_87 rfl (lv_at hl 1 rfl) ?_
                    refine zg_get (ci := 11) (C := "ZoneAnswersModel") (T := T_Mo) (N := 21) hx hb hts zi_Mo hown hK hG ha rfl 4 (by decide) (hts _ w_1285) (fun _ h9 => h9) rfl d_Mo_next_88 ?_
                    refine lv_iload hx hb d_Mo_next_91 (lv_at hl 6 rfl) ?_
                    refine zg_aldq hx hb hK hG 4 hm4 rfl (vp_in_nI (by omega) (by omega)) d_Mo_next_93 ?_
                    refine zr_as (y := fr i) (by rw [zi_n _ (by omega)]) ?_
                    refine zr_some (a := rA (re rs i)) (hfr i hin) ?_
                    refine zg_get (ci := 12) (C := "ZoneAnswersModel$Rec") (T := T_Re) (N := 5) hx hb hts zi_Re hown hK hG hr1 rfl 0 (by decide) (hts _ w_1265) (fun _ h9 => h9) rfl d_Mo_next_94 ?_
                    refine lv_aload_n hx hb d_Mo_next_97 rfl (lv_at hl 2 rfl) ?_
                    refine zk_i (va_runS (As := [.ref (rN (re rs i)), .ref b1]) (rest := []) ⟨hx, hb, hml, hown, hts⟩ (t_Ns_same l E G (rN (re rs i)) (np_len (rM (re rs i))) nf hr2 b1 (np_len ls1) f1 hb1 (by omega) (by omega)) (zcS 2 hts w_1405 w_1406 w_33 w_1407 (by decide +kernel) ⟨Nat.le_of_ble_eq_true rfl, Nat.le_of_ble_eq_true rfl⟩) (zc_pre hbase hK hN hQ hG hS) rfl rfl hl.1 rfl (lv_room (Nat.le_of_ble_eq_true rfl)) d_Mo_next_98 ⟨(by decide), (by decide)⟩) hS (fun r98 G98 H locs hp98 hG hS => ?_)
                    have hG : zP E G H := hp98.2 ▸ hG
                    refine lv_if_eq (tgt := 108) hx hb d_Mo_next_101 (by decide) (fun c101 => ?_) (fun c101 => ?_)
                    · refine lv_iinc (v := nI (i + 1)) (lv' := [(5, .int (nI (i + 1))), (6, .int (rT (re rs i))), (0, .ref a), (1, .ref b1), (2, .int u), (3, .int z), (4, .int w)]) hx hb d_Mo_next_108 hl (k := 6) rfl (nI_add i 1) (by decide) rfl (fun ls hl => ?_)
                      refine lv_goto (tgt := 28) hx hb d_Mo_next_111 (by decide) ?_
                      exact ih (i + 1) w _ _ (by omega) (by omega) (by first | exact rNx_n hnx (fun _ _ q => absurd q (Int32.not_lt.mpr c52)) | exact rNx_n hnx (fun _ _ _ => ⟨Int32.not_le.mp c57, c64⟩) | exact rNx_n hnx (fun _ q _ => absurd (q (hz.nz c68)) (fun z => z.elim c74 c81)) | exact rNx_n hnx (fun q _ _ => absurd ((zsm_n hr3 hf1 hr4 hg1).mpr q) (hp98.1.z c101)) | exact rNx_y hnx (hty _ (re_mem hin)) c52 (by first | exact Or.inl c57 | exact Or.inr (Int32.not_le.mp c64)) (by first | exact fun g => absurd g (hz.z c68) | exact fun _ => Or.inl c74 | exact fun _ => Or.inr c81) ((zsm_n hr3 hf1 hr4 hg1).mp (hp98.1.nz c101))) hG hS ls (lv_sub hl [2, 3, 4, 5, 6, 0] rfl)
                    · refine lv_iload hx hb d_Mo_next_104 (lv_at hl 0 rfl) ?_
                      refine lv_istore (lv' := [(4, .int (rT (re rs i))), (6, .int (rT (re rs i))), (0, .ref a), (1, .ref b1), (2, .int u), (3, .int z), (5, .int (nI i))]) hx hb d_Mo_next_106 hl (by decide) rfl (fun ls hl => ?_)
                      refine lv_iinc (v := nI (i + 1)) (lv' := [(5, .int (nI (i + 1))), (4, .int (rT (re rs i))), (6, .int (rT (re rs i))), (0, .ref a), (1, .ref b1), (2, .int u), (3, .int z)]) hx hb d_Mo_next_108 hl (k := 6) rfl (nI_add i 1) (by decide) rfl (fun ls hl => ?_)
                      refine lv_goto (tgt := 28) hx hb d_Mo_next_111 (by decide) ?_
                      exact ih (i + 1) (rT (re rs i)) _ _ (by omega) (by omega) (by first | exact rNx_n hnx (fun _ _ q => absurd q (Int32.not_lt.mpr c52)) | exact rNx_n hnx (fun _ _ _ => ⟨Int32.not_le.mp c57, c64⟩) | exact rNx_n hnx (fun _ q _ => absurd (q (hz.nz c68)) (fun z => z.elim c74 c81)) | exact rNx_n hnx (fun q _ _ => absurd ((zsm_n hr3 hf1 hr4 hg1).mpr q) (hp98.1.z c101)) | exact rNx_y hnx (hty _ (re_mem hin)) c52 (by first | exact Or.inl c57 | exact Or.inr (Int32.not_le.mp c64)) (by first | exact fun g => absurd g (hz.z c68) | exact fun _ => Or.inl c74 | exact fun _ => Or.inr c81) ((zsm_n hr3 hf1 hr4 hg1).mp (hp98.1.nz c101))) hG hS ls (lv_sub hl [3, 4, 5, 6, 1, 0] rfl)
                  · refine lv_iload hx hb d_Mo_next_77 (lv_at hl 0 rfl) ?_
                    refine lv_bipush (v := 43) hx hb d_Mo_next_79 (by decide) ?_
                    refine lv_icmp_eq (tgt := 87) hx hb d_Mo_next_81 (by decide) (fun c81 => ?_) (fun c81 => ?_)
                    · refine lv_aload_n hx hb d_Mo_next_87 rfl (lv_at hl 1 rfl) ?_
                      refine zg_get (ci := 11) (C := "ZoneAnswersModel") (T := T_Mo) (N := 21) hx hb hts zi_Mo hown hK hG ha rfl 4 (by decide) (hts _ w_1285) (fun _ h9 => h9) rfl d_Mo_next_88 ?_
                      refine lv_iload hx hb d_Mo_next_91 (lv_at hl 6 rfl) ?_
                      refine zg_aldq hx hb hK hG 4 hm4 rfl (vp_in_nI (by omega) (by omega)) d_Mo_next_93 ?_
                      refine zr_as (y := fr i) (by rw [zi_n _ (by omega)]) ?_
                      refine zr_some (a := rA (re rs i)) (hfr i hin) ?_
                      refine zg_get (ci := 12) (C := "ZoneAnswersModel$Rec") (T := T_Re) (N := 5) hx hb hts zi_Re hown hK hG hr1 rfl 0 (by decide) (hts _ w_1265) (fun _ h9 => h9) rfl d_Mo_next_94 ?_
                      refine lv_aload_n hx hb d_Mo_next_97 rfl (lv_at hl 2 rfl) ?_
                      refine zk_i (va_runS (As := [.ref (rN (re rs i)), .ref b1]) (rest := []) ⟨hx, hb, hml, hown, hts⟩ (t_Ns_same l E G (rN (re rs i)) (np_len (rM (re rs i))) nf hr2 b1 (np_len ls1) f1 hb1 (by omega) (by omega)) (zcS 2 hts w_1405 w_1406 w_33 w_1407 (by decide +kernel) ⟨Nat.le_of_ble_eq_true rfl, Nat.le_of_ble_eq_true rfl⟩) (zc_pre hbase hK hN hQ hG hS) rfl rfl hl.1 rfl (lv_room (Nat.le_of_ble_eq_true rfl)) d_Mo_next_98 ⟨(by decide), (by decide)⟩) hS (fun r98 G98 H locs hp98 hG hS => ?_)
                      have hG : zP E G H := hp98.2 ▸ hG
                      refine lv_if_eq (tgt := 108) hx hb d_Mo_next_101 (by decide) (fun c101 => ?_) (fun c101 => ?_)
                      · refine lv_iinc (v := nI (i + 1)) (lv' := [(5, .int (nI (i + 1))), (6, .int (rT (re rs i))), (0, .ref a), (1, .ref b1), (2, .int u), (3, .int z), (4, .int w)]) hx hb d_Mo_next_108 hl (k := 6) rfl (nI_add i 1) (by decide) rfl (fun ls hl => ?_)
                        refine lv_goto (tgt := 28) hx hb d_Mo_next_111 (by decide) ?_
                        exact ih (i + 1) w _ _ (by omega) (by omega) (by first | exact rNx_n hnx (fun _ _ q => absurd q (Int32.not_lt.mpr c52)) | exact rNx_n hnx (fun _ _ _ => ⟨Int32.not_le.mp c57, c64⟩) | exact rNx_n hnx (fun _ q _ => absurd (q (hz.nz c68)) (fun z => z.elim c74 c81)) | exact rNx_n hnx (fun q _ _ => absurd ((zsm_n hr3 hf1 hr4 hg1).mpr q) (hp98.1.z c101)) | exact rNx_y hnx (hty _ (re_mem hin)) c52 (by first | exact Or.inl c57 | exact Or.inr (Int32.not_le.mp c64)) (by first | exact fun g => absurd g (hz.z c68) | exact fun _ => Or.inl c74 | exact fun _ => Or.inr c81) ((zsm_n hr3 hf1 hr4 hg1).mp (hp98.1.nz c101))) hG hS ls (lv_sub hl [2, 3, 4, 5, 6, 0] rfl)
                      · refine lv_iload hx hb d_Mo_next_104 (lv_at hl 0 rfl) ?_
                        refine lv_istore (lv' := [(4, .int (rT (re rs i))), (6, .int (rT (re rs i))), (0, .ref a), (1, .ref b1), (2, .int u), (3, .int z), (5, .int (nI i))]) hx hb d_Mo_next_106 hl (by decide) rfl (fun ls hl => ?_)
                        refine lv_iinc (v := nI (i + 1)) (lv' := [(5, .int (nI (i + 1))), (4, .int (rT (re rs i))), (6, .int (rT (re rs i))), (0, .ref a), (1, .ref b1), (2, .int u), (3, .int z)]) hx hb d_Mo_next_108 hl (k := 6) rfl (nI_add i 1) (by decide) rfl (fun ls hl => ?_)
                        refine lv_goto (tgt := 28) hx hb d_Mo_next_111 (by decide) ?_
                        exact ih (i + 1) (rT (re rs i)) _ _ (by omega) (by omega) (by first | exact rNx_n hnx (fun _ _ q => absurd q (Int32.not_lt.mpr c52)) | exact rNx_n hnx (fun _ _ _ => ⟨Int32.not_le.mp c57, c64⟩) | exact rNx_n hnx (fun _ q _ => absurd (q (hz.nz c68)) (fun z => z.elim c74 c81)) | exact rNx_n hnx (fun q _ _ => absurd ((zsm_n hr3 hf1 hr4 hg1).mpr q) (hp98.1.z c101)) | exact rNx_y hnx (hty _ (re_mem hin)) c52 (by first | exact Or.inl c57 | exact Or.inr (Int32.not_le.mp c64)) (by first | exact fun g => absurd g (hz.z c68) | exact fun _ => Or.inl c74 | exact fun _ => Or.inr c81) ((zsm_n hr3 hf1 hr4 hg1).mp (hp98.1.nz c101))) hG hS ls (lv_sub hl [3, 4, 5, 6, 1, 0] rfl)
                    · refine lv_goto (tgt := 108) hx hb d_Mo_next_84 (by decide) ?_
                      refine lv_iinc (v := nI (i + 1)) (lv' := [(5, .int (nI (i + 1))), (6, .int (rT (re rs i))), (0, .ref a), (1, .ref b1), (2, .int u), (3, .int z), (4, .int w)]) hx hb d_Mo_next_108 hl (k := 6) rfl (nI_add i 1) (by decide) rfl (fun ls hl => ?_)
                      refine lv_goto (tgt := 28) hx hb d_Mo_next_111 (by decide) ?_
                      exact ih (i + 1) w _ _ (by omega) (by omega) (by first | exact rNx_n hnx (fun _ _ q => absurd q (Int32.not_lt.mpr c52)) | exact rNx_n hnx (fun _ _ _ => ⟨Int32.not_le.mp c57, c64⟩) | exact rNx_n hnx (fun _ q _ => absurd (q (hz.nz c68)) (fun z => z.elim c74 c81)) | exact rNx_n hnx (fun q _ _ => absurd ((zsm_n hr3 hf1 hr4 hg1).mpr q) (hp98.1.z c101)) | exact rNx_y hnx (hty _ (re_mem hin)) c52 (by first | exact Or.inl c57 | exact Or.inr (Int32.not_le.mp c64)) (by first | exact fun g => absurd g (hz.z c68) | exact fun _ => Or.inl c74 | exact fun _ => Or.inr c81) ((zsm_n hr3 hf1 hr4 hg1).mp (hp98.1.nz c101))) hG hS ls (lv_sub hl [2, 3, 4, 5, 6, 0] rfl)
              · refine lv_iload hx hb d_Mo_next_60 (lv_at hl 0 rfl) ?_
                refine lv_iload hx hb d_Mo_next_62 (lv_at hl 5 rfl) ?_
                refine lv_icmp_ge (tgt := 108) hx hb d_Mo_next_64 (by decide) (fun c64 => ?_) (fun c64 => ?_)
                · refine lv_iinc (v := nI (i + 1)) (lv' := [(5, .int (nI (i + 1))), (6, .int (rT (re rs i))), (0, .ref a), (1, .ref b1), (2, .int u), (3, .int z), (4, .int w)]) hx hb d_Mo_next_108 hl (k := 6) rfl (nI_add i 1) (by decide) rfl (fun ls hl => ?_)
                  refine lv_goto (tgt := 28) hx hb d_Mo_next_111 (by decide) ?_
                  exact ih (i + 1) w _ _ (by omega) (by omega) (by first | exact rNx_n hnx (fun _ _ q => absurd q (Int32.not_lt.mpr c52)) | exact rNx_n hnx (fun _ _ _ => ⟨Int32.not_le.mp c57, c64⟩) | exact rNx_n hnx (fun _ q _ => absurd (q (hz.nz c68)) (fun z => z.elim c74 c81)) | exact rNx_n hnx (fun q _ _ => absurd ((zsm_n hr3 hf1 hr4 hg1).mpr q) (hp98.1.z c101)) | exact rNx_y hnx (hty _ (re_mem hin)) c52 (by first | exact Or.inl c57 | exact Or.inr (Int32.not_le.mp c64)) (by first | exact fun g => absurd g (hz.z c68) | exact fun _ => Or.inl c74 | exact fun _ => Or.inr c81) ((zsm_n hr3 hf1 hr4 hg1).mp (hp98.1.nz c101))) hG hS ls (lv_sub hl [2, 3, 4, 5, 6, 0] rfl)
                · refine lv_iload_n hx hb d_Mo_next_67 rfl (lv_at hl 4 rfl) ?_
                  refine lv_if_eq (tgt := 87) hx hb d_Mo_next_68 (by decide) (fun c68 => ?_) (fun c68 => ?_)
                  · refine lv_aload_n hx hb d_Mo_next_87 rfl (lv_at hl 1 rfl) ?_
                    refine zg_get (ci := 11) (C := "ZoneAnswersModel") (T := T_Mo) (N := 21) hx hb hts zi_Mo hown hK hG ha rfl 4 (by decide) (hts _ w_1285) (fun _ h9 => h9) rfl d_Mo_next_88 ?_
                    refine lv_iload hx hb d_Mo_next_91 (lv_at hl 6 rfl) ?_
                    refine zg_aldq hx hb hK hG 4 hm4 rfl (vp_in_nI (by omega) (by omega)) d_Mo_next_93 ?_
                    refine zr_as (y := fr i) (by rw [zi_n _ (by omega)]) ?_
                    refine zr_some (a := rA (re rs i)) (hfr i hin) ?_
                    refine zg_get (ci := 12) (C := "ZoneAnswersModel$Rec") (T := T_Re) (N := 5) hx hb hts zi_Re hown hK hG hr1 rfl 0 (by decide) (hts _ w_1265) (fun _ h9 => h9) rfl d_Mo_next_94 ?_
                    refine lv_aload_n hx hb d_Mo_next_97 rfl (lv_at hl 2 rfl) ?_
                    refine zk_i (va_runS (As := [.ref (rN (re rs i)), .ref b1]) (rest := []) ⟨hx, hb, hml, hown, hts⟩ (t_Ns_same l E G (rN (re rs i)) (np_len (rM (re rs i))) nf hr2 b1 (np_len ls1) f1 hb1 (by omega) (by omega)) (zcS 2 hts w_1405 w_1406 w_33 w_1407 (by decide +kernel) ⟨Nat.le_of_ble_eq_true rfl, Nat.le_of_ble_eq_true rfl⟩) (zc_pre hbase hK hN hQ hG hS) rfl rfl hl.1 rfl (lv_room (Nat.le_of_ble_eq_true rfl)) d_Mo_next_98 ⟨(by decide), (by decide)⟩) hS (fun r98 G98 H locs hp98 hG hS => ?_)
                    have hG : zP E G H := hp98.2 ▸ hG
                    refine lv_if_eq (tgt := 108) hx hb d_Mo_next_101 (by decide) (fun c101 => ?_) (fun c101 => ?_)
                    · refine lv_iinc (v := nI (i + 1)) (lv' := [(5, .int (nI (i + 1))), (6, .int (rT (re rs i))), (0, .ref a), (1, .ref b1), (2, .int u), (3, .int z), (4, .int w)]) hx hb d_Mo_next_108 hl (k := 6) rfl (nI_add i 1) (by decide) rfl (fun ls hl => ?_)
                      refine lv_goto (tgt := 28) hx hb d_Mo_next_111 (by decide) ?_
                      exact ih (i + 1) w _ _ (by omega) (by omega) (by first | exact rNx_n hnx (fun _ _ q => absurd q (Int32.not_lt.mpr c52)) | exact rNx_n hnx (fun _ _ _ => ⟨Int32.not_le.mp c57, c64⟩) | exact rNx_n hnx (fun _ q _ => absurd (q (hz.nz c68)) (fun z => z.elim c74 c81)) | exact rNx_n hnx (fun q _ _ => absurd ((zsm_n hr3 hf1 hr4 hg1).mpr q) (hp98.1.z c101)) | exact rNx_y hnx (hty _ (re_mem hin)) c52 (by first | exact Or.inl c57 | exact Or.inr (Int32.not_le.mp c64)) (by first | exact fun g => absurd g (hz.z c68) | exact fun _ => Or.inl c74 | exact fun _ => Or.inr c81) ((zsm_n hr3 hf1 hr4 hg1).mp (hp98.1.nz c101))) hG hS ls (lv_sub hl [2, 3, 4, 5, 6, 0] rfl)
                    · refine lv_iload hx hb d_Mo_next_104 (lv_at hl 0 rfl) ?_
                      refine lv_istore (lv' := [(4, .int (rT (re rs i))), (6, .int (rT (re rs i))), (0, .ref a), (1, .ref b1), (2, .int u), (3, .int z), (5, .int (nI i))]) hx hb d_Mo_next_106 hl (by decide) rfl (fun ls hl => ?_)
                      refine lv_iinc (v := nI (i + 1)) (lv' := [(5, .int (nI (i + 1))), (4, .int (rT (re rs i))), (6, .int (rT (re rs i))), (0, .ref a), (1, .ref b1), (2, .int u), (3, .int z)]) hx hb d_Mo_next_108 hl (k := 6) rfl (nI_add i 1) (by decide) rfl (fun ls hl => ?_)
                      refine lv_goto (tgt := 28) hx hb d_Mo_next_111 (by decide) ?_
                      exact ih (i + 1) (rT (re rs i)) _ _ (by omega) (by omega) (by first | exact rNx_n hnx (fun _ _ q => absurd q (Int32.not_lt.mpr c52)) | exact rNx_n hnx (fun _ _ _ => ⟨Int32.not_le.mp c57, c64⟩) | exact rNx_n hnx (fun _ q _ => absurd (q (hz.nz c68)) (fun z => z.elim c74 c81)) | exact rNx_n hnx (fun q _ _ => absurd ((zsm_n hr3 hf1 hr4 hg1).mpr q) (hp98.1.z c101)) | exact rNx_y hnx (hty _ (re_mem hin)) c52 (by first | exact Or.inl c57 | exact Or.inr (Int32.not_le.mp c64)) (by first | exact fun g => absurd g (hz.z c68) | exact fun _ => Or.inl c74 | exact fun _ => Or.inr c81) ((zsm_n hr3 hf1 hr4 hg1).mp (hp98.1.nz c101))) hG hS ls (lv_sub hl [3, 4, 5, 6, 1, 0] rfl)
                  · refine lv_iload hx hb d_Mo_next_71 (lv_at hl 0 rfl) ?_
                    refine lv_iconst (v := 2) hx hb d_Mo_next_73 (by decide) ?_
                    refine lv_icmp_eq (tgt := 87) hx hb d_Mo_next_74 (by decide) (fun c74 => ?_) (fun c74 => ?_)
                    · refine lv_aload_n hx hb d_Mo_next_87 rfl (lv_at hl 1 rfl) ?_
                      refine zg_get (ci := 11) (C := "ZoneAnswersModel") (T := T_Mo) (N := 21) hx hb hts zi_Mo hown hK hG ha rfl 4 (by decide) (hts _ w_1285) (fun _ h9 => h9) rfl d_Mo_next_88 ?_
                      refine lv_iload hx hb d_Mo_next_91 (lv_at hl 6 rfl) ?_
                      refine zg_aldq hx hb hK hG 4 hm4 rfl (vp_in_nI (by omega) (by omega)) d_Mo_next_93 ?_
                      refine zr_as (y := fr i) (by rw [zi_n _ (by omega)]) ?_
                      refine zr_some (a := rA (re rs i)) (hfr i hin) ?_
                      refine zg_get (ci := 12) (C := "ZoneAnswersModel$Rec") (T := T_Re) (N := 5) hx hb hts zi_Re hown hK hG hr1 rfl 0 (by decide) (hts _ w_1265) (fun _ h9 => h9) rfl d_Mo_next_94 ?_
                      refine lv_aload_n hx hb d_Mo_next_97 rfl (lv_at hl 2 rfl) ?_
                      refine zk_i (va_runS (As := [.ref (rN (re rs i)), .ref b1]) (rest := []) ⟨hx, hb, hml, hown, hts⟩ (t_Ns_same l E G (rN (re rs i)) (np_len (rM (re rs i))) nf hr2 b1 (np_len ls1) f1 hb1 (by omega) (by omega)) (zcS 2 hts w_1405 w_1406 w_33 w_1407 (by decide +kernel) ⟨Nat.le_of_ble_eq_true rfl, Nat.le_of_ble_eq_true rfl⟩) (zc_pre hbase hK hN hQ hG hS) rfl rfl hl.1 rfl (lv_room (Nat.le_of_ble_eq_true rfl)) d_Mo_next_98 ⟨(by decide), (by decide)⟩) hS (fun r98 G98 H locs hp98 hG hS => ?_)
                      have hG : zP E G H := hp98.2 ▸ hG
                      refine lv_if_eq (tgt := 108) hx hb d_Mo_next_101 (by decide) (fun c101 => ?_) (fun c101 => ?_)
                      · refine lv_iinc (v := nI (i + 1)) (lv' := [(5, .int (nI (i + 1))), (6, .int (rT (re rs i))), (0, .ref a), (1, .ref b1), (2, .int u), (3, .int z), (4, .int w)]) hx hb d_Mo_next_108 hl (k := 6) rfl (nI_add i 1) (by decide) rfl (fun ls hl => ?_)
                        refine lv_goto (tgt := 28) hx hb d_Mo_next_111 (by decide) ?_
                        exact ih (i + 1) w _ _ (by omega) (by omega) (by first | exact rNx_n hnx (fun _ _ q => absurd q (Int32.not_lt.mpr c52)) | exact rNx_n hnx (fun _ _ _ => ⟨Int32.not_le.mp c57, c64⟩) | exact rNx_n hnx (fun _ q _ => absurd (q (hz.nz c68)) (fun z => z.elim c74 c81)) | exact rNx_n hnx (fun q _ _ => absurd ((zsm_n hr3 hf1 hr4 hg1).mpr q) (hp98.1.z c101)) | exact rNx_y hnx (hty _ (re_mem hin)) c52 (by first | exact Or.inl c57 | exact Or.inr (Int32.not_le.mp c64)) (by first | exact fun g => absurd g (hz.z c68) | exact fun _ => Or.inl c74 | exact fun _ => Or.inr c81) ((zsm_n hr3 hf1 hr4 hg1).mp (hp98.1.nz c101))) hG hS ls (lv_sub hl [2, 3, 4, 5, 6, 0] rfl)
                      · refine lv_iload hx hb d_Mo_next_104 (lv_at hl 0 rfl) ?_
                        refine lv_istore (lv' := [(4, .int (rT (re rs i))), (6, .int (rT (re rs i))), (0, .ref a), (1, .ref b1), (2, .int u), (3, .int z), (5, .int (nI i))]) hx hb d_Mo_next_106 hl (by decide) rfl (fun ls hl => ?_)
                        refine lv_iinc (v := nI (i + 1)) (lv' := [(5, .int (nI (i + 1))), (4, .int (rT (re rs i))), (6, .int (rT (re rs i))), (0, .ref a), (1, .ref b1), (2, .int u), (3, .int z)]) hx hb d_Mo_next_108 hl (k := 6) rfl (nI_add i 1) (by decide) rfl (fun ls hl => ?_)
                        refine lv_goto (tgt := 28) hx hb d_Mo_next_111 (by decide) ?_
                        exact ih (i + 1) (rT (re rs i)) _ _ (by omega) (by omega) (by first | exact rNx_n hnx (fun _ _ q => absurd q (Int32.not_lt.mpr c52)) | exact rNx_n hnx (fun _ _ _ => ⟨Int32.not_le.mp c57, c64⟩) | exact rNx_n hnx (fun _ q _ => absurd (q (hz.nz c68)) (fun z => z.elim c74 c81)) | exact rNx_n hnx (fun q _ _ => absurd ((zsm_n hr3 hf1 hr4 hg1).mpr q) (hp98.1.z c101)) | exact rNx_y hnx (hty _ (re_mem hin)) c52 (by first | exact Or.inl c57 | exact Or.inr (Int32.not_le.mp c64)) (by first | exact fun g => absurd g (hz.z c68) | exact fun _ => Or.inl c74 | exact fun _ => Or.inr c81) ((zsm_n hr3 hf1 hr4 hg1).mp (hp98.1.nz c101))) hG hS ls (lv_sub hl [3, 4, 5, 6, 1, 0] rfl)
                    · refine lv_iload hx hb d_Mo_next_77 (lv_at hl 0 rfl) ?_
                      refine lv_bipush (v := 43) hx hb d_Mo_next_79 (by decide) ?_
                      refine lv_icmp_eq (tgt := 87) hx hb d_Mo_next_81 (by decide) (fun c81 => ?_) (fun c81 => ?_)
                      · refine lv_aload_n hx hb d_Mo_next_87 rfl (lv_at hl 1 rfl) ?_
                        refine zg_get (ci := 11) (C := "ZoneAnswersModel") (T := T_Mo) (N := 21) hx hb hts zi_Mo hown hK hG ha rfl 4 (by decide) (hts _ w_1285) (fun _ h9 => h9) rfl d_Mo_next_88 ?_
                        refine lv_iload hx hb d_Mo_next_91 (lv_at hl 6 rfl) ?_
                        refine zg_aldq hx hb hK hG 4 hm4 rfl (vp_in_nI (by omega) (by omega)) d_Mo_next_93 ?_
                        refine zr_as (y := fr i) (by rw [zi_n _ (by omega)]) ?_
                        refine zr_some (a := rA (re rs i)) (hfr i hin) ?_
                        refine zg_get (ci := 12) (C := "ZoneAnswersModel$Rec") (T := T_Re) (N := 5) hx hb hts zi_Re hown hK hG hr1 rfl 0 (by decide) (hts _ w_1265) (fun _ h9 => h9) rfl d_Mo_next_94 ?_
                        refine lv_aload_n hx hb d_Mo_next_97 rfl (lv_at hl 2 rfl) ?_
                        refine zk_i (va_runS (As := [.ref (rN (re rs i)), .ref b1]) (rest := []) ⟨hx, hb, hml, hown, hts⟩ (t_Ns_same l E G (rN (re rs i)) (np_len (rM (re rs i))) nf hr2 b1 (np_len ls1) f1 hb1 (by omega) (by omega)) (zcS 2 hts w_1405 w_1406 w_33 w_1407 (by decide +kernel) ⟨Nat.le_of_ble_eq_true rfl, Nat.le_of_ble_eq_true rfl⟩) (zc_pre hbase hK hN hQ hG hS) rfl rfl hl.1 rfl (lv_room (Nat.le_of_ble_eq_true rfl)) d_Mo_next_98 ⟨(by decide), (by decide)⟩) hS (fun r98 G98 H locs hp98 hG hS => ?_)
                        have hG : zP E G H := hp98.2 ▸ hG
                        refine lv_if_eq (tgt := 108) hx hb d_Mo_next_101 (by decide) (fun c101 => ?_) (fun c101 => ?_)
                        · refine lv_iinc (v := nI (i + 1)) (lv' := [(5, .int (nI (i + 1))), (6, .int (rT (re rs i))), (0, .ref a), (1, .ref b1), (2, .int u), (3, .int z), (4, .int w)]) hx hb d_Mo_next_108 hl (k := 6) rfl (nI_add i 1) (by decide) rfl (fun ls hl => ?_)
                          refine lv_goto (tgt := 28) hx hb d_Mo_next_111 (by decide) ?_
                          exact ih (i + 1) w _ _ (by omega) (by omega) (by first | exact rNx_n hnx (fun _ _ q => absurd q (Int32.not_lt.mpr c52)) | exact rNx_n hnx (fun _ _ _ => ⟨Int32.not_le.mp c57, c64⟩) | exact rNx_n hnx (fun _ q _ => absurd (q (hz.nz c68)) (fun z => z.elim c74 c81)) | exact rNx_n hnx (fun q _ _ => absurd ((zsm_n hr3 hf1 hr4 hg1).mpr q) (hp98.1.z c101)) | exact rNx_y hnx (hty _ (re_mem hin)) c52 (by first | exact Or.inl c57 | exact Or.inr (Int32.not_le.mp c64)) (by first | exact fun g => absurd g (hz.z c68) | exact fun _ => Or.inl c74 | exact fun _ => Or.inr c81) ((zsm_n hr3 hf1 hr4 hg1).mp (hp98.1.nz c101))) hG hS ls (lv_sub hl [2, 3, 4, 5, 6, 0] rfl)
                        · refine lv_iload hx hb d_Mo_next_104 (lv_at hl 0 rfl) ?_
                          refine lv_istore (lv' := [(4, .int (rT (re rs i))), (6, .int (rT (re rs i))), (0, .ref a), (1, .ref b1), (2, .int u), (3, .int z), (5, .int (nI i))]) hx hb d_Mo_next_106 hl (by decide) rfl (fun ls hl => ?_)
                          refine lv_iinc (v := nI (i + 1)) (lv' := [(5, .int (nI (i + 1))), (4, .int (rT (re rs i))), (6, .int (rT (re rs i))), (0, .ref a), (1, .ref b1), (2, .int u), (3, .int z)]) hx hb d_Mo_next_108 hl (k := 6) rfl (nI_add i 1) (by decide) rfl (fun ls hl => ?_)
                          refine lv_goto (tgt := 28) hx hb d_Mo_next_111 (by decide) ?_
                          exact ih (i + 1) (rT (re rs i)) _ _ (by omega) (by omega) (by first | exact rNx_n hnx (fun _ _ q => absurd q (Int32.not_lt.mpr c52)) | exact rNx_n hnx (fun _ _ _ => ⟨Int32.not_le.mp c57, c64⟩) | exact rNx_n hnx (fun _ q _ => absurd (q (hz.nz c68)) (fun z => z.elim c74 c81)) | exact rNx_n hnx (fun q _ _ => absurd ((zsm_n hr3 hf1 hr4 hg1).mpr q) (hp98.1.z c101)) | exact rNx_y hnx (hty _ (re_mem hin)) c52 (by first | exact Or.inl c57 | exact Or.inr (Int32.not_le.mp c64)) (by first | exact fun g => absurd g (hz.z c68) | exact fun _ => Or.inl c74 | exact fun _ => Or.inr c81) ((zsm_n hr3 hf1 hr4 hg1).mp (hp98.1.nz c101))) hG hS ls (lv_sub hl [3, 4, 5, 6, 1, 0] rfl)
                      · refine lv_goto (tgt := 108) hx hb d_Mo_next_84 (by decide) ?_
                        refine lv_iinc (v := nI (i + 1)) (lv' := [(5, .int (nI (i + 1))), (6, .int (rT (re rs i))), (0, .ref a), (1, .ref b1), (2, .int u), (3, .int z), (4, .int w)]) hx hb d_Mo_next_108 hl (k := 6) rfl (nI_add i 1) (by decide) rfl (fun ls hl => ?_)
                        refine lv_goto (tgt := 28) hx hb d_Mo_next_111 (by decide) ?_
                        exact ih (i + 1) w _ _ (by omega) (by omega) (by first | exact rNx_n hnx (fun _ _ q => absurd q (Int32.not_lt.mpr c52)) | exact rNx_n hnx (fun _ _ _ => ⟨Int32.not_le.mp c57, c64⟩) | exact rNx_n hnx (fun _ q _ => absurd (q (hz.nz c68)) (fun z => z.elim c74 c81)) | exact rNx_n hnx (fun q _ _ => absurd ((zsm_n hr3 hf1 hr4 hg1).mpr q) (hp98.1.z c101)) | exact rNx_y hnx (hty _ (re_mem hin)) c52 (by first | exact Or.inl c57 | exact Or.inr (Int32.not_le.mp c64)) (by first | exact fun g => absurd g (hz.z c68) | exact fun _ => Or.inl c74 | exact fun _ => Or.inr c81) ((zsm_n hr3 hf1 hr4 hg1).mp (hp98.1.nz c101))) hG hS ls (lv_sub hl [2, 3, 4, 5, 6, 0] rfl)
      exact loop28 _ 0 0 _ _ (Nat.lt_succ_self _) (Nat.zero_le _) (by first | exact rNx_01 (Int32.not_le.mp c3) | exact rNx_02 (Int32.not_lt.mpr c3) (Int32.not_le.mp c14) | exact rNx_03 (Int32.not_lt.mpr c14)) hG hS ls (lv_sub hl [2, 3, 4, 5, 1, 0] rfl)
    · refine lv_bipush (v := 47) hx hb d_Mo_next_17 (by decide) ?_
      refine lv_goto (tgt := 23) hx hb d_Mo_next_19 (by decide) ?_
      refine lv_istore (lv' := [(4, .int 47), (0, .ref a), (1, .ref b1), (2, .int u), (3, .int z)]) hx hb d_Mo_next_23 hl (by decide) rfl (fun ls hl => ?_)
      refine lv_iconst (v := 0) hx hb d_Mo_next_25 (by decide) ?_
      refine zi_as (y := nI 0) (nI_0.symm) ?_
      refine lv_istore (lv' := [(5, .int (nI 0)), (4, .int 47), (0, .ref a), (1, .ref b1), (2, .int u), (3, .int z)]) hx hb d_Mo_next_26 hl (by decide) rfl (fun ls hl => ?_)
      have loop28 : ∀ (N : Nat) (i : Nat) (w : Int32) (H : Heap) (locs : List Loc), (rs.length - i) < N → (i ≤ rs.length) → (rNx (rTy rs ls1 gv i) u w) → zP E G H → zg_S (zc_b E) s.heap H locs → ∀ (ls : Array Slot), lv_has ls 7 [(0, .ref a), (1, .ref b1), (2, .int u), (3, .int z), (4, .int w), (5, .int (nI i))] → W p l e rm_Mo_next s m args below meth c H locs 0 0 Q (F0 m 28 ls []) := by
        intro N
        induction N with
        | zero =>
          intro i w H locs hlt
          exact absurd hlt (Nat.not_lt_zero _)
        | succ N ih =>
          intro i w H locs hlt hi hnx hG hS ls hl
          refine lv_iload hx hb d_Mo_next_28 (lv_at hl 5 rfl) ?_
          refine lv_aload_n hx hb d_Mo_next_30 rfl (lv_at hl 0 rfl) ?_
          refine zg_get (ci := 11) (C := "ZoneAnswersModel") (T := T_Mo) (N := 21) hx hb hts zi_Mo hown hK hG ha rfl 5 (by decide) (hts _ w_1286) (fun _ h9 => h9) rfl d_Mo_next_31 ?_
          refine lv_icmp_ge (tgt := 114) hx hb d_Mo_next_34 (by decide) (fun c34 => ?_) (fun c34 => ?_)
          · have b34 : rs.length ≤ i := (nI_leI (a := rs.length) (b := i) (by omega) (by omega)).mp c34
            refine lv_iload hx hb d_Mo_next_114 (lv_at hl 4 rfl) ?_
            exact hret _ _ _ _ _ _ _ _ _ hr (rfl) (⟨by rw [show rs.length = i by omega]; exact hnx, rfl⟩) hG hS (Nat.le_refl _) (Nat.le_refl _) d_Mo_next_116
          · have b34 : ¬ rs.length ≤ i := fun q => c34 ((nI_leI (a := rs.length) (b := i) (by omega) (by omega)).mpr q)
            have hin : i < rs.length := by omega
            obtain ⟨hr1, ⟨nf, hr2, hr3, hr4, hr5⟩, df, hr6, hr7, hr8⟩ := hRs _ (re_mem hin)
            have sm := hr4.2
            refine lv_aload_n hx hb d_Mo_next_37 rfl (lv_at hl 0 rfl) ?_
            refine zg_get (ci := 11) (C := "ZoneAnswersModel") (T := T_Mo) (N := 21) hx hb hts zi_Mo hown hK hG ha rfl 4 (by decide) (hts _ w_1285) (fun _ h9 => h9) rfl d_Mo_next_38 ?_
            refine lv_iload hx hb d_Mo_next_41 (lv_at hl 5 rfl) ?_
            refine zg_aldq hx hb hK hG 4 hm4 rfl (vp_in_nI (by omega) (by omega)) d_Mo_next_43 ?_
            refine zr_as (y := fr i) (by rw [zi_n _ (by omega)]) ?_
            refine zr_some (a := rA (re rs i)) (hfr i hin) ?_
            refine zg_get (ci := 12) (C := "ZoneAnswersModel$Rec") (T := T_Re) (N := 5) hx hb hts zi_Re hown hK hG hr1 rfl 3 (by decide) (hts _ w_1268) (fun _ h9 => h9) rfl d_Mo_next_44 ?_
            refine lv_istore (lv' := [(6, .int (rT (re rs i))), (0, .ref a), (1, .ref b1), (2, .int u), (3, .int z), (4, .int w), (5, .int (nI i))]) hx hb d_Mo_next_47 hl (by decide) rfl (fun ls hl => ?_)
            refine lv_iload hx hb d_Mo_next_49 (lv_at hl 0 rfl) ?_
            refine lv_iload_n hx hb d_Mo_next_51 rfl (lv_at hl 3 rfl) ?_
            refine lv_icmp_le (tgt := 108) hx hb d_Mo_next_52 (by decide) (fun c52 => ?_) (fun c52 => ?_)
            · refine lv_iinc (v := nI (i + 1)) (lv' := [(5, .int (nI (i + 1))), (6, .int (rT (re rs i))), (0, .ref a), (1, .ref b1), (2, .int u), (3, .int z), (4, .int w)]) hx hb d_Mo_next_108 hl (k := 6) rfl (nI_add i 1) (by decide) rfl (fun ls hl => ?_)
              refine lv_goto (tgt := 28) hx hb d_Mo_next_111 (by decide) ?_
              exact ih (i + 1) w _ _ (by omega) (by omega) (by first | exact rNx_n hnx (fun _ _ q => absurd q (Int32.not_lt.mpr c52)) | exact rNx_n hnx (fun _ _ _ => ⟨Int32.not_le.mp c57, c64⟩) | exact rNx_n hnx (fun _ q _ => absurd (q (hz.nz c68)) (fun z => z.elim c74 c81)) | exact rNx_n hnx (fun q _ _ => absurd ((zsm_n hr3 hf1 hr4 hg1).mpr q) (hp98.1.z c101)) | exact rNx_y hnx (hty _ (re_mem hin)) c52 (by first | exact Or.inl c57 | exact Or.inr (Int32.not_le.mp c64)) (by first | exact fun g => absurd g (hz.z c68) | exact fun _ => Or.inl c74 | exact fun _ => Or.inr c81) ((zsm_n hr3 hf1 hr4 hg1).mp (hp98.1.nz c101))) hG hS ls (lv_sub hl [2, 3, 4, 5, 6, 0] rfl)
            · refine lv_iload hx hb d_Mo_next_55 (lv_at hl 5 rfl) ?_
              refine lv_if_le (tgt := 67) hx hb d_Mo_next_57 (by decide) (fun c57 => ?_) (fun c57 => ?_)
              · refine lv_iload_n hx hb d_Mo_next_67 rfl (lv_at hl 4 rfl) ?_
                refine lv_if_eq (tgt := 87) hx hb d_Mo_next_68 (by decide) (fun c68 => ?_) (fun c68 => ?_)
                · refine lv_aload_n hx hb d_Mo_next_87 rfl (lv_at hl 1 rfl) ?_
                  refine zg_get (ci := 11) (C := "ZoneAnswersModel") (T := T_Mo) (N := 21) hx hb hts zi_Mo hown hK hG ha rfl 4 (by decide) (hts _ w_1285) (fun _ h9 => h9) rfl d_Mo_next_88 ?_
                  refine lv_iload hx hb d_Mo_next_91 (lv_at hl 6 rfl) ?_
                  refine zg_aldq hx hb hK hG 4 hm4 rfl (vp_in_nI (by omega) (by omega)) d_Mo_next_93 ?_
                  refine zr_as (y := fr i) (by rw [zi_n _ (by omega)]) ?_
                  refine zr_some (a := rA (re rs i)) (hfr i hin) ?_
                  refine zg_get (ci := 12) (C := "ZoneAnswersModel$Rec") (T := T_Re) (N := 5) hx hb hts zi_Re hown hK hG hr1 rfl 0 (by decide) (hts _ w_1265) (fun _ h9 => h9) rfl d_Mo_next_94 ?_
                  refine lv_aload_n hx hb d_Mo_next_97 rfl (lv_at hl 2 rfl) ?_
                  refine zk_i (va_runS (As := [.ref (rN (re rs i)), .ref b1]) (rest := []) ⟨hx, hb, hml, hown, hts⟩ (t_Ns_same l E G (rN (re rs i)) (np_len (rM (re rs i))) nf hr2 b1 (np_len ls1) f1 hb1 (by omega) (by omega)) (zcS 2 hts w_1405 w_1406 w_33 w_1407 (by decide +kernel) ⟨Nat.le_of_ble_eq_true rfl, Nat.le_of_ble_eq_true rfl⟩) (zc_pre hbase hK hN hQ hG hS) rfl rfl hl.1 rfl (lv_room (Nat.le_of_ble_eq_true rfl)) d_Mo_next_98 ⟨(by decide), (by decide)⟩) hS (fun r98 G98 H locs hp98 hG hS => ?_)
                  have hG : zP E G H := hp98.2 ▸ hG
                  refine lv_if_eq (tgt := 108) hx hb d_Mo_next_101 (by decide) (fun c101 => ?_) (fun c101 => ?_)
                  · refine lv_iinc (v := nI (i + 1)) (lv' := [(5, .int (nI (i + 1))), (6, .int (rT (re rs i))), (0, .ref a), (1, .ref b1), (2, .int u), (3, .int z), (4, .int w)]) hx hb d_Mo_next_108 hl (k := 6) rfl (nI_add i 1) (by decide) rfl (fun ls hl => ?_)
                    refine lv_goto (tgt := 28) hx hb d_Mo_next_111 (by decide) ?_
                    exact ih (i + 1) w _ _ (by omega) (by omega) (by first | exact rNx_n hnx (fun _ _ q => absurd q (Int32.not_lt.mpr c52)) | exact rNx_n hnx (fun _ _ _ => ⟨Int32.not_le.mp c57, c64⟩) | exact rNx_n hnx (fun _ q _ => absurd (q (hz.nz c68)) (fun z => z.elim c74 c81)) | exact rNx_n hnx (fun q _ _ => absurd ((zsm_n hr3 hf1 hr4 hg1).mpr q) (hp98.1.z c101)) | exact rNx_y hnx (hty _ (re_mem hin)) c52 (by first | exact Or.inl c57 | exact Or.inr (Int32.not_le.mp c64)) (by first | exact fun g => absurd g (hz.z c68) | exact fun _ => Or.inl c74 | exact fun _ => Or.inr c81) ((zsm_n hr3 hf1 hr4 hg1).mp (hp98.1.nz c101))) hG hS ls (lv_sub hl [2, 3, 4, 5, 6, 0] rfl)
                  · refine lv_iload hx hb d_Mo_next_104 (lv_at hl 0 rfl) ?_
                    refine lv_istore (lv' := [(4, .int (rT (re rs i))), (6, .int (rT (re rs i))), (0, .ref a), (1, .ref b1), (2, .int u), (3, .int z), (5, .int (nI i))]) hx hb d_Mo_next_106 hl (by decide) rfl (fun ls hl => ?_)
                    refine lv_iinc (v := nI (i + 1)) (lv' := [(5, .int (nI (i + 1))), (4, .int (rT (re rs i))), (6, .int (rT (re rs i))), (0, .ref a), (1, .ref b1), (2, .int u), (3, .int z)]) hx hb d_Mo_next_108 hl (k := 6) rfl (nI_add i 1) (by decide) rfl (fun ls hl => ?_)
                    refine lv_goto (tgt := 28) hx hb d_Mo_next_111 (by decide) ?_
                    exact ih (i + 1) (rT (re rs i)) _ _ (by omega) (by omega) (by first | exact rNx_n hnx (fun _ _ q => absurd q (Int32.not_lt.mpr c52)) | exact rNx_n hnx (fun _ _ _ => ⟨Int32.not_le.mp c57, c64⟩) | exact rNx_n hnx (fun _ q _ => absurd (q (hz.nz c68)) (fun z => z.elim c74 c81)) | exact rNx_n hnx (fun q _ _ => absurd ((zsm_n hr3 hf1 hr4 hg1).mpr q) (hp98.1.z c101)) | exact rNx_y hnx (hty _ (re_mem hin)) c52 (by first | exact Or.inl c57 | exact Or.inr (Int32.not_le.mp c64)) (by first | exact fun g => absurd g (hz.z c68) | exact fun _ => Or.inl c74 | exact fun _ => Or.inr c81) ((zsm_n hr3 hf1 hr4 hg1).mp (hp98.1.nz c101))) hG hS ls (lv_sub hl [3, 4, 5, 6, 1, 0] rfl)
                · refine lv_iload hx hb d_Mo_next_71 (lv_at hl 0 rfl) ?_
                  refine lv_iconst (v := 2) hx hb d_Mo_next_73 (by decide) ?_
                  refine lv_icmp_eq (tgt := 87) hx hb d_Mo_next_74 (by decide) (fun c74 => ?_) (fun c74 => ?_)
                  · refine lv_aload_n hx hb d_Mo_next_87 rfl (lv_at hl 1 rfl) ?_
                    refine zg_get (ci := 11) (C := "ZoneAnswersModel") (T := T_Mo) (N := 21) hx hb hts zi_Mo hown hK hG ha rfl 4 (by decide) (hts _ w_1285) (fun _ h9 => h9) rfl d_Mo_next_88 ?_
                    refine lv_iload hx hb d_Mo_next_91 (lv_at hl 6 rfl) ?_
                    refine zg_aldq hx hb hK hG 4 hm4 rfl (vp_in_nI (by omega) (by omega)) d_Mo_next_93 ?_
                    refine zr_as (y := fr i) (by rw [zi_n _ (by omega)]) ?_
                    refine zr_some (a := rA (re rs i)) (hfr i hin) ?_
                    refine zg_get (ci := 12) (C := "ZoneAnswersModel$Rec") (T := T_Re) (N := 5) hx hb hts zi_Re hown hK hG hr1 rfl 0 (by decide) (hts _ w_1265) (fun _ h9 => h9) rfl d_Mo_next_94 ?_
                    refine lv_aload_n hx hb d_Mo_next_97 rfl (lv_at hl 2 rfl) ?_
                    refine zk_i (va_runS (As := [.ref (rN (re rs i)), .ref b1]) (rest := []) ⟨hx, hb, hml, hown, hts⟩ (t_Ns_same l E G (rN (re rs i)) (np_len (rM (re rs i))) nf hr2 b1 (np_len ls1) f1 hb1 (by omega) (by omega)) (zcS 2 hts w_1405 w_1406 w_33 w_1407 (by decide +kernel) ⟨Nat.le_of_ble_eq_true rfl, Nat.le_of_ble_eq_true rfl⟩) (zc_pre hbase hK hN hQ hG hS) rfl rfl hl.1 rfl (lv_room (Nat.le_of_ble_eq_true rfl)) d_Mo_next_98 ⟨(by decide), (by decide)⟩) hS (fun r98 G98 H locs hp98 hG hS => ?_)
                    have hG : zP E G H := hp98.2 ▸ hG
                    refine lv_if_eq (tgt := 108) hx hb d_Mo_next_101 (by decide) (fun c101 => ?_) (fun c101 => ?_)
                    · refine lv_iinc (v := nI (i + 1)) (lv' := [(5, .int (nI (i + 1))), (6, .int (rT (re rs i))), (0, .ref a), (1, .ref b1), (2, .int u), (3, .int z), (4, .int w)]) hx hb d_Mo_next_108 hl (k := 6) rfl (nI_add i 1) (by decide) rfl (fun ls hl => ?_)
                      refine lv_goto (tgt := 28) hx hb d_Mo_next_111 (by decide) ?_
                      exact ih (i + 1) w _ _ (by omega) (by omega) (by first | exact rNx_n hnx (fun _ _ q => absurd q (Int32.not_lt.mpr c52)) | exact rNx_n hnx (fun _ _ _ => ⟨Int32.not_le.mp c57, c64⟩) | exact rNx_n hnx (fun _ q _ => absurd (q (hz.nz c68)) (fun z => z.elim c74 c81)) | exact rNx_n hnx (fun q _ _ => absurd ((zsm_n hr3 hf1 hr4 hg1).mpr q) (hp98.1.z c101)) | exact rNx_y hnx (hty _ (re_mem hin)) c52 (by first | exact Or.inl c57 | exact Or.inr (Int32.not_le.mp c64)) (by first | exact fun g => absurd g (hz.z c68) | exact fun _ => Or.inl c74 | exact fun _ => Or.inr c81) ((zsm_n hr3 hf1 hr4 hg1).mp (hp98.1.nz c101))) hG hS ls (lv_sub hl [2, 3, 4, 5, 6, 0] rfl)
                    · refine lv_iload hx hb d_Mo_next_104 (lv_at hl 0 rfl) ?_
                      refine lv_istore (lv' := [(4, .int (rT (re rs i))), (6, .int (rT (re rs i))), (0, .ref a), (1, .ref b1), (2, .int u), (3, .int z), (5, .int (nI i))]) hx hb d_Mo_next_106 hl (by decide) rfl (fun ls hl => ?_)
                      refine lv_iinc (v := nI (i + 1)) (lv' := [(5, .int (nI (i + 1))), (4, .int (rT (re rs i))), (6, .int (rT (re rs i))), (0, .ref a), (1, .ref b1), (2, .int u), (3, .int z)]) hx hb d_Mo_next_108 hl (k := 6) rfl (nI_add i 1) (by decide) rfl (fun ls hl => ?_)
                      refine lv_goto (tgt := 28) hx hb d_Mo_next_111 (by decide) ?_
                      exact ih (i + 1) (rT (re rs i)) _ _ (by omega) (by omega) (by first | exact rNx_n hnx (fun _ _ q => absurd q (Int32.not_lt.mpr c52)) | exact rNx_n hnx (fun _ _ _ => ⟨Int32.not_le.mp c57, c64⟩) | exact rNx_n hnx (fun _ q _ => absurd (q (hz.nz c68)) (fun z => z.elim c74 c81)) | exact rNx_n hnx (fun q _ _ => absurd ((zsm_n hr3 hf1 hr4 hg1).mpr q) (hp98.1.z c101)) | exact rNx_y hnx (hty _ (re_mem hin)) c52 (by first | exact Or.inl c57 | exact Or.inr (Int32.not_le.mp c64)) (by first | exact fun g => absurd g (hz.z c68) | exact fun _ => Or.inl c74 | exact fun _ => Or.inr c81) ((zsm_n hr3 hf1 hr4 hg1).mp (hp98.1.nz c101))) hG hS ls (lv_sub hl [3, 4, 5, 6, 1, 0] rfl)
                  · refine lv_iload hx hb d_Mo_next_77 (lv_at hl 0 rfl) ?_
                    refine lv_bipush (v := 43) hx hb d_Mo_next_79 (by decide) ?_
                    refine lv_icmp_eq (tgt := 87) hx hb d_Mo_next_81 (by decide) (fun c81 => ?_) (fun c81 => ?_)
                    · refine lv_aload_n hx hb d_Mo_next_87 rfl (lv_at hl 1 rfl) ?_
                      refine zg_get (ci := 11) (C := "ZoneAnswersModel") (T := T_Mo) (N := 21) hx hb hts zi_Mo hown hK hG ha rfl 4 (by decide) (hts _ w_1285) (fun _ h9 => h9) rfl d_Mo_next_88 ?_
                      refine lv_iload hx hb d_Mo_next_91 (lv_at hl 6 rfl) ?_
                      refine zg_aldq hx hb hK hG 4 hm4 rfl (vp_in_nI (by omega) (by omega)) d_Mo_next_93 ?_
                      refine zr_as (y := fr i) (by rw [zi_n _ (by omega)]) ?_
                      refine zr_some (a := rA (re rs i)) (hfr i hin) ?_
                      refine zg_get (ci := 12) (C := "ZoneAnswersModel$Rec") (T := T_Re) (N := 5) hx hb hts zi_Re hown hK hG hr1 rfl 0 (by decide) (hts _ w_1265) (fun _ h9 => h9) rfl d_Mo_next_94 ?_
                      refine lv_aload_n hx hb d_Mo_next_97 rfl (lv_at hl 2 rfl) ?_
                      refine zk_i (va_runS (As := [.ref (rN (re rs i)), .ref b1]) (rest := []) ⟨hx, hb, hml, hown, hts⟩ (t_Ns_same l E G (rN (re rs i)) (np_len (rM (re rs i))) nf hr2 b1 (np_len ls1) f1 hb1 (by omega) (by omega)) (zcS 2 hts w_1405 w_1406 w_33 w_1407 (by decide +kernel) ⟨Nat.le_of_ble_eq_true rfl, Nat.le_of_ble_eq_true rfl⟩) (zc_pre hbase hK hN hQ hG hS) rfl rfl hl.1 rfl (lv_room (Nat.le_of_ble_eq_true rfl)) d_Mo_next_98 ⟨(by decide), (by decide)⟩) hS (fun r98 G98 H locs hp98 hG hS => ?_)
                      have hG : zP E G H := hp98.2 ▸ hG
                      refine lv_if_eq (tgt := 108) hx hb d_Mo_next_101 (by decide) (fun c101 => ?_) (fun c101 => ?_)
                      · refine lv_iinc (v := nI (i + 1)) (lv' := [(5, .int (nI (i + 1))), (6, .int (rT (re rs i))), (0, .ref a), (1, .ref b1), (2, .int u), (3, .int z), (4, .int w)]) hx hb d_Mo_next_108 hl (k := 6) rfl (nI_add i 1) (by decide) rfl (fun ls hl => ?_)
                        refine lv_goto (tgt := 28) hx hb d_Mo_next_111 (by decide) ?_
                        exact ih (i + 1) w _ _ (by omega) (by omega) (by first | exact rNx_n hnx (fun _ _ q => absurd q (Int32.not_lt.mpr c52)) | exact rNx_n hnx (fun _ _ _ => ⟨Int32.not_le.mp c57, c64⟩) | exact rNx_n hnx (fun _ q _ => absurd (q (hz.nz c68)) (fun z => z.elim c74 c81)) | exact rNx_n hnx (fun q _ _ => absurd ((zsm_n hr3 hf1 hr4 hg1).mpr q) (hp98.1.z c101)) | exact rNx_y hnx (hty _ (re_mem hin)) c52 (by first | exact Or.inl c57 | exact Or.inr (Int32.not_le.mp c64)) (by first | exact fun g => absurd g (hz.z c68) | exact fun _ => Or.inl c74 | exact fun _ => Or.inr c81) ((zsm_n hr3 hf1 hr4 hg1).mp (hp98.1.nz c101))) hG hS ls (lv_sub hl [2, 3, 4, 5, 6, 0] rfl)
                      · refine lv_iload hx hb d_Mo_next_104 (lv_at hl 0 rfl) ?_
                        refine lv_istore (lv' := [(4, .int (rT (re rs i))), (6, .int (rT (re rs i))), (0, .ref a), (1, .ref b1), (2, .int u), (3, .int z), (5, .int (nI i))]) hx hb d_Mo_next_106 hl (by decide) rfl (fun ls hl => ?_)
                        refine lv_iinc (v := nI (i + 1)) (lv' := [(5, .int (nI (i + 1))), (4, .int (rT (re rs i))), (6, .int (rT (re rs i))), (0, .ref a), (1, .ref b1), (2, .int u), (3, .int z)]) hx hb d_Mo_next_108 hl (k := 6) rfl (nI_add i 1) (by decide) rfl (fun ls hl => ?_)
                        refine lv_goto (tgt := 28) hx hb d_Mo_next_111 (by decide) ?_
                        exact ih (i + 1) (rT (re rs i)) _ _ (by omega) (by omega) (by first | exact rNx_n hnx (fun _ _ q => absurd q (Int32.not_lt.mpr c52)) | exact rNx_n hnx (fun _ _ _ => ⟨Int32.not_le.mp c57, c64⟩) | exact rNx_n hnx (fun _ q _ => absurd (q (hz.nz c68)) (fun z => z.elim c74 c81)) | exact rNx_n hnx (fun q _ _ => absurd ((zsm_n hr3 hf1 hr4 hg1).mpr q) (hp98.1.z c101)) | exact rNx_y hnx (hty _ (re_mem hin)) c52 (by first | exact Or.inl c57 | exact Or.inr (Int32.not_le.mp c64)) (by first | exact fun g => absurd g (hz.z c68) | exact fun _ => Or.inl c74 | exact fun _ => Or.inr c81) ((zsm_n hr3 hf1 hr4 hg1).mp (hp98.1.nz c101))) hG hS ls (lv_sub hl [3, 4, 5, 6, 1, 0] rfl)
                    · refine lv_goto (tgt := 108) hx hb d_Mo_next_84 (by decide) ?_
                      refine lv_iinc (v := nI (i + 1)) (lv' := [(5, .int (nI (i + 1))), (6, .int (rT (re rs i))), (0, .ref a), (1, .ref b1), (2, .int u), (3, .int z), (4, .int w)]) hx hb d_Mo_next_108 hl (k := 6) rfl (nI_add i 1) (by decide) rfl (fun ls hl => ?_)
                      refine lv_goto (tgt := 28) hx hb d_Mo_next_111 (by decide) ?_
                      exact ih (i + 1) w _ _ (by omega) (by omega) (by first | exact rNx_n hnx (fun _ _ q => absurd q (Int32.not_lt.mpr c52)) | exact rNx_n hnx (fun _ _ _ => ⟨Int32.not_le.mp c57, c64⟩) | exact rNx_n hnx (fun _ q _ => absurd (q (hz.nz c68)) (fun z => z.elim c74 c81)) | exact rNx_n hnx (fun q _ _ => absurd ((zsm_n hr3 hf1 hr4 hg1).mpr q) (hp98.1.z c101)) | exact rNx_y hnx (hty _ (re_mem hin)) c52 (by first | exact Or.inl c57 | exact Or.inr (Int32.not_le.mp c64)) (by first | exact fun g => absurd g (hz.z c68) | exact fun _ => Or.inl c74 | exact fun _ => Or.inr c81) ((zsm_n hr3 hf1 hr4 hg1).mp (hp98.1.nz c101))) hG hS ls (lv_sub hl [2, 3, 4, 5, 6, 0] rfl)
              · refine lv_iload hx hb d_Mo_next_60 (lv_at hl 0 rfl) ?_
                refine lv_iload hx hb d_Mo_next_62 (lv_at hl 5 rfl) ?_
                refine lv_icmp_ge (tgt := 108) hx hb d_Mo_next_64 (by decide) (fun c64 => ?_) (fun c64 => ?_)
                · refine lv_iinc (v := nI (i + 1)) (lv' := [(5, .int (nI (i + 1))), (6, .int (rT (re rs i))), (0, .ref a), (1, .ref b1), (2, .int u), (3, .int z), (4, .int w)]) hx hb d_Mo_next_108 hl (k := 6) rfl (nI_add i 1) (by decide) rfl (fun ls hl => ?_)
                  refine lv_goto (tgt := 28) hx hb d_Mo_next_111 (by decide) ?_
                  exact ih (i + 1) w _ _ (by omega) (by omega) (by first | exact rNx_n hnx (fun _ _ q => absurd q (Int32.not_lt.mpr c52)) | exact rNx_n hnx (fun _ _ _ => ⟨Int32.not_le.mp c57, c64⟩) | exact rNx_n hnx (fun _ q _ => absurd (q (hz.nz c68)) (fun z => z.elim c74 c81)) | exact rNx_n hnx (fun q _ _ => absurd ((zsm_n hr3 hf1 hr4 hg1).mpr q) (hp98.1.z c101)) | exact rNx_y hnx (hty _ (re_mem hin)) c52 (by first | exact Or.inl c57 | exact Or.inr (Int32.not_le.mp c64)) (by first | exact fun g => absurd g (hz.z c68) | exact fun _ => Or.inl c74 | exact fun _ => Or.inr c81) ((zsm_n hr3 hf1 hr4 hg1).mp (hp98.1.nz c101))) hG hS ls (lv_sub hl [2, 3, 4, 5, 6, 0] rfl)
                · refine lv_iload_n hx hb d_Mo_next_67 rfl (lv_at hl 4 rfl) ?_
                  refine lv_if_eq (tgt := 87) hx hb d_Mo_next_68 (by decide) (fun c68 => ?_) (fun c68 => ?_)
                  · refine lv_aload_n hx hb d_Mo_next_87 rfl (lv_at hl 1 rfl) ?_
                    refine zg_get (ci := 11) (C := "ZoneAnswersModel") (T := T_Mo) (N := 21) hx hb hts zi_Mo hown hK hG ha rfl 4 (by decide) (hts _ w_1285) (fun _ h9 => h9) rfl d_Mo_next_88 ?_
                    refine lv_iload hx hb d_Mo_next_91 (lv_at hl 6 rfl) ?_
                    refine zg_aldq hx hb hK hG 4 hm4 rfl (vp_in_nI (by omega) (by omega)) d_Mo_next_93 ?_
                    refine zr_as (y := fr i) (by rw [zi_n _ (by omega)]) ?_
                    refine zr_some (a := rA (re rs i)) (hfr i hin) ?_
                    refine zg_get (ci := 12) (C := "ZoneAnswersModel$Rec") (T := T_Re) (N := 5) hx hb hts zi_Re hown hK hG hr1 rfl 0 (by decide) (hts _ w_1265) (fun _ h9 => h9) rfl d_Mo_next_94 ?_
                    refine lv_aload_n hx hb d_Mo_next_97 rfl (lv_at hl 2 rfl) ?_
                    refine zk_i (va_runS (As := [.ref (rN (re rs i)), .ref b1]) (rest := []) ⟨hx, hb, hml, hown, hts⟩ (t_Ns_same l E G (rN (re rs i)) (np_len (rM (re rs i))) nf hr2 b1 (np_len ls1) f1 hb1 (by omega) (by omega)) (zcS 2 hts w_1405 w_1406 w_33 w_1407 (by decide +kernel) ⟨Nat.le_of_ble_eq_true rfl, Nat.le_of_ble_eq_true rfl⟩) (zc_pre hbase hK hN hQ hG hS) rfl rfl hl.1 rfl (lv_room (Nat.le_of_ble_eq_true rfl)) d_Mo_next_98 ⟨(by decide), (by decide)⟩) hS (fun r98 G98 H locs hp98 hG hS => ?_)
                    have hG : zP E G H := hp98.2 ▸ hG
                    refine lv_if_eq (tgt := 108) hx hb d_Mo_next_101 (by decide) (fun c101 => ?_) (fun c101 => ?_)
                    · refine lv_iinc (v := nI (i + 1)) (lv' := [(5, .int (nI (i + 1))), (6, .int (rT (re rs i))), (0, .ref a), (1, .ref b1), (2, .int u), (3, .int z), (4, .int w)]) hx hb d_Mo_next_108 hl (k := 6) rfl (nI_add i 1) (by decide) rfl (fun ls hl => ?_)
                      refine lv_goto (tgt := 28) hx hb d_Mo_next_111 (by decide) ?_
                      exact ih (i + 1) w _ _ (by omega) (by omega) (by first | exact rNx_n hnx (fun _ _ q => absurd q (Int32.not_lt.mpr c52)) | exact rNx_n hnx (fun _ _ _ => ⟨Int32.not_le.mp c57, c64⟩) | exact rNx_n hnx (fun _ q _ => absurd (q (hz.nz c68)) (fun z => z.elim c74 c81)) | exact rNx_n hnx (fun q _ _ => absurd ((zsm_n hr3 hf1 hr4 hg1).mpr q) (hp98.1.z c101)) | exact rNx_y hnx (hty _ (re_mem hin)) c52 (by first | exact Or.inl c57 | exact Or.inr (Int32.not_le.mp c64)) (by first | exact fun g => absurd g (hz.z c68) | exact fun _ => Or.inl c74 | exact fun _ => Or.inr c81) ((zsm_n hr3 hf1 hr4 hg1).mp (hp98.1.nz c101))) hG hS ls (lv_sub hl [2, 3, 4, 5, 6, 0] rfl)
                    · refine lv_iload hx hb d_Mo_next_104 (lv_at hl 0 rfl) ?_
                      refine lv_istore (lv' := [(4, .int (rT (re rs i))), (6, .int (rT (re rs i))), (0, .ref a), (1, .ref b1), (2, .int u), (3, .int z), (5, .int (nI i))]) hx hb d_Mo_next_106 hl (by decide) rfl (fun ls hl => ?_)
                      refine lv_iinc (v := nI (i + 1)) (lv' := [(5, .int (nI (i + 1))), (4, .int (rT (re rs i))), (6, .int (rT (re rs i))), (0, .ref a), (1, .ref b1), (2, .int u), (3, .int z)]) hx hb d_Mo_next_108 hl (k := 6) rfl (nI_add i 1) (by decide) rfl (fun ls hl => ?_)
                      refine lv_goto (tgt := 28) hx hb d_Mo_next_111 (by decide) ?_
                      exact ih (i + 1) (rT (re rs i)) _ _ (by omega) (by omega) (by first | exact rNx_n hnx (fun _ _ q => absurd q (Int32.not_lt.mpr c52)) | exact rNx_n hnx (fun _ _ _ => ⟨Int32.not_le.mp c57, c64⟩) | exact rNx_n hnx (fun _ q _ => absurd (q (hz.nz c68)) (fun z => z.elim c74 c81)) | exact rNx_n hnx (fun q _ _ => absurd ((zsm_n hr3 hf1 hr4 hg1).mpr q) (hp98.1.z c101)) | exact rNx_y hnx (hty _ (re_mem hin)) c52 (by first | exact Or.inl c57 | exact Or.inr (Int32.not_le.mp c64)) (by first | exact fun g => absurd g (hz.z c68) | exact fun _ => Or.inl c74 | exact fun _ => Or.inr c81) ((zsm_n hr3 hf1 hr4 hg1).mp (hp98.1.nz c101))) hG hS ls (lv_sub hl [3, 4, 5, 6, 1, 0] rfl)
                  · refine lv_iload hx hb d_Mo_next_71 (lv_at hl 0 rfl) ?_
                    refine lv_iconst (v := 2) hx hb d_Mo_next_73 (by decide) ?_
                    refine lv_icmp_eq (tgt := 87) hx hb d_Mo_next_74 (by decide) (fun c74 => ?_) (fun c74 => ?_)
                    · refine lv_aload_n hx hb d_Mo_next_87 rfl (lv_at hl 1 rfl) ?_
                      refine zg_get (ci := 11) (C := "ZoneAnswersModel") (T := T_Mo) (N := 21) hx hb hts zi_Mo hown hK hG ha rfl 4 (by decide) (hts _ w_1285) (fun _ h9 => h9) rfl d_Mo_next_88 ?_
                      refine lv_iload hx hb d_Mo_next_91 (lv_at hl 6 rfl) ?_
                      refine zg_aldq hx hb hK hG 4 hm4 rfl (vp_in_nI (by omega) (by omega)) d_Mo_next_93 ?_
                      refine zr_as (y := fr i) (by rw [zi_n _ (by omega)]) ?_
                      refine zr_some (a := rA (re rs i)) (hfr i hin) ?_
                      refine zg_get (ci := 12) (C := "ZoneAnswersModel$Rec") (T := T_Re) (N := 5) hx hb hts zi_Re hown hK hG hr1 rfl 0 (by decide) (hts _ w_1265) (fun _ h9 => h9) rfl d_Mo_next_94 ?_
                      refine lv_aload_n hx hb d_Mo_next_97 rfl (lv_at hl 2 rfl) ?_
                      refine zk_i (va_runS (As := [.ref (rN (re rs i)), .ref b1]) (rest := []) ⟨hx, hb, hml, hown, hts⟩ (t_Ns_same l E G (rN (re rs i)) (np_len (rM (re rs i))) nf hr2 b1 (np_len ls1) f1 hb1 (by omega) (by omega)) (zcS 2 hts w_1405 w_1406 w_33 w_1407 (by decide +kernel) ⟨Nat.le_of_ble_eq_true rfl, Nat.le_of_ble_eq_true rfl⟩) (zc_pre hbase hK hN hQ hG hS) rfl rfl hl.1 rfl (lv_room (Nat.le_of_ble_eq_true rfl)) d_Mo_next_98 ⟨(by decide), (by decide)⟩) hS (fun r98 G98 H locs hp98 hG hS => ?_)
                      have hG : zP E G H := hp98.2 ▸ hG
                      refine lv_if_eq (tgt := 108) hx hb d_Mo_next_101 (by decide) (fun c101 => ?_) (fun c101 => ?_)
                      · refine lv_iinc (v := nI (i + 1)) (lv' := [(5, .int (nI (i + 1))), (6, .int (rT (re rs i))), (0, .ref a), (1, .ref b1), (2, .int u), (3, .int z), (4, .int w)]) hx hb d_Mo_next_108 hl (k := 6) rfl (nI_add i 1) (by decide) rfl (fun ls hl => ?_)
                        refine lv_goto (tgt := 28) hx hb d_Mo_next_111 (by decide) ?_
                        exact ih (i + 1) w _ _ (by omega) (by omega) (by first | exact rNx_n hnx (fun _ _ q => absurd q (Int32.not_lt.mpr c52)) | exact rNx_n hnx (fun _ _ _ => ⟨Int32.not_le.mp c57, c64⟩) | exact rNx_n hnx (fun _ q _ => absurd (q (hz.nz c68)) (fun z => z.elim c74 c81)) | exact rNx_n hnx (fun q _ _ => absurd ((zsm_n hr3 hf1 hr4 hg1).mpr q) (hp98.1.z c101)) | exact rNx_y hnx (hty _ (re_mem hin)) c52 (by first | exact Or.inl c57 | exact Or.inr (Int32.not_le.mp c64)) (by first | exact fun g => absurd g (hz.z c68) | exact fun _ => Or.inl c74 | exact fun _ => Or.inr c81) ((zsm_n hr3 hf1 hr4 hg1).mp (hp98.1.nz c101))) hG hS ls (lv_sub hl [2, 3, 4, 5, 6, 0] rfl)
                      · refine lv_iload hx hb d_Mo_next_104 (lv_at hl 0 rfl) ?_
                        refine lv_istore (lv' := [(4, .int (rT (re rs i))), (6, .int (rT (re rs i))), (0, .ref a), (1, .ref b1), (2, .int u), (3, .int z), (5, .int (nI i))]) hx hb d_Mo_next_106 hl (by decide) rfl (fun ls hl => ?_)
                        refine lv_iinc (v := nI (i + 1)) (lv' := [(5, .int (nI (i + 1))), (4, .int (rT (re rs i))), (6, .int (rT (re rs i))), (0, .ref a), (1, .ref b1), (2, .int u), (3, .int z)]) hx hb d_Mo_next_108 hl (k := 6) rfl (nI_add i 1) (by decide) rfl (fun ls hl => ?_)
                        refine lv_goto (tgt := 28) hx hb d_Mo_next_111 (by decide) ?_
                        exact ih (i + 1) (rT (re rs i)) _ _ (by omega) (by omega) (by first | exact rNx_n hnx (fun _ _ q => absurd q (Int32.not_lt.mpr c52)) | exact rNx_n hnx (fun _ _ _ => ⟨Int32.not_le.mp c57, c64⟩) | exact rNx_n hnx (fun _ q _ => absurd (q (hz.nz c68)) (fun z => z.elim c74 c81)) | exact rNx_n hnx (fun q _ _ => absurd ((zsm_n hr3 hf1 hr4 hg1).mpr q) (hp98.1.z c101)) | exact rNx_y hnx (hty _ (re_mem hin)) c52 (by first | exact Or.inl c57 | exact Or.inr (Int32.not_le.mp c64)) (by first | exact fun g => absurd g (hz.z c68) | exact fun _ => Or.inl c74 | exact fun _ => Or.inr c81) ((zsm_n hr3 hf1 hr4 hg1).mp (hp98.1.nz c101))) hG hS ls (lv_sub hl [3, 4, 5, 6, 1, 0] rfl)
                    · refine lv_iload hx hb d_Mo_next_77 (lv_at hl 0 rfl) ?_
                      refine lv_bipush (v := 43) hx hb d_Mo_next_79 (by decide) ?_
                      refine lv_icmp_eq (tgt := 87) hx hb d_Mo_next_81 (by decide) (fun c81 => ?_) (fun c81 => ?_)
                      · refine lv_aload_n hx hb d_Mo_next_87 rfl (lv_at hl 1 rfl) ?_
                        refine zg_get (ci := 11) (C := "ZoneAnswersModel") (T := T_Mo) (N := 21) hx hb hts zi_Mo hown hK hG ha rfl 4 (by decide) (hts _ w_1285) (fun _ h9 => h9) rfl d_Mo_next_88 ?_
                        refine lv_iload hx hb d_Mo_next_91 (lv_at hl 6 rfl) ?_
                        refine zg_aldq hx hb hK hG 4 hm4 rfl (vp_in_nI (by omega) (by omega)) d_Mo_next_93 ?_
                        refine zr_as (y := fr i) (by rw [zi_n _ (by omega)]) ?_
                        refine zr_some (a := rA (re rs i)) (hfr i hin) ?_
                        refine zg_get (ci := 12) (C := "ZoneAnswersModel$Rec") (T := T_Re) (N := 5) hx hb hts zi_Re hown hK hG hr1 rfl 0 (by decide) (hts _ w_1265) (fun _ h9 => h9) rfl d_Mo_next_94 ?_
                        refine lv_aload_n hx hb d_Mo_next_97 rfl (lv_at hl 2 rfl) ?_
                        refine zk_i (va_runS (As := [.ref (rN (re rs i)), .ref b1]) (rest := []) ⟨hx, hb, hml, hown, hts⟩ (t_Ns_same l E G (rN (re rs i)) (np_len (rM (re rs i))) nf hr2 b1 (np_len ls1) f1 hb1 (by omega) (by omega)) (zcS 2 hts w_1405 w_1406 w_33 w_1407 (by decide +kernel) ⟨Nat.le_of_ble_eq_true rfl, Nat.le_of_ble_eq_true rfl⟩) (zc_pre hbase hK hN hQ hG hS) rfl rfl hl.1 rfl (lv_room (Nat.le_of_ble_eq_true rfl)) d_Mo_next_98 ⟨(by decide), (by decide)⟩) hS (fun r98 G98 H locs hp98 hG hS => ?_)
                        have hG : zP E G H := hp98.2 ▸ hG
                        refine lv_if_eq (tgt := 108) hx hb d_Mo_next_101 (by decide) (fun c101 => ?_) (fun c101 => ?_)
                        · refine lv_iinc (v := nI (i + 1)) (lv' := [(5, .int (nI (i + 1))), (6, .int (rT (re rs i))), (0, .ref a), (1, .ref b1), (2, .int u), (3, .int z), (4, .int w)]) hx hb d_Mo_next_108 hl (k := 6) rfl (nI_add i 1) (by decide) rfl (fun ls hl => ?_)
                          refine lv_goto (tgt := 28) hx hb d_Mo_next_111 (by decide) ?_
                          exact ih (i + 1) w _ _ (by omega) (by omega) (by first | exact rNx_n hnx (fun _ _ q => absurd q (Int32.not_lt.mpr c52)) | exact rNx_n hnx (fun _ _ _ => ⟨Int32.not_le.mp c57, c64⟩) | exact rNx_n hnx (fun _ q _ => absurd (q (hz.nz c68)) (fun z => z.elim c74 c81)) | exact rNx_n hnx (fun q _ _ => absurd ((zsm_n hr3 hf1 hr4 hg1).mpr q) (hp98.1.z c101)) | exact rNx_y hnx (hty _ (re_mem hin)) c52 (by first | exact Or.inl c57 | exact Or.inr (Int32.not_le.mp c64)) (by first | exact fun g => absurd g (hz.z c68) | exact fun _ => Or.inl c74 | exact fun _ => Or.inr c81) ((zsm_n hr3 hf1 hr4 hg1).mp (hp98.1.nz c101))) hG hS ls (lv_sub hl [2, 3, 4, 5, 6, 0] rfl)
                        · refine lv_iload hx hb d_Mo_next_104 (lv_at hl 0 rfl) ?_
                          refine lv_istore (lv' := [(4, .int (rT (re rs i))), (6, .int (rT (re rs i))), (0, .ref a), (1, .ref b1), (2, .int u), (3, .int z), (5, .int (nI i))]) hx hb d_Mo_next_106 hl (by decide) rfl (fun ls hl => ?_)
                          refine lv_iinc (v := nI (i + 1)) (lv' := [(5, .int (nI (i + 1))), (4, .int (rT (re rs i))), (6, .int (rT (re rs i))), (0, .ref a), (1, .ref b1), (2, .int u), (3, .int z)]) hx hb d_Mo_next_108 hl (k := 6) rfl (nI_add i 1) (by decide) rfl (fun ls hl => ?_)
                          refine lv_goto (tgt := 28) hx hb d_Mo_next_111 (by decide) ?_
                          exact ih (i + 1) (rT (re rs i)) _ _ (by omega) (by omega) (by first | exact rNx_n hnx (fun _ _ q => absurd q (Int32.not_lt.mpr c52)) | exact rNx_n hnx (fun _ _ _ => ⟨Int32.not_le.mp c57, c64⟩) | exact rNx_n hnx (fun _ q _ => absurd (q (hz.nz c68)) (fun z => z.elim c74 c81)) | exact rNx_n hnx (fun q _ _ => absurd ((zsm_n hr3 hf1 hr4 hg1).mpr q) (hp98.1.z c101)) | exact rNx_y hnx (hty _ (re_mem hin)) c52 (by first | exact Or.inl c57 | exact Or.inr (Int32.not_le.mp c64)) (by first | exact fun g => absurd g (hz.z c68) | exact fun _ => Or.inl c74 | exact fun _ => Or.inr c81) ((zsm_n hr3 hf1 hr4 hg1).mp (hp98.1.nz c101))) hG hS ls (lv_sub hl [3, 4, 5, 6, 1, 0] rfl)
                      · refine lv_goto (tgt := 108) hx hb d_Mo_next_84 (by decide) ?_
                        refine lv_iinc (v := nI (i + 1)) (lv' := [(5, .int (nI (i + 1))), (6, .int (rT (re rs i))), (0, .ref a), (1, .ref b1), (2, .int u), (3, .int z), (4, .int w)]) hx hb d_Mo_next_108 hl (k := 6) rfl (nI_add i 1) (by decide) rfl (fun ls hl => ?_)
                        refine lv_goto (tgt := 28) hx hb d_Mo_next_111 (by decide) ?_
                        exact ih (i + 1) w _ _ (by omega) (by omega) (by first | exact rNx_n hnx (fun _ _ q => absurd q (Int32.not_lt.mpr c52)) | exact rNx_n hnx (fun _ _ _ => ⟨Int32.not_le.mp c57, c64⟩) | exact rNx_n hnx (fun _ q _ => absurd (q (hz.nz c68)) (fun z => z.elim c74 c81)) | exact rNx_n hnx (fun q _ _ => absurd ((zsm_n hr3 hf1 hr4 hg1).mpr q) (hp98.1.z c101)) | exact rNx_y hnx (hty _ (re_mem hin)) c52 (by first | exact Or.inl c57 | exact Or.inr (Int32.not_le.mp c64)) (by first | exact fun g => absurd g (hz.z c68) | exact fun _ => Or.inl c74 | exact fun _ => Or.inr c81) ((zsm_n hr3 hf1 hr4 hg1).mp (hp98.1.nz c101))) hG hS ls (lv_sub hl [2, 3, 4, 5, 6, 0] rfl)
      exact loop28 _ 0 47 _ _ (Nat.lt_succ_self _) (Nat.zero_le _) (by first | exact rNx_01 (Int32.not_le.mp c3) | exact rNx_02 (Int32.not_lt.mpr c3) (Int32.not_le.mp c14) | exact rNx_03 (Int32.not_lt.mpr c14)) hG hS ls (lv_sub hl [2, 3, 4, 5, 1, 0] rfl)
  · refine lv_bipush (v := 46) hx hb d_Mo_next_6 (by decide) ?_
    refine lv_goto (tgt := 23) hx hb d_Mo_next_8 (by decide) ?_
    refine lv_istore (lv' := [(4, .int 46), (0, .ref a), (1, .ref b1), (2, .int u), (3, .int z)]) hx hb d_Mo_next_23 hl (by decide) rfl (fun ls hl => ?_)
    refine lv_iconst (v := 0) hx hb d_Mo_next_25 (by decide) ?_
    refine zi_as (y := nI 0) (nI_0.symm) ?_
    refine lv_istore (lv' := [(5, .int (nI 0)), (4, .int 46), (0, .ref a), (1, .ref b1), (2, .int u), (3, .int z)]) hx hb d_Mo_next_26 hl (by decide) rfl (fun ls hl => ?_)
    have loop28 : ∀ (N : Nat) (i : Nat) (w : Int32) (H : Heap) (locs : List Loc), (rs.length - i) < N → (i ≤ rs.length) → (rNx (rTy rs ls1 gv i) u w) → zP E G H → zg_S (zc_b E) s.heap H locs → ∀ (ls : Array Slot), lv_has ls 7 [(0, .ref a), (1, .ref b1), (2, .int u), (3, .int z), (4, .int w), (5, .int (nI i))] → W p l e rm_Mo_next s m args below meth c H locs 0 0 Q (F0 m 28 ls []) := by
      intro N
      induction N with
      | zero =>
        intro i w H locs hlt
        exact absurd hlt (Nat.not_lt_zero _)
      | succ N ih =>
        intro i w H locs hlt hi hnx hG hS ls hl
        refine lv_iload hx hb d_Mo_next_28 (lv_at hl 5 rfl) ?_
        refine lv_aload_n hx hb d_Mo_next_30 rfl (lv_at hl 0 rfl) ?_
        refine zg_get (ci := 11) (C := "ZoneAnswersModel") (T := T_Mo) (N := 21) hx hb hts zi_Mo hown hK hG ha rfl 5 (by decide) (hts _ w_1286) (fun _ h9 => h9) rfl d_Mo_next_31 ?_
        refine lv_icmp_ge (tgt := 114) hx hb d_Mo_next_34 (by decide) (fun c34 => ?_) (fun c34 => ?_)
        · have b34 : rs.length ≤ i := (nI_leI (a := rs.length) (b := i) (by omega) (by omega)).mp c34
          refine lv_iload hx hb d_Mo_next_114 (lv_at hl 4 rfl) ?_
          exact hret _ _ _ _ _ _ _ _ _ hr (rfl) (⟨by rw [show rs.length = i by omega]; exact hnx, rfl⟩) hG hS (Nat.le_refl _) (Nat.le_refl _) d_Mo_next_116
        · have b34 : ¬ rs.length ≤ i := fun q => c34 ((nI_leI (a := rs.length) (b := i) (by omega) (by omega)).mpr q)
          have hin : i < rs.length := by omega
          obtain ⟨hr1, ⟨nf, hr2, hr3, hr4, hr5⟩, df, hr6, hr7, hr8⟩ := hRs _ (re_mem hin)
          have sm := hr4.2
          refine lv_aload_n hx hb d_Mo_next_37 rfl (lv_at hl 0 rfl) ?_
          refine zg_get (ci := 11) (C := "ZoneAnswersModel") (T := T_Mo) (N := 21) hx hb hts zi_Mo hown hK hG ha rfl 4 (by decide) (hts _ w_1285) (fun _ h9 => h9) rfl d_Mo_next_38 ?_
          refine lv_iload hx hb d_Mo_next_41 (lv_at hl 5 rfl) ?_
          refine zg_aldq hx hb hK hG 4 hm4 rfl (vp_in_nI (by omega) (by omega)) d_Mo_next_43 ?_
          refine zr_as (y := fr i) (by rw [zi_n _ (by omega)]) ?_
          refine zr_some (a := rA (re rs i)) (hfr i hin) ?_
          refine zg_get (ci := 12) (C := "ZoneAnswersModel$Rec") (T := T_Re) (N := 5) hx hb hts zi_Re hown hK hG hr1 rfl 3 (by decide) (hts _ w_1268) (fun _ h9 => h9) rfl d_Mo_next_44 ?_
          refine lv_istore (lv' := [(6, .int (rT (re rs i))), (0, .ref a), (1, .ref b1), (2, .int u), (3, .int z), (4, .int w), (5, .int (nI i))]) hx hb d_Mo_next_47 hl (by decide) rfl (fun ls hl => ?_)
          refine lv_iload hx hb d_Mo_next_49 (lv_at hl 0 rfl) ?_
          refine lv_iload_n hx hb d_Mo_next_51 rfl (lv_at hl 3 rfl) ?_
          refine lv_icmp_le (tgt := 108) hx hb d_Mo_next_52 (by decide) (fun c52 => ?_) (fun c52 => ?_)
          · refine lv_iinc (v := nI (i + 1)) (lv' := [(5, .int (nI (i + 1))), (6, .int (rT (re rs i))), (0, .ref a), (1, .ref b1), (2, .int u), (3, .int z), (4, .int w)]) hx hb d_Mo_next_108 hl (k := 6) rfl (nI_add i 1) (by decide) rfl (fun ls hl => ?_)
            refine lv_goto (tgt := 28) hx hb d_Mo_next_111 (by decide) ?_
            exact ih (i + 1) w _ _ (by omega) (by omega) (by first | exact rNx_n hnx (fun _ _ q => absurd q (Int32.not_lt.mpr c52)) | exact rNx_n hnx (fun _ _ _ => ⟨Int32.not_le.mp c57, c64⟩) | exact rNx_n hnx (fun _ q _ => absurd (q (hz.nz c68)) (fun z => z.elim c74 c81)) | exact rNx_n hnx (fun q _ _ => absurd ((zsm_n hr3 hf1 hr4 hg1).mpr q) (hp98.1.z c101)) | exact rNx_y hnx (hty _ (re_mem hin)) c52 (by first | exact Or.inl c57 | exact Or.inr (Int32.not_le.mp c64)) (by first | exact fun g => absurd g (hz.z c68) | exact fun _ => Or.inl c74 | exact fun _ => Or.inr c81) ((zsm_n hr3 hf1 hr4 hg1).mp (hp98.1.nz c101))) hG hS ls (lv_sub hl [2, 3, 4, 5, 6, 0] rfl)
          · refine lv_iload hx hb d_Mo_next_55 (lv_at hl 5 rfl) ?_
            refine lv_if_le (tgt := 67) hx hb d_Mo_next_57 (by decide) (fun c57 => ?_) (fun c57 => ?_)
            · refine lv_iload_n hx hb d_Mo_next_67 rfl (lv_at hl 4 rfl) ?_
              refine lv_if_eq (tgt := 87) hx hb d_Mo_next_68 (by decide) (fun c68 => ?_) (fun c68 => ?_)
              · refine lv_aload_n hx hb d_Mo_next_87 rfl (lv_at hl 1 rfl) ?_
                refine zg_get (ci := 11) (C := "ZoneAnswersModel") (T := T_Mo) (N := 21) hx hb hts zi_Mo hown hK hG ha rfl 4 (by decide) (hts _ w_1285) (fun _ h9 => h9) rfl d_Mo_next_88 ?_
                refine lv_iload hx hb d_Mo_next_91 (lv_at hl 6 rfl) ?_
                refine zg_aldq hx hb hK hG 4 hm4 rfl (vp_in_nI (by omega) (by omega)) d_Mo_next_93 ?_
                refine zr_as (y := fr i) (by rw [zi_n _ (by omega)]) ?_
                refine zr_some (a := rA (re rs i)) (hfr i hin) ?_
                refine zg_get (ci := 12) (C := "ZoneAnswersModel$Rec") (T := T_Re) (N := 5) hx hb hts zi_Re hown hK hG hr1 rfl 0 (by decide) (hts _ w_1265) (fun _ h9 => h9) rfl d_Mo_next_94 ?_
                refine lv_aload_n hx hb d_Mo_next_97 rfl (lv_at hl 2 rfl) ?_
                refine zk_i (va_runS (As := [.ref (rN (re rs i)), .ref b1]) (rest := []) ⟨hx, hb, hml, hown, hts⟩ (t_Ns_same l E G (rN (re rs i)) (np_len (rM (re rs i))) nf hr2 b1 (np_len ls1) f1 hb1 (by omega) (by omega)) (zcS 2 hts w_1405 w_1406 w_33 w_1407 (by decide +kernel) ⟨Nat.le_of_ble_eq_true rfl, Nat.le_of_ble_eq_true rfl⟩) (zc_pre hbase hK hN hQ hG hS) rfl rfl hl.1 rfl (lv_room (Nat.le_of_ble_eq_true rfl)) d_Mo_next_98 ⟨(by decide), (by decide)⟩) hS (fun r98 G98 H locs hp98 hG hS => ?_)
                have hG : zP E G H := hp98.2 ▸ hG
                refine lv_if_eq (tgt := 108) hx hb d_Mo_next_101 (by decide) (fun c101 => ?_) (fun c101 => ?_)
                · refine lv_iinc (v := nI (i + 1)) (lv' := [(5, .int (nI (i + 1))), (6, .int (rT (re rs i))), (0, .ref a), (1, .ref b1), (2, .int u), (3, .int z), (4, .int w)]) hx hb d_Mo_next_108 hl (k := 6) rfl (nI_add i 1) (by decide) rfl (fun ls hl => ?_)
                  refine lv_goto (tgt := 28) hx hb d_Mo_next_111 (by decide) ?_
                  exact ih (i + 1) w _ _ (by omega) (by omega) (by first | exact rNx_n hnx (fun _ _ q => absurd q (Int32.not_lt.mpr c52)) | exact rNx_n hnx (fun _ _ _ => ⟨Int32.not_le.mp c57, c64⟩) | exact rNx_n hnx (fun _ q _ => absurd (q (hz.nz c68)) (fun z => z.elim c74 c81)) | exact rNx_n hnx (fun q _ _ => absurd ((zsm_n hr3 hf1 hr4 hg1).mpr q) (hp98.1.z c101)) | exact rNx_y hnx (hty _ (re_mem hin)) c52 (by first | exact Or.inl c57 | exact Or.inr (Int32.not_le.mp c64)) (by first | exact fun g => absurd g (hz.z c68) | exact fun _ => Or.inl c74 | exact fun _ => Or.inr c81) ((zsm_n hr3 hf1 hr4 hg1).mp (hp98.1.nz c101))) hG hS ls (lv_sub hl [2, 3, 4, 5, 6, 0] rfl)
                · refine lv_iload hx hb d_Mo_next_104 (lv_at hl 0 rfl) ?_
                  refine lv_istore (lv' := [(4, .int (rT (re rs i))), (6, .int (rT (re rs i))), (0, .ref a), (1, .ref b1), (2, .int u), (3, .int z), (5, .int (nI i))]) hx hb d_Mo_next_106 hl (by decide) rfl (fun ls hl => ?_)
                  refine lv_iinc (v := nI (i + 1)) (lv' := [(5, .int (nI (i + 1))), (4, .int (rT (re rs i))), (6, .int (rT (re rs i))), (0, .ref a), (1, .ref b1), (2, .int u), (3, .int z)]) hx hb d_Mo_next_108 hl (k := 6) rfl (nI_add i 1) (by decide) rfl (fun ls hl => ?_)
                  refine lv_goto (tgt := 28) hx hb d_Mo_next_111 (by decide) ?_
                  exact ih (i + 1) (rT (re rs i)) _ _ (by omega) (by omega) (by first | exact rNx_n hnx (fun _ _ q => absurd q (Int32.not_lt.mpr c52)) | exact rNx_n hnx (fun _ _ _ => ⟨Int32.not_le.mp c57, c64⟩) | exact rNx_n hnx (fun _ q _ => absurd (q (hz.nz c68)) (fun z => z.elim c74 c81)) | exact rNx_n hnx (fun q _ _ => absurd ((zsm_n hr3 hf1 hr4 hg1).mpr q) (hp98.1.z c101)) | exact rNx_y hnx (hty _ (re_mem hin)) c52 (by first | exact Or.inl c57 | exact Or.inr (Int32.not_le.mp c64)) (by first | exact fun g => absurd g (hz.z c68) | exact fun _ => Or.inl c74 | exact fun _ => Or.inr c81) ((zsm_n hr3 hf1 hr4 hg1).mp (hp98.1.nz c101))) hG hS ls (lv_sub hl [3, 4, 5, 6, 1, 0] rfl)
              · refine lv_iload hx hb d_Mo_next_71 (lv_at hl 0 rfl) ?_
                refine lv_iconst (v := 2) hx hb d_Mo_next_73 (by decide) ?_
                refine lv_icmp_eq (tgt := 87) hx hb d_Mo_next_74 (by decide) (fun c74 => ?_) (fun c74 => ?_)
                · refine lv_aload_n hx hb d_Mo_next_87 rfl (lv_at hl 1 rfl) ?_
                  refine zg_get (ci := 11) (C := "ZoneAnswersModel") (T := T_Mo) (N := 21) hx hb hts zi_Mo hown hK hG ha rfl 4 (by decide) (hts _ w_1285) (fun _ h9 => h9) rfl d_Mo_next_88 ?_
                  refine lv_iload hx hb d_Mo_next_91 (lv_at hl 6 rfl) ?_
                  refine zg_aldq hx hb hK hG 4 hm4 rfl (vp_in_nI (by omega) (by omega)) d_Mo_next_93 ?_
                  refine zr_as (y := fr i) (by rw [zi_n _ (by omega)]) ?_
                  refine zr_some (a := rA (re rs i)) (hfr i hin) ?_
                  refine zg_get (ci := 12) (C := "ZoneAnswersModel$Rec") (T := T_Re) (N := 5) hx hb hts zi_Re hown hK hG hr1 rfl 0 (by decide) (hts _ w_1265) (fun _ h9 => h9) rfl d_Mo_next_94 ?_
                  refine lv_aload_n hx hb d_Mo_next_97 rfl (lv_at hl 2 rfl) ?_
                  refine zk_i (va_runS (As := [.ref (rN (re rs i)), .ref b1]) (rest := []) ⟨hx, hb, hml, hown, hts⟩ (t_Ns_same l E G (rN (re rs i)) (np_len (rM (re rs i))) nf hr2 b1 (np_len ls1) f1 hb1 (by omega) (by omega)) (zcS 2 hts w_1405 w_1406 w_33 w_1407 (by decide +kernel) ⟨Nat.le_of_ble_eq_true rfl, Nat.le_of_ble_eq_true rfl⟩) (zc_pre hbase hK hN hQ hG hS) rfl rfl hl.1 rfl (lv_room (Nat.le_of_ble_eq_true rfl)) d_Mo_next_98 ⟨(by decide), (by decide)⟩) hS (fun r98 G98 H locs hp98 hG hS => ?_)
                  have hG : zP E G H := hp98.2 ▸ hG
                  refine lv_if_eq (tgt := 108) hx hb d_Mo_next_101 (by decide) (fun c101 => ?_) (fun c101 => ?_)
                  · refine lv_iinc (v := nI (i + 1)) (lv' := [(5, .int (nI (i + 1))), (6, .int (rT (re rs i))), (0, .ref a), (1, .ref b1), (2, .int u), (3, .int z), (4, .int w)]) hx hb d_Mo_next_108 hl (k := 6) rfl (nI_add i 1) (by decide) rfl (fun ls hl => ?_)
                    refine lv_goto (tgt := 28) hx hb d_Mo_next_111 (by decide) ?_
                    exact ih (i + 1) w _ _ (by omega) (by omega) (by first | exact rNx_n hnx (fun _ _ q => absurd q (Int32.not_lt.mpr c52)) | exact rNx_n hnx (fun _ _ _ => ⟨Int32.not_le.mp c57, c64⟩) | exact rNx_n hnx (fun _ q _ => absurd (q (hz.nz c68)) (fun z => z.elim c74 c81)) | exact rNx_n hnx (fun q _ _ => absurd ((zsm_n hr3 hf1 hr4 hg1).mpr q) (hp98.1.z c101)) | exact rNx_y hnx (hty _ (re_mem hin)) c52 (by first | exact Or.inl c57 | exact Or.inr (Int32.not_le.mp c64)) (by first | exact fun g => absurd g (hz.z c68) | exact fun _ => Or.inl c74 | exact fun _ => Or.inr c81) ((zsm_n hr3 hf1 hr4 hg1).mp (hp98.1.nz c101))) hG hS ls (lv_sub hl [2, 3, 4, 5, 6, 0] rfl)
                  · refine lv_iload hx hb d_Mo_next_104 (lv_at hl 0 rfl) ?_
                    refine lv_istore (lv' := [(4, .int (rT (re rs i))), (6, .int (rT (re rs i))), (0, .ref a), (1, .ref b1), (2, .int u), (3, .int z), (5, .int (nI i))]) hx hb d_Mo_next_106 hl (by decide) rfl (fun ls hl => ?_)
                    refine lv_iinc (v := nI (i + 1)) (lv' := [(5, .int (nI (i + 1))), (4, .int (rT (re rs i))), (6, .int (rT (re rs i))), (0, .ref a), (1, .ref b1), (2, .int u), (3, .int z)]) hx hb d_Mo_next_108 hl (k := 6) rfl (nI_add i 1) (by decide) rfl (fun ls hl => ?_)
                    refine lv_goto (tgt := 28) hx hb d_Mo_next_111 (by decide) ?_
                    exact ih (i + 1) (rT (re rs i)) _ _ (by omega) (by omega) (by first | exact rNx_n hnx (fun _ _ q => absurd q (Int32.not_lt.mpr c52)) | exact rNx_n hnx (fun _ _ _ => ⟨Int32.not_le.mp c57, c64⟩) | exact rNx_n hnx (fun _ q _ => absurd (q (hz.nz c68)) (fun z => z.elim c74 c81)) | exact rNx_n hnx (fun q _ _ => absurd ((zsm_n hr3 hf1 hr4 hg1).mpr q) (hp98.1.z c101)) | exact rNx_y hnx (hty _ (re_mem hin)) c52 (by first | exact Or.inl c57 | exact Or.inr (Int32.not_le.mp c64)) (by first | exact fun g => absurd g (hz.z c68) | exact fun _ => Or.inl c74 | exact fun _ => Or.inr c81) ((zsm_n hr3 hf1 hr4 hg1).mp (hp98.1.nz c101))) hG hS ls (lv_sub hl [3, 4, 5, 6, 1, 0] rfl)
                · refine lv_iload hx hb d_Mo_next_77 (lv_at hl 0 rfl) ?_
                  refine lv_bipush (v := 43) hx hb d_Mo_next_79 (by decide) ?_
                  refine lv_icmp_eq (tgt := 87) hx hb d_Mo_next_81 (by decide) (fun c81 => ?_) (fun c81 => ?_)
                  · refine lv_aload_n hx hb d_Mo_next_87 rfl (lv_at hl 1 rfl) ?_
                    refine zg_get (ci := 11) (C := "ZoneAnswersModel") (T := T_Mo) (N := 21) hx hb hts zi_Mo hown hK hG ha rfl 4 (by decide) (hts _ w_1285) (fun _ h9 => h9) rfl d_Mo_next_88 ?_
                    refine lv_iload hx hb d_Mo_next_91 (lv_at hl 6 rfl) ?_
                    refine zg_aldq hx hb hK hG 4 hm4 rfl (vp_in_nI (by omega) (by omega)) d_Mo_next_93 ?_
                    refine zr_as (y := fr i) (by rw [zi_n _ (by omega)]) ?_
                    refine zr_some (a := rA (re rs i)) (hfr i hin) ?_
                    refine zg_get (ci := 12) (C := "ZoneAnswersModel$Rec") (T := T_Re) (N := 5) hx hb hts zi_Re hown hK hG hr1 rfl 0 (by decide) (hts _ w_1265) (fun _ h9 => h9) rfl d_Mo_next_94 ?_
                    refine lv_aload_n hx hb d_Mo_next_97 rfl (lv_at hl 2 rfl) ?_
                    refine zk_i (va_runS (As := [.ref (rN (re rs i)), .ref b1]) (rest := []) ⟨hx, hb, hml, hown, hts⟩ (t_Ns_same l E G (rN (re rs i)) (np_len (rM (re rs i))) nf hr2 b1 (np_len ls1) f1 hb1 (by omega) (by omega)) (zcS 2 hts w_1405 w_1406 w_33 w_1407 (by decide +kernel) ⟨Nat.le_of_ble_eq_true rfl, Nat.le_of_ble_eq_true rfl⟩) (zc_pre hbase hK hN hQ hG hS) rfl rfl hl.1 rfl (lv_room (Nat.le_of_ble_eq_true rfl)) d_Mo_next_98 ⟨(by decide), (by decide)⟩) hS (fun r98 G98 H locs hp98 hG hS => ?_)
                    have hG : zP E G H := hp98.2 ▸ hG
                    refine lv_if_eq (tgt := 108) hx hb d_Mo_next_101 (by decide) (fun c101 => ?_) (fun c101 => ?_)
                    · refine lv_iinc (v := nI (i + 1)) (lv' := [(5, .int (nI (i + 1))), (6, .int (rT (re rs i))), (0, .ref a), (1, .ref b1), (2, .int u), (3, .int z), (4, .int w)]) hx hb d_Mo_next_108 hl (k := 6) rfl (nI_add i 1) (by decide) rfl (fun ls hl => ?_)
                      refine lv_goto (tgt := 28) hx hb d_Mo_next_111 (by decide) ?_
                      exact ih (i + 1) w _ _ (by omega) (by omega) (by first | exact rNx_n hnx (fun _ _ q => absurd q (Int32.not_lt.mpr c52)) | exact rNx_n hnx (fun _ _ _ => ⟨Int32.not_le.mp c57, c64⟩) | exact rNx_n hnx (fun _ q _ => absurd (q (hz.nz c68)) (fun z => z.elim c74 c81)) | exact rNx_n hnx (fun q _ _ => absurd ((zsm_n hr3 hf1 hr4 hg1).mpr q) (hp98.1.z c101)) | exact rNx_y hnx (hty _ (re_mem hin)) c52 (by first | exact Or.inl c57 | exact Or.inr (Int32.not_le.mp c64)) (by first | exact fun g => absurd g (hz.z c68) | exact fun _ => Or.inl c74 | exact fun _ => Or.inr c81) ((zsm_n hr3 hf1 hr4 hg1).mp (hp98.1.nz c101))) hG hS ls (lv_sub hl [2, 3, 4, 5, 6, 0] rfl)
                    · refine lv_iload hx hb d_Mo_next_104 (lv_at hl 0 rfl) ?_
                      refine lv_istore (lv' := [(4, .int (rT (re rs i))), (6, .int (rT (re rs i))), (0, .ref a), (1, .ref b1), (2, .int u), (3, .int z), (5, .int (nI i))]) hx hb d_Mo_next_106 hl (by decide) rfl (fun ls hl => ?_)
                      refine lv_iinc (v := nI (i + 1)) (lv' := [(5, .int (nI (i + 1))), (4, .int (rT (re rs i))), (6, .int (rT (re rs i))), (0, .ref a), (1, .ref b1), (2, .int u), (3, .int z)]) hx hb d_Mo_next_108 hl (k := 6) rfl (nI_add i 1) (by decide) rfl (fun ls hl => ?_)
                      refine lv_goto (tgt := 28) hx hb d_Mo_next_111 (by decide) ?_
                      exact ih (i + 1) (rT (re rs i)) _ _ (by omega) (by omega) (by first | exact rNx_n hnx (fun _ _ q => absurd q (Int32.not_lt.mpr c52)) | exact rNx_n hnx (fun _ _ _ => ⟨Int32.not_le.mp c57, c64⟩) | exact rNx_n hnx (fun _ q _ => absurd (q (hz.nz c68)) (fun z => z.elim c74 c81)) | exact rNx_n hnx (fun q _ _ => absurd ((zsm_n hr3 hf1 hr4 hg1).mpr q) (hp98.1.z c101)) | exact rNx_y hnx (hty _ (re_mem hin)) c52 (by first | exact Or.inl c57 | exact Or.inr (Int32.not_le.mp c64)) (by first | exact fun g => absurd g (hz.z c68) | exact fun _ => Or.inl c74 | exact fun _ => Or.inr c81) ((zsm_n hr3 hf1 hr4 hg1).mp (hp98.1.nz c101))) hG hS ls (lv_sub hl [3, 4, 5, 6, 1, 0] rfl)
                  · refine lv_goto (tgt := 108) hx hb d_Mo_next_84 (by decide) ?_
                    refine lv_iinc (v := nI (i + 1)) (lv' := [(5, .int (nI (i + 1))), (6, .int (rT (re rs i))), (0, .ref a), (1, .ref b1), (2, .int u), (3, .int z), (4, .int w)]) hx hb d_Mo_next_108 hl (k := 6) rfl (nI_add i 1) (by decide) rfl (fun ls hl => ?_)
                    refine lv_goto (tgt := 28) hx hb d_Mo_next_111 (by decide) ?_
                    exact ih (i + 1) w _ _ (by omega) (by omega) (by first | exact rNx_n hnx (fun _ _ q => absurd q (Int32.not_lt.mpr c52)) | exact rNx_n hnx (fun _ _ _ => ⟨Int32.not_le.mp c57, c64⟩) | exact rNx_n hnx (fun _ q _ => absurd (q (hz.nz c68)) (fun z => z.elim c74 c81)) | exact rNx_n hnx (fun q _ _ => absurd ((zsm_n hr3 hf1 hr4 hg1).mpr q) (hp98.1.z c101)) | exact rNx_y hnx (hty _ (re_mem hin)) c52 (by first | exact Or.inl c57 | exact Or.inr (Int32.not_le.mp c64)) (by first | exact fun g => absurd g (hz.z c68) | exact fun _ => Or.inl c74 | exact fun _ => Or.inr c81) ((zsm_n hr3 hf1 hr4 hg1).mp (hp98.1.nz c101))) hG hS ls (lv_sub hl [2, 3, 4, 5, 6, 0] rfl)
            · refine lv_iload hx hb d_Mo_next_60 (lv_at hl 0 rfl) ?_
              refine lv_iload hx hb d_Mo_next_62 (lv_at hl 5 rfl) ?_
              refine lv_icmp_ge (tgt := 108) hx hb d_Mo_next_64 (by decide) (fun c64 => ?_) (fun c64 => ?_)
              · refine lv_iinc (v := nI (i + 1)) (lv' := [(5, .int (nI (i + 1))), (6, .int (rT (re rs i))), (0, .ref a), (1, .ref b1), (2, .int u), (3, .int z), (4, .int w)]) hx hb d_Mo_next_108 hl (k := 6) rfl (nI_add i 1) (by decide) rfl (fun ls hl => ?_)
                refine lv_goto (tgt := 28) hx hb d_Mo_next_111 (by decide) ?_
                exact ih (i + 1) w _ _ (by omega) (by omega) (by first | exact rNx_n hnx (fun _ _ q => absurd q (Int32.not_lt.mpr c52)) | exact rNx_n hnx (fun _ _ _ => ⟨Int32.not_le.mp c57, c64⟩) | exact rNx_n hnx (fun _ q _ => absurd (q (hz.nz c68)) (fun z => z.elim c74 c81)) | exact rNx_n hnx (fun q _ _ => absurd ((zsm_n hr3 hf1 hr4 hg1).mpr q) (hp98.1.z c101)) | exact rNx_y hnx (hty _ (re_mem hin)) c52 (by first | exact Or.inl c57 | exact Or.inr (Int32.not_le.mp c64)) (by first | exact fun g => absurd g (hz.z c68) | exact fun _ => Or.inl c74 | exact fun _ => Or.inr c81) ((zsm_n hr3 hf1 hr4 hg1).mp (hp98.1.nz c101))) hG hS ls (lv_sub hl [2, 3, 4, 5, 6, 0] rfl)
              · refine lv_iload_n hx hb d_Mo_next_67 rfl (lv_at hl 4 rfl) ?_
                refine lv_if_eq (tgt := 87) hx hb d_Mo_next_68 (by decide) (fun c68 => ?_) (fun c68 => ?_)
                · refine lv_aload_n hx hb d_Mo_next_87 rfl (lv_at hl 1 rfl) ?_
                  refine zg_get (ci := 11) (C := "ZoneAnswersModel") (T := T_Mo) (N := 21) hx hb hts zi_Mo hown hK hG ha rfl 4 (by decide) (hts _ w_1285) (fun _ h9 => h9) rfl d_Mo_next_88 ?_
                  refine lv_iload hx hb d_Mo_next_91 (lv_at hl 6 rfl) ?_
                  refine zg_aldq hx hb hK hG 4 hm4 rfl (vp_in_nI (by omega) (by omega)) d_Mo_next_93 ?_
                  refine zr_as (y := fr i) (by rw [zi_n _ (by omega)]) ?_
                  refine zr_some (a := rA (re rs i)) (hfr i hin) ?_
                  refine zg_get (ci := 12) (C := "ZoneAnswersModel$Rec") (T := T_Re) (N := 5) hx hb hts zi_Re hown hK hG hr1 rfl 0 (by decide) (hts _ w_1265) (fun _ h9 => h9) rfl d_Mo_next_94 ?_
                  refine lv_aload_n hx hb d_Mo_next_97 rfl (lv_at hl 2 rfl) ?_
                  refine zk_i (va_runS (As := [.ref (rN (re rs i)), .ref b1]) (rest := []) ⟨hx, hb, hml, hown, hts⟩ (t_Ns_same l E G (rN (re rs i)) (np_len (rM (re rs i))) nf hr2 b1 (np_len ls1) f1 hb1 (by omega) (by omega)) (zcS 2 hts w_1405 w_1406 w_33 w_1407 (by decide +kernel) ⟨Nat.le_of_ble_eq_true rfl, Nat.le_of_ble_eq_true rfl⟩) (zc_pre hbase hK hN hQ hG hS) rfl rfl hl.1 rfl (lv_room (Nat.le_of_ble_eq_true rfl)) d_Mo_next_98 ⟨(by decide), (by decide)⟩) hS (fun r98 G98 H locs hp98 hG hS => ?_)
                  have hG : zP E G H := hp98.2 ▸ hG
                  refine lv_if_eq (tgt := 108) hx hb d_Mo_next_101 (by decide) (fun c101 => ?_) (fun c101 => ?_)
                  · refine lv_iinc (v := nI (i + 1)) (lv' := [(5, .int (nI (i + 1))), (6, .int (rT (re rs i))), (0, .ref a), (1, .ref b1), (2, .int u), (3, .int z), (4, .int w)]) hx hb d_Mo_next_108 hl (k := 6) rfl (nI_add i 1) (by decide) rfl (fun ls hl => ?_)
                    refine lv_goto (tgt := 28) hx hb d_Mo_next_111 (by decide) ?_
                    exact ih (i + 1) w _ _ (by omega) (by omega) (by first | exact rNx_n hnx (fun _ _ q => absurd q (Int32.not_lt.mpr c52)) | exact rNx_n hnx (fun _ _ _ => ⟨Int32.not_le.mp c57, c64⟩) | exact rNx_n hnx (fun _ q _ => absurd (q (hz.nz c68)) (fun z => z.elim c74 c81)) | exact rNx_n hnx (fun q _ _ => absurd ((zsm_n hr3 hf1 hr4 hg1).mpr q) (hp98.1.z c101)) | exact rNx_y hnx (hty _ (re_mem hin)) c52 (by first | exact Or.inl c57 | exact Or.inr (Int32.not_le.mp c64)) (by first | exact fun g => absurd g (hz.z c68) | exact fun _ => Or.inl c74 | exact fun _ => Or.inr c81) ((zsm_n hr3 hf1 hr4 hg1).mp (hp98.1.nz c101))) hG hS ls (lv_sub hl [2, 3, 4, 5, 6, 0] rfl)
                  · refine lv_iload hx hb d_Mo_next_104 (lv_at hl 0 rfl) ?_
                    refine lv_istore (lv' := [(4, .int (rT (re rs i))), (6, .int (rT (re rs i))), (0, .ref a), (1, .ref b1), (2, .int u), (3, .int z), (5, .int (nI i))]) hx hb d_Mo_next_106 hl (by decide) rfl (fun ls hl => ?_)
                    refine lv_iinc (v := nI (i + 1)) (lv' := [(5, .int (nI (i + 1))), (4, .int (rT (re rs i))), (6, .int (rT (re rs i))), (0, .ref a), (1, .ref b1), (2, .int u), (3, .int z)]) hx hb d_Mo_next_108 hl (k := 6) rfl (nI_add i 1) (by decide) rfl (fun ls hl => ?_)
                    refine lv_goto (tgt := 28) hx hb d_Mo_next_111 (by decide) ?_
                    exact ih (i + 1) (rT (re rs i)) _ _ (by omega) (by omega) (by first | exact rNx_n hnx (fun _ _ q => absurd q (Int32.not_lt.mpr c52)) | exact rNx_n hnx (fun _ _ _ => ⟨Int32.not_le.mp c57, c64⟩) | exact rNx_n hnx (fun _ q _ => absurd (q (hz.nz c68)) (fun z => z.elim c74 c81)) | exact rNx_n hnx (fun q _ _ => absurd ((zsm_n hr3 hf1 hr4 hg1).mpr q) (hp98.1.z c101)) | exact rNx_y hnx (hty _ (re_mem hin)) c52 (by first | exact Or.inl c57 | exact Or.inr (Int32.not_le.mp c64)) (by first | exact fun g => absurd g (hz.z c68) | exact fun _ => Or.inl c74 | exact fun _ => Or.inr c81) ((zsm_n hr3 hf1 hr4 hg1).mp (hp98.1.nz c101))) hG hS ls (lv_sub hl [3, 4, 5, 6, 1, 0] rfl)
                · refine lv_iload hx hb d_Mo_next_71 (lv_at hl 0 rfl) ?_
                  refine lv_iconst (v := 2) hx hb d_Mo_next_73 (by decide) ?_
                  refine lv_icmp_eq (tgt := 87) hx hb d_Mo_next_74 (by decide) (fun c74 => ?_) (fun c74 => ?_)
                  · refine lv_aload_n hx hb d_Mo_next_87 rfl (lv_at hl 1 rfl) ?_
                    refine zg_get (ci := 11) (C := "ZoneAnswersModel") (T := T_Mo) (N := 21) hx hb hts zi_Mo hown hK hG ha rfl 4 (by decide) (hts _ w_1285) (fun _ h9 => h9) rfl d_Mo_next_88 ?_
                    refine lv_iload hx hb d_Mo_next_91 (lv_at hl 6 rfl) ?_
                    refine zg_aldq hx hb hK hG 4 hm4 rfl (vp_in_nI (by omega) (by omega)) d_Mo_next_93 ?_
                    refine zr_as (y := fr i) (by rw [zi_n _ (by omega)]) ?_
                    refine zr_some (a := rA (re rs i)) (hfr i hin) ?_
                    refine zg_get (ci := 12) (C := "ZoneAnswersModel$Rec") (T := T_Re) (N := 5) hx hb hts zi_Re hown hK hG hr1 rfl 0 (by decide) (hts _ w_1265) (fun _ h9 => h9) rfl d_Mo_next_94 ?_
                    refine lv_aload_n hx hb d_Mo_next_97 rfl (lv_at hl 2 rfl) ?_
                    refine zk_i (va_runS (As := [.ref (rN (re rs i)), .ref b1]) (rest := []) ⟨hx, hb, hml, hown, hts⟩ (t_Ns_same l E G (rN (re rs i)) (np_len (rM (re rs i))) nf hr2 b1 (np_len ls1) f1 hb1 (by omega) (by omega)) (zcS 2 hts w_1405 w_1406 w_33 w_1407 (by decide +kernel) ⟨Nat.le_of_ble_eq_true rfl, Nat.le_of_ble_eq_true rfl⟩) (zc_pre hbase hK hN hQ hG hS) rfl rfl hl.1 rfl (lv_room (Nat.le_of_ble_eq_true rfl)) d_Mo_next_98 ⟨(by decide), (by decide)⟩) hS (fun r98 G98 H locs hp98 hG hS => ?_)
                    have hG : zP E G H := hp98.2 ▸ hG
                    refine lv_if_eq (tgt := 108) hx hb d_Mo_next_101 (by decide) (fun c101 => ?_) (fun c101 => ?_)
                    · refine lv_iinc (v := nI (i + 1)) (lv' := [(5, .int (nI (i + 1))), (6, .int (rT (re rs i))), (0, .ref a), (1, .ref b1), (2, .int u), (3, .int z), (4, .int w)]) hx hb d_Mo_next_108 hl (k := 6) rfl (nI_add i 1) (by decide) rfl (fun ls hl => ?_)
                      refine lv_goto (tgt := 28) hx hb d_Mo_next_111 (by decide) ?_
                      exact ih (i + 1) w _ _ (by omega) (by omega) (by first | exact rNx_n hnx (fun _ _ q => absurd q (Int32.not_lt.mpr c52)) | exact rNx_n hnx (fun _ _ _ => ⟨Int32.not_le.mp c57, c64⟩) | exact rNx_n hnx (fun _ q _ => absurd (q (hz.nz c68)) (fun z => z.elim c74 c81)) | exact rNx_n hnx (fun q _ _ => absurd ((zsm_n hr3 hf1 hr4 hg1).mpr q) (hp98.1.z c101)) | exact rNx_y hnx (hty _ (re_mem hin)) c52 (by first | exact Or.inl c57 | exact Or.inr (Int32.not_le.mp c64)) (by first | exact fun g => absurd g (hz.z c68) | exact fun _ => Or.inl c74 | exact fun _ => Or.inr c81) ((zsm_n hr3 hf1 hr4 hg1).mp (hp98.1.nz c101))) hG hS ls (lv_sub hl [2, 3, 4, 5, 6, 0] rfl)
                    · refine lv_iload hx hb d_Mo_next_104 (lv_at hl 0 rfl) ?_
                      refine lv_istore (lv' := [(4, .int (rT (re rs i))), (6, .int (rT (re rs i))), (0, .ref a), (1, .ref b1), (2, .int u), (3, .int z), (5, .int (nI i))]) hx hb d_Mo_next_106 hl (by decide) rfl (fun ls hl => ?_)
                      refine lv_iinc (v := nI (i + 1)) (lv' := [(5, .int (nI (i + 1))), (4, .int (rT (re rs i))), (6, .int (rT (re rs i))), (0, .ref a), (1, .ref b1), (2, .int u), (3, .int z)]) hx hb d_Mo_next_108 hl (k := 6) rfl (nI_add i 1) (by decide) rfl (fun ls hl => ?_)
                      refine lv_goto (tgt := 28) hx hb d_Mo_next_111 (by decide) ?_
                      exact ih (i + 1) (rT (re rs i)) _ _ (by omega) (by omega) (by first | exact rNx_n hnx (fun _ _ q => absurd q (Int32.not_lt.mpr c52)) | exact rNx_n hnx (fun _ _ _ => ⟨Int32.not_le.mp c57, c64⟩) | exact rNx_n hnx (fun _ q _ => absurd (q (hz.nz c68)) (fun z => z.elim c74 c81)) | exact rNx_n hnx (fun q _ _ => absurd ((zsm_n hr3 hf1 hr4 hg1).mpr q) (hp98.1.z c101)) | exact rNx_y hnx (hty _ (re_mem hin)) c52 (by first | exact Or.inl c57 | exact Or.inr (Int32.not_le.mp c64)) (by first | exact fun g => absurd g (hz.z c68) | exact fun _ => Or.inl c74 | exact fun _ => Or.inr c81) ((zsm_n hr3 hf1 hr4 hg1).mp (hp98.1.nz c101))) hG hS ls (lv_sub hl [3, 4, 5, 6, 1, 0] rfl)
                  · refine lv_iload hx hb d_Mo_next_77 (lv_at hl 0 rfl) ?_
                    refine lv_bipush (v := 43) hx hb d_Mo_next_79 (by decide) ?_
                    refine lv_icmp_eq (tgt := 87) hx hb d_Mo_next_81 (by decide) (fun c81 => ?_) (fun c81 => ?_)
                    · refine lv_aload_n hx hb d_Mo_next_87 rfl (lv_at hl 1 rfl) ?_
                      refine zg_get (ci := 11) (C := "ZoneAnswersModel") (T := T_Mo) (N := 21) hx hb hts zi_Mo hown hK hG ha rfl 4 (by decide) (hts _ w_1285) (fun _ h9 => h9) rfl d_Mo_next_88 ?_
                      refine lv_iload hx hb d_Mo_next_91 (lv_at hl 6 rfl) ?_
                      refine zg_aldq hx hb hK hG 4 hm4 rfl (vp_in_nI (by omega) (by omega)) d_Mo_next_93 ?_
                      refine zr_as (y := fr i) (by rw [zi_n _ (by omega)]) ?_
                      refine zr_some (a := rA (re rs i)) (hfr i hin) ?_
                      refine zg_get (ci := 12) (C := "ZoneAnswersModel$Rec") (T := T_Re) (N := 5) hx hb hts zi_Re hown hK hG hr1 rfl 0 (by decide) (hts _ w_1265) (fun _ h9 => h9) rfl d_Mo_next_94 ?_
                      refine lv_aload_n hx hb d_Mo_next_97 rfl (lv_at hl 2 rfl) ?_
                      refine zk_i (va_runS (As := [.ref (rN (re rs i)), .ref b1]) (rest := []) ⟨hx, hb, hml, hown, hts⟩ (t_Ns_same l E G (rN (re rs i)) (np_len (rM (re rs i))) nf hr2 b1 (np_len ls1) f1 hb1 (by omega) (by omega)) (zcS 2 hts w_1405 w_1406 w_33 w_1407 (by decide +kernel) ⟨Nat.le_of_ble_eq_true rfl, Nat.le_of_ble_eq_true rfl⟩) (zc_pre hbase hK hN hQ hG hS) rfl rfl hl.1 rfl (lv_room (Nat.le_of_ble_eq_true rfl)) d_Mo_next_98 ⟨(by decide), (by decide)⟩) hS (fun r98 G98 H locs hp98 hG hS => ?_)
                      have hG : zP E G H := hp98.2 ▸ hG
                      refine lv_if_eq (tgt := 108) hx hb d_Mo_next_101 (by decide) (fun c101 => ?_) (fun c101 => ?_)
                      · refine lv_iinc (v := nI (i + 1)) (lv' := [(5, .int (nI (i + 1))), (6, .int (rT (re rs i))), (0, .ref a), (1, .ref b1), (2, .int u), (3, .int z), (4, .int w)]) hx hb d_Mo_next_108 hl (k := 6) rfl (nI_add i 1) (by decide) rfl (fun ls hl => ?_)
                        refine lv_goto (tgt := 28) hx hb d_Mo_next_111 (by decide) ?_
                        exact ih (i + 1) w _ _ (by omega) (by omega) (by first | exact rNx_n hnx (fun _ _ q => absurd q (Int32.not_lt.mpr c52)) | exact rNx_n hnx (fun _ _ _ => ⟨Int32.not_le.mp c57, c64⟩) | exact rNx_n hnx (fun _ q _ => absurd (q (hz.nz c68)) (fun z => z.elim c74 c81)) | exact rNx_n hnx (fun q _ _ => absurd ((zsm_n hr3 hf1 hr4 hg1).mpr q) (hp98.1.z c101)) | exact rNx_y hnx (hty _ (re_mem hin)) c52 (by first | exact Or.inl c57 | exact Or.inr (Int32.not_le.mp c64)) (by first | exact fun g => absurd g (hz.z c68) | exact fun _ => Or.inl c74 | exact fun _ => Or.inr c81) ((zsm_n hr3 hf1 hr4 hg1).mp (hp98.1.nz c101))) hG hS ls (lv_sub hl [2, 3, 4, 5, 6, 0] rfl)
                      · refine lv_iload hx hb d_Mo_next_104 (lv_at hl 0 rfl) ?_
                        refine lv_istore (lv' := [(4, .int (rT (re rs i))), (6, .int (rT (re rs i))), (0, .ref a), (1, .ref b1), (2, .int u), (3, .int z), (5, .int (nI i))]) hx hb d_Mo_next_106 hl (by decide) rfl (fun ls hl => ?_)
                        refine lv_iinc (v := nI (i + 1)) (lv' := [(5, .int (nI (i + 1))), (4, .int (rT (re rs i))), (6, .int (rT (re rs i))), (0, .ref a), (1, .ref b1), (2, .int u), (3, .int z)]) hx hb d_Mo_next_108 hl (k := 6) rfl (nI_add i 1) (by decide) rfl (fun ls hl => ?_)
                        refine lv_goto (tgt := 28) hx hb d_Mo_next_111 (by decide) ?_
                        exact ih (i + 1) (rT (re rs i)) _ _ (by omega) (by omega) (by first | exact rNx_n hnx (fun _ _ q => absurd q (Int32.not_lt.mpr c52)) | exact rNx_n hnx (fun _ _ _ => ⟨Int32.not_le.mp c57, c64⟩) | exact rNx_n hnx (fun _ q _ => absurd (q (hz.nz c68)) (fun z => z.elim c74 c81)) | exact rNx_n hnx (fun q _ _ => absurd ((zsm_n hr3 hf1 hr4 hg1).mpr q) (hp98.1.z c101)) | exact rNx_y hnx (hty _ (re_mem hin)) c52 (by first | exact Or.inl c57 | exact Or.inr (Int32.not_le.mp c64)) (by first | exact fun g => absurd g (hz.z c68) | exact fun _ => Or.inl c74 | exact fun _ => Or.inr c81) ((zsm_n hr3 hf1 hr4 hg1).mp (hp98.1.nz c101))) hG hS ls (lv_sub hl [3, 4, 5, 6, 1, 0] rfl)
                    · refine lv_goto (tgt := 108) hx hb d_Mo_next_84 (by decide) ?_
                      refine lv_iinc (v := nI (i + 1)) (lv' := [(5, .int (nI (i + 1))), (6, .int (rT (re rs i))), (0, .ref a), (1, .ref b1), (2, .int u), (3, .int z), (4, .int w)]) hx hb d_Mo_next_108 hl (k := 6) rfl (nI_add i 1) (by decide) rfl (fun ls hl => ?_)
                      refine lv_goto (tgt := 28) hx hb d_Mo_next_111 (by decide) ?_
                      exact ih (i + 1) w _ _ (by omega) (by omega) (by first | exact rNx_n hnx (fun _ _ q => absurd q (Int32.not_lt.mpr c52)) | exact rNx_n hnx (fun _ _ _ => ⟨Int32.not_le.mp c57, c64⟩) | exact rNx_n hnx (fun _ q _ => absurd (q (hz.nz c68)) (fun z => z.elim c74 c81)) | exact rNx_n hnx (fun q _ _ => absurd ((zsm_n hr3 hf1 hr4 hg1).mpr q) (hp98.1.z c101)) | exact rNx_y hnx (hty _ (re_mem hin)) c52 (by first | exact Or.inl c57 | exact Or.inr (Int32.not_le.mp c64)) (by first | exact fun g => absurd g (hz.z c68) | exact fun _ => Or.inl c74 | exact fun _ => Or.inr c81) ((zsm_n hr3 hf1 hr4 hg1).mp (hp98.1.nz c101))) hG hS ls (lv_sub hl [2, 3, 4, 5, 6, 0] rfl)
    exact loop28 _ 0 46 _ _ (Nat.lt_succ_self _) (Nat.zero_le _) (by first | exact rNx_01 (Int32.not_le.mp c3) | exact rNx_02 (Int32.not_lt.mpr c3) (Int32.not_le.mp c14) | exact rNx_03 (Int32.not_lt.mpr c14)) hG hS ls (lv_sub hl [2, 3, 4, 5, 1, 0] rfl)
