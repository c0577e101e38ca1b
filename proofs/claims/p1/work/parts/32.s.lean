theorem np_f_un {ls : np_N} : ∀ {ls2 : np_N} {F : Nat → Int32}, np_ok ls → np_ok ls2 → np_f ls F → np_f ls2 F → ls = ls2 := by
  induction ls with
  | nil =>
    intro ls2 F h1 h2 f1 f2
    cases ls2 with
    | nil => rfl
    | cons l r =>
      have e1 := np_f_nil.mp f1
      have e2 := (np_f_cons.mp f2).1
      rw [e1] at e2
      have hl := h2 l List.mem_cons_self
      exact absurd e2.symm (nI_ne0 (by have := hl.1; omega) (by have := hl.2; omega))
  | cons l r ih =>
    intro ls2 F h1 h2 f1 f2
    have hl := h1 l List.mem_cons_self
    obtain ⟨a0, a1, a2⟩ := np_f_cons.mp f1
    cases ls2 with
    | nil =>
      have e1 := np_f_nil.mp f2
      rw [a0] at e1
      exact absurd e1 (nI_ne0 (by have := hl.1; omega) (by have := hl.2; omega))
    | cons l2 r2 =>
      obtain ⟨b0, b1, b2⟩ := np_f_cons.mp f2
      have hl2 := h2 l2 List.mem_cons_self
      rw [a0] at b0
      have e := (nI_eq (a := l.length) (b := l2.length) (by have := hl.2; omega) (by have := hl2.2; omega)).mp b0
      have el : l = l2 := by
        refine List.ext_getElem e fun j hj hj2 => ?_
        have q1 := a1 j hj
        have q2 := b1 j hj2
        rw [q1, List.getD_eq_getElem?_getD, List.getD_eq_getElem?_getD, List.getElem?_eq_getElem hj, List.getElem?_eq_getElem hj2] at q2
        simpa using q2
      subst el
      rw [ih (fun z hz => h1 z (List.mem_cons_of_mem _ hz)) (fun z hz => h2 z (List.mem_cons_of_mem _ hz)) a2 b2]
theorem zNm_un {F : Nat → Int32} {N : Nat} {ls ls2 : np_N} (h : zNm F N ls) (h2 : zNm F N ls2) : ls = ls2 := np_f_un h.1.1 h2.1.1 h.2.2 h2.2.2
/-- where the strings end that begin at d -/
def zsw (F : Nat → Int32) (N : Nat) : Nat → Nat → Nat
  | 0, d => d
  | k + 1, d => if d < N then zsw F N k (d + (1 + (F d &&& 255).toNatClampNeg)) else d
theorem zsw_end {F : Nat → Int32} {N k d : Nat} (h : N ≤ d) : zsw F N k d = d := by
  cases k with
  | zero => rfl
  | succ k => show (if d < N then _ else d) = d; rw [if_neg (by omega)]
theorem zsw_step {F : Nat → Int32} {N k d c : Nat} (hk : N - d < k) (hd : d < N) (hc : (F d &&& 255).toNatClampNeg = c) : zsw F N (k - 1) (d + (1 + c)) = zsw F N k d := by
  obtain ⟨k, rfl⟩ : ∃ k2, k = k2 + 1 := ⟨k - 1, by omega⟩
  show zsw F N k _ = (if d < N then _ else d)
  rw [if_pos hd, hc]
/-- the tape has strings from x to its end -/
def zstr (tp : List Int32) (x : Nat) : Prop := x < tp.length ∧ zsw (fun j => tp.getD j 0) tp.length (tp.length + 1) x = tp.length
/-- the tape ends with a name, so far behind x as the type tells -/
def zdn (tp : List Int32) (t : Int32) (x : Nat) : Prop := ∃ o ls, zoff t = nI o ∧ o ≤ 6 ∧ zNm (fun j => tp.getD (x + o + j) 0) (tp.length - (x + o)) ls ∧ x + o + np_len ls = tp.length
/-- from x to its end the tape has data of that type -/
def zdat (tp : List Int32) (t : Int32) (x : Nat) : Prop := if t = 1 then tp.length - x = 4 else if t = 16 then zstr tp x else if t = 28 then tp.length - x = 16 else zoff t < 0 ∨ zdn tp t x
theorem zoff_of {t : Int32} (h : ¬ zoff t < 0) : ∃ o, o ≤ 6 ∧ zoff t = nI o := by
  unfold zoff at h ⊢
  by_cases h1 : t = 2 ∨ t = 5 ∨ t = 12
  · rw [if_pos h1]; exact ⟨0, by omega, by decide⟩
  · rw [if_neg h1] at h ⊢
    by_cases h2 : t = 15
    · rw [if_pos h2]; exact ⟨2, by omega, by decide⟩
    · rw [if_neg h2] at h ⊢
      by_cases h3 : t = 33
      · rw [if_pos h3]; exact ⟨6, by omega, by decide⟩
      · rw [if_neg h3] at h; exact absurd (by decide) h
theorem zdn_y {tp : List Int32} {t : Int32} {x o : Nat} (ho : zoff t = nI o) (h6 : o ≤ 6) (hx : x ≤ tp.length) (hl : tp.length ≤ 65536) {r : Int32} (h : zE (fun j => tp.getD (x + o + j) 0) (tp.length - (x + o)) (x + o) r) : r = nI tp.length ↔ zdn tp t x := by
  constructor
  · intro e
    rcases h with ⟨ls, q, q2⟩ | ⟨-, q⟩
    · have := q.1.2
      exact ⟨o, ls, ho, h6, q, (nI_eq (by omega) (by omega)).mp (q2.symm.trans e)⟩
    · rw [q] at e; exact absurd (show nI tp.length < 0 by rw [← e]; decide) (nI_pos (by omega))
  · rintro ⟨o2, ls2, ho2, h62, q, e⟩
    have eo : o2 = o := (nI_eq (by omega) (by omega)).mp (ho2.symm.trans ho)
    subst eo
    rcases h with ⟨ls, q3, q2⟩ | ⟨q2, -⟩
    · rw [zNm_un q3 q] at q2; rw [q2, e]
    · exact absurd ⟨ls2, q⟩ q2
theorem w_830 : (.instanceMethod ⟨"ZoneAnswers$Tape", "nameEnd", "(I)I"⟩ : Cond) ∈ zw := zw_at 830 (by decide +kernel) (by decide +kernel)
theorem w_831 : (.selects "ZoneAnswers$Tape" ⟨"ZoneAnswers$Tape", "nameEnd", "(I)I"⟩ ⟨"ZoneAnswers$Tape", "nameEnd", "(I)I"⟩ : Cond) ∈ zw := zw_at 831 (by decide +kernel) (by decide +kernel)
theorem w_832 : (.code ⟨"ZoneAnswers$Tape", "nameEnd", "(I)I"⟩ prog_8_method_6_code 5 (some .int) : Cond) ∈ zw := zw_at 832 (by decide +kernel) (by decide +kernel)
theorem w_866 : (.methodLink "ZoneAnswers$Tape" 30 ⟨"ZoneAnswers$Tape", "isStrings", "(I)Z"⟩ : Cond) ∈ zw := zw_at 866 (by decide +kernel) (by decide +kernel)
theorem w_868 : (.instanceMethod ⟨"ZoneAnswers$Tape", "isStrings", "(I)Z"⟩ : Cond) ∈ zw := zw_at 868 (by decide +kernel) (by decide +kernel)
theorem w_869 : (.code ⟨"ZoneAnswers$Tape", "isStrings", "(I)Z"⟩ prog_8_method_8_code 3 (some .boolean) : Cond) ∈ zw := zw_at 869 (by decide +kernel) (by decide +kernel)
theorem w_871 : (.static ⟨"ZoneAnswers", "nameOffset", "(I)I"⟩ : Cond) ∈ zw := zw_at 871 (by decide +kernel) (by decide +kernel)
theorem w_872 : (.code ⟨"ZoneAnswers", "nameOffset", "(I)I"⟩ prog_1_method_19_code 1 (some .int) : Cond) ∈ zw := zw_at 872 (by decide +kernel) (by decide +kernel)
theorem w_873 : (.methodLink "ZoneAnswers$Tape" 38 ⟨"ZoneAnswers$Tape", "nameEnd", "(I)I"⟩ : Cond) ∈ zw := zw_at 873 (by decide +kernel) (by decide +kernel)
theorem wp_11 : (.selects "ZoneAnswers$Tape" ⟨"ZoneAnswers$Tape", "isStrings", "(I)Z"⟩ ⟨"ZoneAnswers$Tape", "isStrings", "(I)Z"⟩ : Cond) ∈ zw := zw_pv 11 (y := ⟨"ZoneAnswers$Tape", "isStrings", "(I)Z"⟩) rfl (by decide +kernel)
abbrev c_Ta_isStrings : ByteArray := prog_8_method_8_code
abbrev y_Ta_isStrings : MethodName := ⟨"ZoneAnswers$Tape", "isStrings", "(I)Z"⟩
theorem d_Ta_isStrings_0 : decode c_Ta_isStrings 0 = .ok (.iload_n 1, 1) := by decide +kernel
theorem d_Ta_isStrings_1 : decode c_Ta_isStrings 1 = .ok (.istore_n 2, 1) := by decide +kernel
theorem d_Ta_isStrings_2 : decode c_Ta_isStrings 2 = .ok (.iload_n 2, 1) := by decide +kernel
theorem d_Ta_isStrings_3 : decode c_Ta_isStrings 3 = .ok (.aload_n 0, 1) := by decide +kernel
theorem d_Ta_isStrings_4 : decode c_Ta_isStrings 4 = .ok (.getfield 15, 3) := by decide +kernel
theorem d_Ta_isStrings_7 : decode c_Ta_isStrings 7 = .ok (.if_icmp .ge 21, 3) := by decide +kernel
theorem d_Ta_isStrings_10 : decode c_Ta_isStrings 10 = .ok (.iload_n 2, 1) := by decide +kernel
theorem d_Ta_isStrings_11 : decode c_Ta_isStrings 11 = .ok (.iconst 1, 1) := by decide +kernel
theorem d_Ta_isStrings_12 : decode c_Ta_isStrings 12 = .ok (.aload_n 0, 1) := by decide +kernel
theorem d_Ta_isStrings_13 : decode c_Ta_isStrings 13 = .ok (.getfield 11, 3) := by decide +kernel
theorem d_Ta_isStrings_16 : decode c_Ta_isStrings 16 = .ok (.iload_n 2, 1) := by decide +kernel
theorem d_Ta_isStrings_17 : decode c_Ta_isStrings 17 = .ok (.baload, 1) := by decide +kernel
theorem d_Ta_isStrings_18 : decode c_Ta_isStrings 18 = .ok (.sipush 255, 3) := by decide +kernel
theorem d_Ta_isStrings_21 : decode c_Ta_isStrings 21 = .ok (.iand, 1) := by decide +kernel
theorem d_Ta_isStrings_22 : decode c_Ta_isStrings 22 = .ok (.iadd, 1) := by decide +kernel
theorem d_Ta_isStrings_23 : decode c_Ta_isStrings 23 = .ok (.iadd, 1) := by decide +kernel
theorem d_Ta_isStrings_24 : decode c_Ta_isStrings 24 = .ok (.istore_n 2, 1) := by decide +kernel
theorem d_Ta_isStrings_25 : decode c_Ta_isStrings 25 = .ok (.goto (-23), 3) := by decide +kernel
theorem d_Ta_isStrings_28 : decode c_Ta_isStrings 28 = .ok (.iload_n 1, 1) := by decide +kernel
theorem d_Ta_isStrings_29 : decode c_Ta_isStrings 29 = .ok (.aload_n 0, 1) := by decide +kernel
theorem d_Ta_isStrings_30 : decode c_Ta_isStrings 30 = .ok (.getfield 15, 3) := by decide +kernel
theorem d_Ta_isStrings_33 : decode c_Ta_isStrings 33 = .ok (.if_icmp .ge 15, 3) := by decide +kernel
theorem d_Ta_isStrings_36 : decode c_Ta_isStrings 36 = .ok (.iload_n 2, 1) := by decide +kernel
theorem d_Ta_isStrings_37 : decode c_Ta_isStrings 37 = .ok (.aload_n 0, 1) := by decide +kernel
theorem d_Ta_isStrings_38 : decode c_Ta_isStrings 38 = .ok (.getfield 15, 3) := by decide +kernel
theorem d_Ta_isStrings_41 : decode c_Ta_isStrings 41 = .ok (.if_icmp .ne 7, 3) := by decide +kernel
theorem d_Ta_isStrings_44 : decode c_Ta_isStrings 44 = .ok (.iconst 1, 1) := by decide +kernel
theorem d_Ta_isStrings_45 : decode c_Ta_isStrings 45 = .ok (.goto 4, 3) := by decide +kernel
theorem d_Ta_isStrings_48 : decode c_Ta_isStrings 48 = .ok (.iconst 0, 1) := by decide +kernel
theorem d_Ta_isStrings_49 : decode c_Ta_isStrings 49 = .ok (.ireturn, 1) := by decide +kernel
abbrev c_Ta_isData : ByteArray := prog_8_method_7_code
abbrev y_Ta_isData : MethodName := ⟨"ZoneAnswers$Tape", "isData", "(II)Z"⟩
theorem d_Ta_isData_0 : decode c_Ta_isData 0 = .ok (.iload_n 1, 1) := by decide +kernel
theorem d_Ta_isData_1 : decode c_Ta_isData 1 = .ok (.lookupswitch 74 #[(1, 35), (16, 68), (28, 51)], 35) := by decide +kernel
theorem d_Ta_isData_36 : decode c_Ta_isData 36 = .ok (.aload_n 0, 1) := by decide +kernel
theorem d_Ta_isData_37 : decode c_Ta_isData 37 = .ok (.getfield 15, 3) := by decide +kernel
theorem d_Ta_isData_40 : decode c_Ta_isData 40 = .ok (.iload_n 2, 1) := by decide +kernel
theorem d_Ta_isData_41 : decode c_Ta_isData 41 = .ok (.isub, 1) := by decide +kernel
theorem d_Ta_isData_42 : decode c_Ta_isData 42 = .ok (.iconst 4, 1) := by decide +kernel
theorem d_Ta_isData_43 : decode c_Ta_isData 43 = .ok (.if_icmp .ne 7, 3) := by decide +kernel
theorem d_Ta_isData_46 : decode c_Ta_isData 46 = .ok (.iconst 1, 1) := by decide +kernel
theorem d_Ta_isData_47 : decode c_Ta_isData 47 = .ok (.goto 4, 3) := by decide +kernel
theorem d_Ta_isData_50 : decode c_Ta_isData 50 = .ok (.iconst 0, 1) := by decide +kernel
theorem d_Ta_isData_51 : decode c_Ta_isData 51 = .ok (.ireturn, 1) := by decide +kernel
theorem d_Ta_isData_52 : decode c_Ta_isData 52 = .ok (.aload_n 0, 1) := by decide +kernel
theorem d_Ta_isData_53 : decode c_Ta_isData 53 = .ok (.getfield 15, 3) := by decide +kernel
theorem d_Ta_isData_56 : decode c_Ta_isData 56 = .ok (.iload_n 2, 1) := by decide +kernel
theorem d_Ta_isData_57 : decode c_Ta_isData 57 = .ok (.isub, 1) := by decide +kernel
theorem d_Ta_isData_58 : decode c_Ta_isData 58 = .ok (.bipush 16, 2) := by decide +kernel
theorem d_Ta_isData_60 : decode c_Ta_isData 60 = .ok (.if_icmp .ne 7, 3) := by decide +kernel
theorem d_Ta_isData_63 : decode c_Ta_isData 63 = .ok (.iconst 1, 1) := by decide +kernel
theorem d_Ta_isData_64 : decode c_Ta_isData 64 = .ok (.goto 4, 3) := by decide +kernel
theorem d_Ta_isData_67 : decode c_Ta_isData 67 = .ok (.iconst 0, 1) := by decide +kernel
theorem d_Ta_isData_68 : decode c_Ta_isData 68 = .ok (.ireturn, 1) := by decide +kernel
theorem d_Ta_isData_69 : decode c_Ta_isData 69 = .ok (.aload_n 0, 1) := by decide +kernel
theorem d_Ta_isData_70 : decode c_Ta_isData 70 = .ok (.iload_n 2, 1) := by decide +kernel
theorem d_Ta_isData_71 : decode c_Ta_isData 71 = .ok (.invokevirtual 30, 3) := by decide +kernel
theorem d_Ta_isData_74 : decode c_Ta_isData 74 = .ok (.ireturn, 1) := by decide +kernel
theorem d_Ta_isData_75 : decode c_Ta_isData 75 = .ok (.iload_n 1, 1) := by decide +kernel
theorem d_Ta_isData_76 : decode c_Ta_isData 76 = .ok (.invokestatic 34, 3) := by decide +kernel
theorem d_Ta_isData_79 : decode c_Ta_isData 79 = .ok (.istore_n 3, 1) := by decide +kernel
theorem d_Ta_isData_80 : decode c_Ta_isData 80 = .ok (.iload_n 3, 1) := by decide +kernel
theorem d_Ta_isData_81 : decode c_Ta_isData 81 = .ok (.ifCond .lt 17, 3) := by decide +kernel
theorem d_Ta_isData_84 : decode c_Ta_isData 84 = .ok (.aload_n 0, 1) := by decide +kernel
theorem d_Ta_isData_85 : decode c_Ta_isData 85 = .ok (.iload_n 2, 1) := by decide +kernel
theorem d_Ta_isData_86 : decode c_Ta_isData 86 = .ok (.iload_n 3, 1) := by decide +kernel
theorem d_Ta_isData_87 : decode c_Ta_isData 87 = .ok (.iadd, 1) := by decide +kernel
theorem d_Ta_isData_88 : decode c_Ta_isData 88 = .ok (.invokevirtual 38, 3) := by decide +kernel
theorem d_Ta_isData_91 : decode c_Ta_isData 91 = .ok (.aload_n 0, 1) := by decide +kernel
theorem d_Ta_isData_92 : decode c_Ta_isData 92 = .ok (.getfield 15, 3) := by decide +kernel
theorem d_Ta_isData_95 : decode c_Ta_isData 95 = .ok (.if_icmp .ne 7, 3) := by decide +kernel
theorem d_Ta_isData_98 : decode c_Ta_isData 98 = .ok (.iconst 1, 1) := by decide +kernel
theorem d_Ta_isData_99 : decode c_Ta_isData 99 = .ok (.goto 4, 3) := by decide +kernel
theorem d_Ta_isData_102 : decode c_Ta_isData 102 = .ok (.iconst 0, 1) := by decide +kernel
theorem d_Ta_isData_103 : decode c_Ta_isData 103 = .ok (.ireturn, 1) := by decide +kernel
abbrev rm_Ta_isStrings : Room := { frames := 0, cells := 0, slots := 0, locals := 0 }
set_option maxHeartbeats 4000000 in
set_option maxRecDepth 100000 in
/-- Tape.isStrings(x) -/
theorem t_Ta_isStrings (l : Launch) (E : zc_E) (G : zg_G) (a b : Nat) (tp : List Int32) (hT : zTp E G a b tp) (hlen : tp.length ≤ 65536) (x : Nat) (hxn : x ≤ tp.length) : zMi l E y_Ta_isStrings c_Ta_isStrings 3 (some .boolean) rm_Ta_isStrings [.ref a, .int (nI x)] G (fun (r : Int32) (G2 : zg_G) => zb r (zstr tp x) ∧ G2 = G) := by
  refine zMi.of (by decide) (Nat.le_of_ble_eq_true rfl) ?_
  intro p e s m args below meth c Q hZ hG hret ls hl
  obtain ⟨hx, hb, hr, hts, hown, hlocks, hml, hnm, hbase, hK, hN, hQ⟩ := hZ
  have hl : lv_has ls 3 [(0, .ref a), (1, .int (nI x))] := hl
  have hS : zg_S (zc_b E) s.heap s.heap [] := va_S.rf
  obtain ⟨ha, n, f, hb0, hn1, hn2, hn3, hf, hft⟩ := id hT
  refine lv_iload_n hx hb d_Ta_isStrings_0 rfl (lv_at hl 1 rfl) ?_
  refine lv_istore_n (lv' := [(2, .int (nI x)), (0, .ref a), (1, .int (nI x))]) hx hb d_Ta_isStrings_1 rfl hl (by decide) rfl (fun ls hl => ?_)
  have loop2 : ∀ (N : Nat) (ee : Nat) (k : Nat), (tp.length - ee) < N → (ee ≤ tp.length + 256) → (tp.length - ee < k) → (zsw (fun j => tp.getD j 0) tp.length k ee = zsw (fun j => tp.getD j 0) tp.length (tp.length + 1) x) → ∀ (ls : Array Slot), lv_has ls 3 [(0, .ref a), (1, .int (nI x)), (2, .int (nI ee))] → W p l e rm_Ta_isStrings s m args below meth c s.heap [] 0 0 Q (F0 m 2 ls []) := by
    intro N
    induction N with
    | zero =>
      intro ee k hlt
      exact absurd hlt (Nat.not_lt_zero _)
    | succ N ih =>
      intro ee k hlt he hk hz ls hl
      refine lv_iload_n hx hb d_Ta_isStrings_2 rfl (lv_at hl 2 rfl) ?_
      refine lv_aload_n hx hb d_Ta_isStrings_3 rfl (lv_at hl 0 rfl) ?_
      refine zg_get (ci := 7) (C := "ZoneAnswers$Tape") (T := T_Ta) (N := 2) hx hb hts zi_Ta hown hK hG ha rfl 1 (by decide) (hts _ w_52) (fun _ h9 => h9) rfl d_Ta_isStrings_4 ?_
      refine lv_icmp_ge (tgt := 28) hx hb d_Ta_isStrings_7 (by decide) (fun c7 => ?_) (fun c7 => ?_)
      · have b7 : tp.length ≤ ee := (nI_leI (a := tp.length) (b := ee) (by omega) (by omega)).mp c7
        refine lv_iload_n hx hb d_Ta_isStrings_28 rfl (lv_at hl 1 rfl) ?_
        refine lv_aload_n hx hb d_Ta_isStrings_29 rfl (lv_at hl 0 rfl) ?_
        refine zg_get (ci := 7) (C := "ZoneAnswers$Tape") (T := T_Ta) (N := 2) hx hb hts zi_Ta hown hK hG ha rfl 1 (by decide) (hts _ w_52) (fun _ h9 => h9) rfl d_Ta_isStrings_30 ?_
        refine lv_icmp_ge (tgt := 48) hx hb d_Ta_isStrings_33 (by decide) (fun c33 => ?_) (fun c33 => ?_)
        · have b33 : tp.length ≤ x := (nI_leI (a := tp.length) (b := x) (by omega) (by omega)).mp c33
          refine lv_iconst (v := 0) hx hb d_Ta_isStrings_48 (by decide) ?_
          exact hret _ _ _ _ _ _ _ _ _ hr (rfl) (⟨by first | exact zb.t ⟨by omega, by rw [← hz, zsw_end b7]; exact b41⟩ | exact zb.f (fun q => by have q2 := q.2; rw [← hz, zsw_end b7] at q2; have q1 := q.1; omega), rfl⟩) hG hS (Nat.le_refl _) (Nat.le_refl _) d_Ta_isStrings_49
        · have b33 : ¬ tp.length ≤ x := fun q => c33 ((nI_leI (a := tp.length) (b := x) (by omega) (by omega)).mpr q)
          refine lv_iload_n hx hb d_Ta_isStrings_36 rfl (lv_at hl 2 rfl) ?_
          refine lv_aload_n hx hb d_Ta_isStrings_37 rfl (lv_at hl 0 rfl) ?_
          refine zg_get (ci := 7) (C := "ZoneAnswers$Tape") (T := T_Ta) (N := 2) hx hb hts zi_Ta hown hK hG ha rfl 1 (by decide) (hts _ w_52) (fun _ h9 => h9) rfl d_Ta_isStrings_38 ?_
          refine lv_icmp_ne (tgt := 48) hx hb d_Ta_isStrings_41 (by decide) (fun c41 => ?_) (fun c41 => ?_)
          · have b41 : ¬ ee = tp.length := fun q => c41 ((nI_eq (a := ee) (b := tp.length) (by omega) (by omega)).mpr q)
            refine lv_iconst (v := 0) hx hb d_Ta_isStrings_48 (by decide) ?_
            exact hret _ _ _ _ _ _ _ _ _ hr (rfl) (⟨by first | exact zb.t ⟨by omega, by rw [← hz, zsw_end b7]; exact b41⟩ | exact zb.f (fun q => by have q2 := q.2; rw [← hz, zsw_end b7] at q2; have q1 := q.1; omega), rfl⟩) hG hS (Nat.le_refl _) (Nat.le_refl _) d_Ta_isStrings_49
          · have b41 : ee = tp.length := (nI_eq (a := ee) (b := tp.length) (by omega) (by omega)).mp c41
            refine lv_iconst (v := 1) hx hb d_Ta_isStrings_44 (by decide) ?_
            refine lv_goto (tgt := 49) hx hb d_Ta_isStrings_45 (by decide) ?_
            exact hret _ _ _ _ _ _ _ _ _ hr (rfl) (⟨by first | exact zb.t ⟨by omega, by rw [← hz, zsw_end b7]; exact b41⟩ | exact zb.f (fun q => by have q2 := q.2; rw [← hz, zsw_end b7] at q2; have q1 := q.1; omega), rfl⟩) hG hS (Nat.le_refl _) (Nat.le_refl _) d_Ta_isStrings_49
      · have b7 : ¬ tp.length ≤ ee := fun q => c7 ((nI_leI (a := tp.length) (b := ee) (by omega) (by omega)).mpr q)
        obtain ⟨cc, hc1, hc2⟩ := zu8 (hft ee)
        have hF9 : (tp.getD ee 0 &&& 255).toNatClampNeg = cc := by rw [← hf _ (by omega), hc2, (sb_byte cc hc1).1]; exact nI_clamp (by omega)
        refine lv_iload_n hx hb d_Ta_isStrings_10 rfl (lv_at hl 2 rfl) ?_
        refine lv_iconst (v := 1) hx hb d_Ta_isStrings_11 (by decide) ?_
        refine lv_aload_n hx hb d_Ta_isStrings_12 rfl (lv_at hl 0 rfl) ?_
        refine zg_get (ci := 7) (C := "ZoneAnswers$Tape") (T := T_Ta) (N := 2) hx hb hts zi_Ta hown hK hG ha rfl 0 (by decide) (hts _ w_51) (fun _ h9 => h9) rfl d_Ta_isStrings_13 ?_
        refine lv_iload_n hx hb d_Ta_isStrings_16 rfl (lv_at hl 2 rfl) ?_
        refine zg_bald hx hb hK hG 0 hb0 rfl (vp_in_nI (by omega) (by omega)) d_Ta_isStrings_17 ?_
        refine zi_as (y := f ee) (by rw [zi_n _ (by omega)]) ?_
        refine lv_sipush (v := 255) hx hb d_Ta_isStrings_18 (by decide) ?_
        refine lv_iand hx hb d_Ta_isStrings_21 ?_
        refine zi_as (y := nI cc) (by rw [hc2]; exact (sb_byte cc hc1).1) ?_
        refine lv_iadd hx hb d_Ta_isStrings_22 ?_
        refine zi_as (y := nI (1 + cc)) (nI_add 1 cc) ?_
        refine lv_iadd hx hb d_Ta_isStrings_23 ?_
        refine zi_as (y := nI (ee + (1 + cc))) (nI_add ee (1 + cc)) ?_
        refine lv_istore_n (lv' := [(2, .int (nI (ee + (1 + cc)))), (0, .ref a), (1, .int (nI x))]) hx hb d_Ta_isStrings_24 rfl hl (by decide) rfl (fun ls hl => ?_)
        refine lv_goto (tgt := 2) hx hb d_Ta_isStrings_25 (by decide) ?_
        exact ih (ee + (1 + cc)) (k - 1) (by omega) (by omega) (by omega) ((zsw_step (F := (fun j => tp.getD j 0)) hk (by omega) hF9).trans hz) ls (lv_sub hl [1, 2, 0] rfl)
  exact loop2 _ x (tp.length + 1) (Nat.lt_succ_self _) (by omega) (by omega) (rfl) ls (lv_sub hl [1, 2, 0] rfl)
abbrev rm_Ta_isData : Room := { frames := 1, cells := 0, slots := 0, locals := 40 }
set_option maxHeartbeats 4000000 in
set_option maxRecDepth 100000 in
/-- Tape.isData(t, x) -/
theorem t_Ta_isData (l : Launch) (E : zc_E) (G : zg_G) (a b : Nat) (tp : List Int32) (hT : zTp E G a b tp) (hlen : tp.length ≤ 65536) (t : Int32) (x : Nat) (hxn : x ≤ tp.length) : zMi l E y_Ta_isData c_Ta_isData 4 (some .boolean) rm_Ta_isData [.ref a, .int t, .int (nI x)] G (fun (r : Int32) (G2 : zg_G) => zb r (zdat tp t x) ∧ G2 = G) := by
  refine zMi.of (by decide) (Nat.le_of_ble_eq_true rfl) ?_
  intro p e s m args below meth c Q hZ hG hret ls hl
  obtain ⟨hx, hb, hr, hts, hown, hlocks, hml, hnm, hbase, hK, hN, hQ⟩ := hZ
  have hl : lv_has ls 4 [(0, .ref a), (1, .int t), (2, .int (nI x))] := hl
  have hS : zg_S (zc_b E) s.heap s.heap [] := va_S.rf
  obtain ⟨ha, n, f, hb0, hn1, hn2, hn3, hf, hft⟩ := id hT
  refine lv_iload_n hx hb d_Ta_isData_0 rfl (lv_at hl 1 rfl) ?_
  by_cases s1_1 : t = 1
  · refine lv_lookup (off := 35) (tgt := 36) hx hb d_Ta_isData_1 (by decide) (by rw [s1_1]; decide) (by decide) ?_
    refine lv_aload_n hx hb d_Ta_isData_36 rfl (lv_at hl 0 rfl) ?_
    refine zg_get (ci := 7) (C := "ZoneAnswers$Tape") (T := T_Ta) (N := 2) hx hb hts zi_Ta hown hK hG ha rfl 1 (by decide) (hts _ w_52) (fun _ h9 => h9) rfl d_Ta_isData_37 ?_
    refine lv_iload_n hx hb d_Ta_isData_40 rfl (lv_at hl 2 rfl) ?_
    refine lv_isub hx hb d_Ta_isData_41 ?_
    refine zi_as (y := nI (tp.length - x)) (zi_sub (a := tp.length) (b := x) (by omega)) ?_
    refine lv_iconst (v := 4) hx hb d_Ta_isData_42 (by decide) ?_
    refine lv_icmp_ne (tgt := 50) hx hb d_Ta_isData_43 (by decide) (fun c43 => ?_) (fun c43 => ?_)
    · have b43 : ¬ (tp.length - x) = 4 := fun q => c43 ((nI_eq (a := (tp.length - x)) (b := 4) (by omega) (by omega)).mpr q)
      refine lv_iconst (v := 0) hx hb d_Ta_isData_50 (by decide) ?_
      exact hret _ _ _ _ _ _ _ _ _ hr (rfl) (⟨by first | exact zb.t (by unfold zdat; rw [if_pos s1_1]; exact b43) | exact zb.f (by unfold zdat; rw [if_pos s1_1]; exact b43), rfl⟩) hG hS (Nat.le_refl _) (Nat.le_refl _) d_Ta_isData_51
    · have b43 : (tp.length - x) = 4 := (nI_eq (a := (tp.length - x)) (b := 4) (by omega) (by omega)).mp c43
      refine lv_iconst (v := 1) hx hb d_Ta_isData_46 (by decide) ?_
      refine lv_goto (tgt := 51) hx hb d_Ta_isData_47 (by decide) ?_
      exact hret _ _ _ _ _ _ _ _ _ hr (rfl) (⟨by first | exact zb.t (by unfold zdat; rw [if_pos s1_1]; exact b43) | exact zb.f (by unfold zdat; rw [if_pos s1_1]; exact b43), rfl⟩) hG hS (Nat.le_refl _) (Nat.le_refl _) d_Ta_isData_51
  by_cases s1_16 : t = 16
  · refine lv_lookup (off := 68) (tgt := 69) hx hb d_Ta_isData_1 (by decide) (by rw [s1_16]; decide) (by decide) ?_
    refine lv_aload_n hx hb d_Ta_isData_69 rfl (lv_at hl 0 rfl) ?_
    refine lv_iload_n hx hb d_Ta_isData_70 rfl (lv_at hl 2 rfl) ?_
    refine zk_i (va_runV (As := [.int (nI x)]) (rest := []) ⟨hx, hb, hml, hown, hts⟩ (t_Ta_isStrings l E G a b tp hT hlen x hxn) (zcV 1 hts w_866 w_868 wp_11 w_2 w_869 (by decide +kernel) ⟨Nat.le_of_ble_eq_true rfl, Nat.le_of_ble_eq_true rfl⟩) (zc_preV hbase hK hN hQ hG hS ha rfl) rfl rfl hl.1 rfl (lv_room (Nat.le_of_ble_eq_true rfl)) d_Ta_isData_71 ⟨(by decide), (by decide)⟩) hS (fun r71 G71 H locs hp71 hG hS => ?_)
    have hG : zP E G H := hp71.2 ▸ hG
    exact hret _ _ _ _ _ _ _ _ _ hr (hp71.1.nar) (⟨hp71.1.iff (by unfold zdat; rw [if_neg s1_1, if_pos s1_16]), rfl⟩) hG hS (Nat.le_refl _) (Nat.le_refl _) d_Ta_isData_74
  by_cases s1_28 : t = 28
  · refine lv_lookup (off := 51) (tgt := 52) hx hb d_Ta_isData_1 (by decide) (by rw [s1_28]; decide) (by decide) ?_
    refine lv_aload_n hx hb d_Ta_isData_52 rfl (lv_at hl 0 rfl) ?_
    refine zg_get (ci := 7) (C := "ZoneAnswers$Tape") (T := T_Ta) (N := 2) hx hb hts zi_Ta hown hK hG ha rfl 1 (by decide) (hts _ w_52) (fun _ h9 => h9) rfl d_Ta_isData_53 ?_
    refine lv_iload_n hx hb d_Ta_isData_56 rfl (lv_at hl 2 rfl) ?_
    refine lv_isub hx hb d_Ta_isData_57 ?_
    refine zi_as (y := nI (tp.length - x)) (zi_sub (a := tp.length) (b := x) (by omega)) ?_
    refine lv_bipush (v := 16) hx hb d_Ta_isData_58 (by decide) ?_
    refine lv_icmp_ne (tgt := 67) hx hb d_Ta_isData_60 (by decide) (fun c60 => ?_) (fun c60 => ?_)
    · have b60 : ¬ (tp.length - x) = 16 := fun q => c60 ((nI_eq (a := (tp.length - x)) (b := 16) (by omega) (by omega)).mpr q)
      refine lv_iconst (v := 0) hx hb d_Ta_isData_67 (by decide) ?_
      exact hret _ _ _ _ _ _ _ _ _ hr (rfl) (⟨by first | exact zb.t (by unfold zdat; rw [if_neg s1_1, if_neg s1_16, if_pos s1_28]; exact b60) | exact zb.f (by unfold zdat; rw [if_neg s1_1, if_neg s1_16, if_pos s1_28]; exact b60), rfl⟩) hG hS (Nat.le_refl _) (Nat.le_refl _) d_Ta_isData_68
    · have b60 : (tp.length - x) = 16 := (nI_eq (a := (tp.length - x)) (b := 16) (by omega) (by omega)).mp c60
      refine lv_iconst (v := 1) hx hb d_Ta_isData_63 (by decide) ?_
      refine lv_goto (tgt := 68) hx hb d_Ta_isData_64 (by decide) ?_
      exact hret _ _ _ _ _ _ _ _ _ hr (rfl) (⟨by first | exact zb.t (by unfold zdat; rw [if_neg s1_1, if_neg s1_16, if_pos s1_28]; exact b60) | exact zb.f (by unfold zdat; rw [if_neg s1_1, if_neg s1_16, if_pos s1_28]; exact b60), rfl⟩) hG hS (Nat.le_refl _) (Nat.le_refl _) d_Ta_isData_68
  refine lv_lookup (off := 74) (tgt := 75) hx hb d_Ta_isData_1 (by decide) (by show Op.lookupswitch.offset [(1, 35), (16, 68), (28, 51)] _ _ = _; rw [lv_osw (k := 1) s1_1 (by decide), lv_osw (k := 16) s1_16 (by decide), lv_osw (k := 28) s1_28 (by decide)]; rfl) (by decide) ?_
  refine lv_iload_n hx hb d_Ta_isData_75 rfl (lv_at hl 1 rfl) ?_
  refine zk_i (va_runSN (As := [.int t]) (rest := []) ⟨hx, hb, hml, hown, hts⟩ (t_ZA_nameOffset l E G t) ⟨va_cnB 1 hts (zw_good w_872) rfl rfl rfl (zN.at hN (w := .methodLinkNest "ZoneAnswers$Tape" 34 ⟨"ZoneAnswers", "nameOffset", "(I)I"⟩ "ZoneAnswers") (by decide +kernel)) (hts _ w_1) (by decide +kernel) ⟨Nat.le_of_ble_eq_true rfl, Nat.le_of_ble_eq_true rfl⟩, hts _ w_871, trivial⟩ (zc_pre hbase hK hN hQ hG hS) rfl rfl hl.1 rfl (lv_room (Nat.le_of_ble_eq_true rfl)) d_Ta_isData_76 ⟨(by decide), (by decide)⟩) hS (fun r76 G76 H locs hp76 hG hS => ?_)
  have hG : zP E G H := hp76.2 ▸ hG
  refine zi_as (y := zoff t) hp76.1 ?_
  refine lv_istore_n (lv' := [(3, .int (zoff t)), (0, .ref a), (1, .int t), (2, .int (nI x))]) hx hb d_Ta_isData_79 rfl hl (by decide) rfl (fun ls hl => ?_)
  refine lv_iload_n hx hb d_Ta_isData_80 rfl (lv_at hl 0 rfl) ?_
  refine lv_if_lt (tgt := 98) hx hb d_Ta_isData_81 (by decide) (fun c81 => ?_) (fun c81 => ?_)
  · refine lv_iconst (v := 1) hx hb d_Ta_isData_98 (by decide) ?_
    refine lv_goto (tgt := 103) hx hb d_Ta_isData_99 (by decide) ?_
    exact hret _ _ _ _ _ _ _ _ _ hr (rfl) (⟨by first | exact zb.t (by unfold zdat; rw [if_neg s1_1, if_neg s1_16, if_neg s1_28]; first | exact Or.inl c81 | exact Or.inr ((zdn_y hoe ho6 hxn hlen hp88.1).mp c95)) | exact zb.f (by unfold zdat; rw [if_neg s1_1, if_neg s1_16, if_neg s1_28]; exact fun q => q.elim c81 (fun z => c95 ((zdn_y hoe ho6 hxn hlen hp88.1).mpr z))), rfl⟩) hG hS (Nat.le_refl _) (Nat.le_refl _) d_Ta_isData_103
  · obtain ⟨o, ho6, hoe⟩ := zoff_of c81
    refine lv_aload_n hx hb d_Ta_isData_84 rfl (lv_at hl 1 rfl) ?_
    refine lv_iload_n hx hb d_Ta_isData_85 rfl (lv_at hl 3 rfl) ?_
    refine lv_iload_n hx hb d_Ta_isData_86 rfl (lv_at hl 0 rfl) ?_
    refine lv_iadd hx hb d_Ta_isData_87 ?_
    refine zi_as (y := nI (x + o)) (by rw [hoe, nI_add]) ?_
    refine zk_i (va_runV (As := [.int (nI (x + o))]) (rest := []) ⟨hx, hb, hml, hown, hts⟩ (t_Ta_nameEnd l E G a b tp hT hlen (x + o) (by omega)) (zcV 1 hts w_873 w_830 w_831 w_2 w_832 (by decide +kernel) ⟨Nat.le_of_ble_eq_true rfl, Nat.le_of_ble_eq_true rfl⟩) (zc_preV hbase hK hN hQ hG hS ha rfl) rfl rfl hl.1 rfl (lv_room (Nat.le_of_ble_eq_true rfl)) d_Ta_isData_88 ⟨(by decide), (by decide)⟩) hS (fun r88 G88 H locs hp88 hG hS => ?_)
    have hG : zP E G H := hp88.2 ▸ hG
    refine lv_aload_n hx hb d_Ta_isData_91 rfl (lv_at hl 1 rfl) ?_
    refine zg_get (ci := 7) (C := "ZoneAnswers$Tape") (T := T_Ta) (N := 2) hx hb hts zi_Ta hown hK hG ha rfl 1 (by decide) (hts _ w_52) (fun _ h9 => h9) rfl d_Ta_isData_92 ?_
    refine lv_icmp_ne (tgt := 102) hx hb d_Ta_isData_95 (by decide) (fun c95 => ?_) (fun c95 => ?_)
    · refine lv_iconst (v := 0) hx hb d_Ta_isData_102 (by decide) ?_
      exact hret _ _ _ _ _ _ _ _ _ hr (rfl) (⟨by first | exact zb.t (by unfold zdat; rw [if_neg s1_1, if_neg s1_16, if_neg s1_28]; first | exact Or.inl c81 | exact Or.inr ((zdn_y hoe ho6 hxn hlen hp88.1).mp c95)) | exact zb.f (by unfold zdat; rw [if_neg s1_1, if_neg s1_16, if_neg s1_28]; exact fun q => q.elim c81 (fun z => c95 ((zdn_y hoe ho6 hxn hlen hp88.1).mpr z))), rfl⟩) hG hS (Nat.le_refl _) (Nat.le_refl _) d_Ta_isData_103
    · refine lv_iconst (v := 1) hx hb d_Ta_isData_98 (by decide) ?_
      refine lv_goto (tgt := 103) hx hb d_Ta_isData_99 (by decide) ?_
      exact hret _ _ _ _ _ _ _ _ _ hr (rfl) (⟨by first | exact zb.t (by unfold zdat; rw [if_neg s1_1, if_neg s1_16, if_neg s1_28]; first | exact Or.inl c81 | exact Or.inr ((zdn_y hoe ho6 hxn hlen hp88.1).mp c95)) | exact zb.f (by unfold zdat; rw [if_neg s1_1, if_neg s1_16, if_neg s1_28]; exact fun q => q.elim c81 (fun z => c95 ((zdn_y hoe ho6 hxn hlen hp88.1).mpr z))), rfl⟩) hG hS (Nat.le_refl _) (Nat.le_refl _) d_Ta_isData_103
