theorem zu8 {b : Int32} (h : fits .byte (.int b) = true) : ∃ c, c < 256 ∧ b = sb_b c := by
  have hb : 0 ≤ b.toInt % 256 ∧ b.toInt % 256 < 256 := by omega
  refine ⟨(b.toInt % 256).toNat, by omega, ?_⟩
  have h2 : b.toInt8.toInt32 = b := by have := narrow_of_fits h; injection this
  have h3 : (nI (b.toInt % 256).toNat).toInt8 = b.toInt8 := by
    apply Int8.toInt_inj.mp
    rw [Int32.toInt_toInt8, Int32.toInt_toInt8, nI_toInt (by omega), Int.toNat_of_nonneg hb.1]
    exact Int.emod_bmod _ _
  show b = (nI _).toInt8.toInt32
  rw [h3, h2]
theorem zc_all : ∀ c, c < 256 → c ≤ 63 → sb_b c = nI c := by decide +kernel
theorem zc_no {c : Nat} (hc : c < 256) (h : 63 < c) : ∀ mm, mm ≤ 63 → sb_b c ≠ nI mm := by
  intro mm hm e
  have h1 := (sb_byte c hc).1
  have h2 := (sb_byte mm (by omega)).1
  rw [zc_all mm (by omega) hm] at h2
  rw [e, h2] at h1
  have := (nI_eq (a := mm) (b := c) (by omega) (by omega)).mp h1
  omega
abbrev c_Ta_nameEnd : ByteArray := prog_8_method_6_code
abbrev y_Ta_nameEnd : MethodName := ⟨"ZoneAnswers$Tape", "nameEnd", "(I)I"⟩
theorem d_Ta_nameEnd_0 : decode c_Ta_nameEnd 0 = .ok (.iload_n 1, 1) := by decide +kernel
theorem d_Ta_nameEnd_1 : decode c_Ta_nameEnd 1 = .ok (.istore_n 2, 1) := by decide +kernel
theorem d_Ta_nameEnd_2 : decode c_Ta_nameEnd 2 = .ok (.iconst 0, 1) := by decide +kernel
theorem d_Ta_nameEnd_3 : decode c_Ta_nameEnd 3 = .ok (.istore_n 3, 1) := by decide +kernel
theorem d_Ta_nameEnd_4 : decode c_Ta_nameEnd 4 = .ok (.iload_n 3, 1) := by decide +kernel
theorem d_Ta_nameEnd_5 : decode c_Ta_nameEnd 5 = .ok (.bipush 127, 2) := by decide +kernel
theorem d_Ta_nameEnd_7 : decode c_Ta_nameEnd 7 = .ok (.if_icmp .gt 70, 3) := by decide +kernel
theorem d_Ta_nameEnd_10 : decode c_Ta_nameEnd 10 = .ok (.iload_n 2, 1) := by decide +kernel
theorem d_Ta_nameEnd_11 : decode c_Ta_nameEnd 11 = .ok (.ifCond .lt 66, 3) := by decide +kernel
theorem d_Ta_nameEnd_14 : decode c_Ta_nameEnd 14 = .ok (.iload_n 2, 1) := by decide +kernel
theorem d_Ta_nameEnd_15 : decode c_Ta_nameEnd 15 = .ok (.aload_n 0, 1) := by decide +kernel
theorem d_Ta_nameEnd_16 : decode c_Ta_nameEnd 16 = .ok (.getfield 15, 3) := by decide +kernel
theorem d_Ta_nameEnd_19 : decode c_Ta_nameEnd 19 = .ok (.if_icmp .ge 58, 3) := by decide +kernel
theorem d_Ta_nameEnd_22 : decode c_Ta_nameEnd 22 = .ok (.aload_n 0, 1) := by decide +kernel
theorem d_Ta_nameEnd_23 : decode c_Ta_nameEnd 23 = .ok (.getfield 11, 3) := by decide +kernel
theorem d_Ta_nameEnd_26 : decode c_Ta_nameEnd 26 = .ok (.iload_n 2, 1) := by decide +kernel
theorem d_Ta_nameEnd_27 : decode c_Ta_nameEnd 27 = .ok (.baload, 1) := by decide +kernel
theorem d_Ta_nameEnd_28 : decode c_Ta_nameEnd 28 = .ok (.sipush 255, 3) := by decide +kernel
theorem d_Ta_nameEnd_31 : decode c_Ta_nameEnd 31 = .ok (.iand, 1) := by decide +kernel
theorem d_Ta_nameEnd_32 : decode c_Ta_nameEnd 32 = .ok (.istore 4, 2) := by decide +kernel
theorem d_Ta_nameEnd_34 : decode c_Ta_nameEnd 34 = .ok (.iinc 2 1, 3) := by decide +kernel
theorem d_Ta_nameEnd_37 : decode c_Ta_nameEnd 37 = .ok (.iload 4, 2) := by decide +kernel
theorem d_Ta_nameEnd_39 : decode c_Ta_nameEnd 39 = .ok (.ifCond .ne 18, 3) := by decide +kernel
theorem d_Ta_nameEnd_42 : decode c_Ta_nameEnd 42 = .ok (.iload_n 2, 1) := by decide +kernel
theorem d_Ta_nameEnd_43 : decode c_Ta_nameEnd 43 = .ok (.iload_n 1, 1) := by decide +kernel
theorem d_Ta_nameEnd_44 : decode c_Ta_nameEnd 44 = .ok (.isub, 1) := by decide +kernel
theorem d_Ta_nameEnd_45 : decode c_Ta_nameEnd 45 = .ok (.sipush 255, 3) := by decide +kernel
theorem d_Ta_nameEnd_48 : decode c_Ta_nameEnd 48 = .ok (.if_icmp .gt 7, 3) := by decide +kernel
theorem d_Ta_nameEnd_51 : decode c_Ta_nameEnd 51 = .ok (.iload_n 2, 1) := by decide +kernel
theorem d_Ta_nameEnd_52 : decode c_Ta_nameEnd 52 = .ok (.goto 4, 3) := by decide +kernel
theorem d_Ta_nameEnd_55 : decode c_Ta_nameEnd 55 = .ok (.iconst (-1), 1) := by decide +kernel
theorem d_Ta_nameEnd_56 : decode c_Ta_nameEnd 56 = .ok (.ireturn, 1) := by decide +kernel
theorem d_Ta_nameEnd_57 : decode c_Ta_nameEnd 57 = .ok (.iload 4, 2) := by decide +kernel
theorem d_Ta_nameEnd_59 : decode c_Ta_nameEnd 59 = .ok (.bipush 63, 2) := by decide +kernel
theorem d_Ta_nameEnd_61 : decode c_Ta_nameEnd 61 = .ok (.if_icmp .le 5, 3) := by decide +kernel
theorem d_Ta_nameEnd_64 : decode c_Ta_nameEnd 64 = .ok (.iconst (-1), 1) := by decide +kernel
theorem d_Ta_nameEnd_65 : decode c_Ta_nameEnd 65 = .ok (.ireturn, 1) := by decide +kernel
theorem d_Ta_nameEnd_66 : decode c_Ta_nameEnd 66 = .ok (.iload_n 2, 1) := by decide +kernel
theorem d_Ta_nameEnd_67 : decode c_Ta_nameEnd 67 = .ok (.iload 4, 2) := by decide +kernel
theorem d_Ta_nameEnd_69 : decode c_Ta_nameEnd 69 = .ok (.iadd, 1) := by decide +kernel
theorem d_Ta_nameEnd_70 : decode c_Ta_nameEnd 70 = .ok (.istore_n 2, 1) := by decide +kernel
theorem d_Ta_nameEnd_71 : decode c_Ta_nameEnd 71 = .ok (.iinc 3 1, 3) := by decide +kernel
theorem d_Ta_nameEnd_74 : decode c_Ta_nameEnd 74 = .ok (.goto (-70), 3) := by decide +kernel
theorem d_Ta_nameEnd_77 : decode c_Ta_nameEnd 77 = .ok (.iconst (-1), 1) := by decide +kernel
theorem d_Ta_nameEnd_78 : decode c_Ta_nameEnd 78 = .ok (.ireturn, 1) := by decide +kernel
abbrev rm_Ta_nameEnd : Room := { frames := 0, cells := 0, slots := 0, locals := 0 }
set_option maxHeartbeats 4000000 in
set_option maxRecDepth 100000 in
/-- Tape.nameEnd(x) -/
theorem t_Ta_nameEnd (l : Launch) (E : zc_E) (G : zg_G) (a b : Nat) (tp : List Int32) (hT : zTp E G a b tp) (hlen : tp.length ≤ 65536) (x : Nat) (hxn : x ≤ 2 ^ 20) : zMi l E y_Ta_nameEnd c_Ta_nameEnd 5 (some .int) rm_Ta_nameEnd [.ref a, .int (nI x)] G (fun (r : Int32) (G2 : zg_G) => zE (fun j => tp.getD (x + j) 0) (tp.length - x) x r ∧ G2 = G) := by
  refine zMi.of (by decide) (Nat.le_of_ble_eq_true rfl) ?_
  intro p e s m args below meth c Q hZ hG hret ls hl
  obtain ⟨hx, hb, hr, hts, hown, hlocks, hml, hnm, hbase, hK, hN, hQ⟩ := hZ
  have hl : lv_has ls 5 [(0, .ref a), (1, .int (nI x))] := hl
  have hS : zg_S (zc_b E) s.heap s.heap [] := va_S.rf
  obtain ⟨ha, n, f, hb0, hn1, hn2, hn3, hf, hft⟩ := id hT
  refine lv_iload_n hx hb d_Ta_nameEnd_0 rfl (lv_at hl 1 rfl) ?_
  refine lv_istore_n (lv' := [(2, .int (nI x)), (0, .ref a), (1, .int (nI x))]) hx hb d_Ta_nameEnd_1 rfl hl (by decide) rfl (fun ls hl => ?_)
  refine lv_iconst (v := 0) hx hb d_Ta_nameEnd_2 (by decide) ?_
  refine lv_istore_n (lv' := [(3, .int 0), (2, .int (nI x)), (0, .ref a), (1, .int (nI x))]) hx hb d_Ta_nameEnd_3 rfl hl (by decide) rfl (fun ls hl => ?_)
  have loop4 : ∀ (N : Nat) (d : Nat) (i : Nat) (ps : np_N), (tp.length - x + 64 - d) < N → (d ≤ tp.length - x + 64) → (i ≤ 128) → (ps.length = i) → (zI (fun j => tp.getD (x + j) 0) (tp.length - x) ps d) → ∀ (ls : Array Slot), lv_has ls 5 [(0, .ref a), (1, .int (nI x)), (2, .int (nI (x + d))), (3, .int (nI i))] → W p l e rm_Ta_nameEnd s m args below meth c s.heap [] 0 0 Q (F0 m 4 ls []) := by
    intro N
    induction N with
    | zero =>
      intro d i ps hlt
      exact absurd hlt (Nat.not_lt_zero _)
    | succ N ih =>
      intro d i ps hlt hd hi hps hI ls hl
      refine lv_iload_n hx hb d_Ta_nameEnd_4 rfl (lv_at hl 3 rfl) ?_
      refine lv_bipush (v := 127) hx hb d_Ta_nameEnd_5 (by decide) ?_
      refine lv_icmp_gt (tgt := 77) hx hb d_Ta_nameEnd_7 (by decide) (fun c7 => ?_) (fun c7 => ?_)
      · have b7 : 127 < i := (nI_ltI (a := 127) (b := i) (by omega) (by omega)).mp c7
        refine lv_iconst (v := -1) hx hb d_Ta_nameEnd_77 (by decide) ?_
        exact hret _ _ _ _ _ _ _ _ _ hr (rfl) (⟨by first | exact Or.inr ⟨zI_many hI (by omega), rfl⟩ | exact Or.inr ⟨zI_end hI (by omega), rfl⟩, rfl⟩) hG hS (Nat.le_refl _) (Nat.le_refl _) d_Ta_nameEnd_78
      · have b7 : ¬ 127 < i := fun q => c7 ((nI_ltI (a := 127) (b := i) (by omega) (by omega)).mpr q)
        refine lv_iload_n hx hb d_Ta_nameEnd_10 rfl (lv_at hl 2 rfl) ?_
        refine lv_if_lt (tgt := 77) hx hb d_Ta_nameEnd_11 (by decide) (fun c11 => ?_) (fun c11 => ?_)
        · have b11 : (x + d) < 0 := (nI_ltI (a := (x + d)) (b := 0) (by omega) (by omega)).mp c11
          exact absurd b11 (by omega)
        · have b11 : ¬ (x + d) < 0 := fun q => c11 ((nI_ltI (a := (x + d)) (b := 0) (by omega) (by omega)).mpr q)
          refine lv_iload_n hx hb d_Ta_nameEnd_14 rfl (lv_at hl 2 rfl) ?_
          refine lv_aload_n hx hb d_Ta_nameEnd_15 rfl (lv_at hl 0 rfl) ?_
          refine zg_get (ci := 7) (C := "ZoneAnswers$Tape") (T := T_Ta) (N := 2) hx hb hts zi_Ta hown hK hG ha rfl 1 (by decide) (hts _ w_52) (fun _ h9 => h9) rfl d_Ta_nameEnd_16 ?_
          refine lv_icmp_ge (tgt := 77) hx hb d_Ta_nameEnd_19 (by decide) (fun c19 => ?_) (fun c19 => ?_)
          · have b19 : tp.length ≤ (x + d) := (nI_leI (a := tp.length) (b := (x + d)) (by omega) (by omega)).mp c19
            refine lv_iconst (v := -1) hx hb d_Ta_nameEnd_77 (by decide) ?_
            exact hret _ _ _ _ _ _ _ _ _ hr (rfl) (⟨by first | exact Or.inr ⟨zI_many hI (by omega), rfl⟩ | exact Or.inr ⟨zI_end hI (by omega), rfl⟩, rfl⟩) hG hS (Nat.le_refl _) (Nat.le_refl _) d_Ta_nameEnd_78
          · have b19 : ¬ tp.length ≤ (x + d) := fun q => c19 ((nI_leI (a := tp.length) (b := (x + d)) (by omega) (by omega)).mpr q)
            obtain ⟨cc, hc1, hc2⟩ := zu8 (hft (x + d))
            have hF9 : tp.getD (x + d) 0 = sb_b cc := by rw [← hf _ (by omega)]; exact hc2
            refine lv_aload_n hx hb d_Ta_nameEnd_22 rfl (lv_at hl 0 rfl) ?_
            refine zg_get (ci := 7) (C := "ZoneAnswers$Tape") (T := T_Ta) (N := 2) hx hb hts zi_Ta hown hK hG ha rfl 0 (by decide) (hts _ w_51) (fun _ h9 => h9) rfl d_Ta_nameEnd_23 ?_
            refine lv_iload_n hx hb d_Ta_nameEnd_26 rfl (lv_at hl 2 rfl) ?_
            refine zg_bald hx hb hK hG 0 hb0 rfl (vp_in_nI (by omega) (by omega)) d_Ta_nameEnd_27 ?_
            refine zi_as (y := f (x + d)) (by rw [zi_n _ (by omega)]) ?_
            refine lv_sipush (v := 255) hx hb d_Ta_nameEnd_28 (by decide) ?_
            refine lv_iand hx hb d_Ta_nameEnd_31 ?_
            refine zi_as (y := nI cc) (by rw [hc2]; exact (sb_byte cc hc1).1) ?_
            refine lv_istore (lv' := [(4, .int (nI cc)), (0, .ref a), (1, .int (nI x)), (2, .int (nI (x + d))), (3, .int (nI i))]) hx hb d_Ta_nameEnd_32 hl (by decide) rfl (fun ls hl => ?_)
            refine lv_iinc (v := nI (x + d + 1)) (lv' := [(2, .int (nI (x + d + 1))), (4, .int (nI cc)), (0, .ref a), (1, .int (nI x)), (3, .int (nI i))]) hx hb d_Ta_nameEnd_34 hl (k := 3) rfl (nI_add (x + d) 1) (by decide) rfl (fun ls hl => ?_)
            refine lv_iload hx hb d_Ta_nameEnd_37 (lv_at hl 1 rfl) ?_
            refine lv_if_ne (tgt := 57) hx hb d_Ta_nameEnd_39 (by decide) (fun c39 => ?_) (fun c39 => ?_)
            · have b39 : ¬ cc = 0 := fun q => c39 ((nI_eq (a := cc) (b := 0) (by omega) (by omega)).mpr q)
              refine lv_iload hx hb d_Ta_nameEnd_57 (lv_at hl 1 rfl) ?_
              refine lv_bipush (v := 63) hx hb d_Ta_nameEnd_59 (by decide) ?_
              refine lv_icmp_le (tgt := 66) hx hb d_Ta_nameEnd_61 (by decide) (fun c61 => ?_) (fun c61 => ?_)
              · have b61 : cc ≤ 63 := (nI_leI (a := cc) (b := 63) (by omega) (by omega)).mp c61
                obtain ⟨ps2, hps2, hI2⟩ := zI_step hI (show (fun j => tp.getD (x + j) 0) d = nI cc from by show tp.getD (x + d) 0 = _; rw [hF9]; exact zc_all cc hc1 b61) (by omega) b61
                refine lv_iload_n hx hb d_Ta_nameEnd_66 rfl (lv_at hl 0 rfl) ?_
                refine lv_iload hx hb d_Ta_nameEnd_67 (lv_at hl 1 rfl) ?_
                refine lv_iadd hx hb d_Ta_nameEnd_69 ?_
                refine zi_as (y := nI (x + (d + 1 + cc))) (by rw [nI_add]; congr 1; omega) ?_
                refine lv_istore_n (lv' := [(2, .int (nI (x + (d + 1 + cc)))), (4, .int (nI cc)), (0, .ref a), (1, .int (nI x)), (3, .int (nI i))]) hx hb d_Ta_nameEnd_70 rfl hl (by decide) rfl (fun ls hl => ?_)
                refine lv_iinc (v := nI (i + 1)) (lv' := [(3, .int (nI (i + 1))), (2, .int (nI (x + (d + 1 + cc)))), (4, .int (nI cc)), (0, .ref a), (1, .int (nI x))]) hx hb d_Ta_nameEnd_71 hl (k := 4) rfl (nI_add i 1) (by decide) rfl (fun ls hl => ?_)
                refine lv_goto (tgt := 4) hx hb d_Ta_nameEnd_74 (by decide) ?_
                exact ih (d + 1 + cc) (i + 1) ps2 (by omega) (by omega) (by omega) (by omega) (hI2) ls (lv_sub hl [3, 4, 1, 0] rfl)
              · have b61 : ¬ cc ≤ 63 := fun q => c61 ((nI_leI (a := cc) (b := 63) (by omega) (by omega)).mpr q)
                have hno := zc_no hc1 (Nat.lt_of_not_le b61)
                refine lv_iconst (v := -1) hx hb d_Ta_nameEnd_64 (by decide) ?_
                exact hret _ _ _ _ _ _ _ _ _ hr (rfl) (⟨Or.inr ⟨zI_bad hI (fun mm hm e9 => hno mm hm (hF9.symm.trans e9)), rfl⟩, rfl⟩) hG hS (Nat.le_refl _) (Nat.le_refl _) d_Ta_nameEnd_65
            · have b39 : cc = 0 := (nI_eq (a := cc) (b := 0) (by omega) (by omega)).mp c39
              have hF0 : tp.getD (x + d) 0 = 0 := by rw [hF9, b39]; decide
              refine lv_iload_n hx hb d_Ta_nameEnd_42 rfl (lv_at hl 0 rfl) ?_
              refine lv_iload_n hx hb d_Ta_nameEnd_43 rfl (lv_at hl 3 rfl) ?_
              refine lv_isub hx hb d_Ta_nameEnd_44 ?_
              refine zi_as (y := nI (x + d + 1 - x)) (zi_sub (a := x + d + 1) (b := x) (by omega)) ?_
              refine lv_sipush (v := 255) hx hb d_Ta_nameEnd_45 (by decide) ?_
              refine lv_icmp_gt (tgt := 55) hx hb d_Ta_nameEnd_48 (by decide) (fun c48 => ?_) (fun c48 => ?_)
              · have b48 : 255 < (x + d + 1 - x) := (nI_ltI (a := 255) (b := (x + d + 1 - x)) (by omega) (by omega)).mp c48
                refine lv_iconst (v := -1) hx hb d_Ta_nameEnd_55 (by decide) ?_
                exact hret _ _ _ _ _ _ _ _ _ hr (rfl) (⟨by first | exact Or.inr ⟨(zI_zero hI hF0 (by omega)).2.2 (by omega), rfl⟩ | exact Or.inl ⟨ps, (zI_zero hI hF0 (by omega)).2.1 (by omega), by rw [(zI_zero hI hF0 (by omega)).1]; congr 1⟩, rfl⟩) hG hS (Nat.le_refl _) (Nat.le_refl _) d_Ta_nameEnd_56
              · have b48 : ¬ 255 < (x + d + 1 - x) := fun q => c48 ((nI_ltI (a := 255) (b := (x + d + 1 - x)) (by omega) (by omega)).mpr q)
                refine lv_iload_n hx hb d_Ta_nameEnd_51 rfl (lv_at hl 0 rfl) ?_
                refine lv_goto (tgt := 56) hx hb d_Ta_nameEnd_52 (by decide) ?_
                exact hret _ _ _ _ _ _ _ _ _ hr (rfl) (⟨by first | exact Or.inr ⟨(zI_zero hI hF0 (by omega)).2.2 (by omega), rfl⟩ | exact Or.inl ⟨ps, (zI_zero hI hF0 (by omega)).2.1 (by omega), by rw [(zI_zero hI hF0 (by omega)).1]; congr 1⟩, rfl⟩) hG hS (Nat.le_refl _) (Nat.le_refl _) d_Ta_nameEnd_56
  exact loop4 _ 0 0 ([]) (Nat.lt_succ_self _) (Nat.zero_le _) (Nat.zero_le _) (rfl) (zI_0) ls (lv_sub hl [2, 3, 1, 0] rfl)
set_option maxHeartbeats 4000000 in
set_option maxRecDepth 100000 in
/-- Tape.nameEnd(-1) -/
theorem t_Ta_nameEnd_m (l : Launch) (E : zc_E) (G : zg_G) (a b : Nat) (n : Int32) (ha : G a = some (.inr (7, [.ref b, .int n]))) : zMi l E y_Ta_nameEnd c_Ta_nameEnd 5 (some .int) rm_Ta_nameEnd [.ref a, .int (-1)] G (fun (r : Int32) (G2 : zg_G) => r = -1 ∧ G2 = G) := by
  refine zMi.of (by decide) (Nat.le_of_ble_eq_true rfl) ?_
  intro p e s m args below meth c Q hZ hG hret ls hl
  obtain ⟨hx, hb, hr, hts, hown, hlocks, hml, hnm, hbase, hK, hN, hQ⟩ := hZ
  have hl : lv_has ls 5 [(0, .ref a), (1, .int (-1))] := hl
  have hS : zg_S (zc_b E) s.heap s.heap [] := va_S.rf
  refine lv_iload_n hx hb d_Ta_nameEnd_0 rfl (lv_at hl 1 rfl) ?_
  refine lv_istore_n (lv' := [(2, .int (-1)), (0, .ref a), (1, .int (-1))]) hx hb d_Ta_nameEnd_1 rfl hl (by decide) rfl (fun ls hl => ?_)
  refine lv_iconst (v := 0) hx hb d_Ta_nameEnd_2 (by decide) ?_
  refine lv_istore_n (lv' := [(3, .int 0), (2, .int (-1)), (0, .ref a), (1, .int (-1))]) hx hb d_Ta_nameEnd_3 rfl hl (by decide) rfl (fun ls hl => ?_)
  refine lv_iload_n hx hb d_Ta_nameEnd_4 rfl (lv_at hl 0 rfl) ?_
  refine lv_bipush (v := 127) hx hb d_Ta_nameEnd_5 (by decide) ?_
  refine lv_icmp_gt (tgt := 77) hx hb d_Ta_nameEnd_7 (by decide) (fun c7 => ?_) (fun c7 => ?_)
  · have b7 : 127 < 0 := (nI_ltI (a := 127) (b := 0) (by omega) (by omega)).mp c7
    exact absurd b7 (by omega)
  · have b7 : ¬ 127 < 0 := fun q => c7 ((nI_ltI (a := 127) (b := 0) (by omega) (by omega)).mpr q)
    refine lv_iload_n hx hb d_Ta_nameEnd_10 rfl (lv_at hl 1 rfl) ?_
    refine lv_if_lt (tgt := 77) hx hb d_Ta_nameEnd_11 (by decide) (fun c11 => ?_) (fun c11 => ?_)
    · refine lv_iconst (v := -1) hx hb d_Ta_nameEnd_77 (by decide) ?_
      exact hret _ _ _ _ _ _ _ _ _ hr (rfl) (⟨rfl, rfl⟩) hG hS (Nat.le_refl _) (Nat.le_refl _) d_Ta_nameEnd_78
    · exact absurd (by decide) c11
