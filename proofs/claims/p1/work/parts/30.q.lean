theorem np_pos_app (ps rs : np_N) : np_pos (ps ++ rs) ps.length = np_pos ps ps.length := by
  induction ps with
  | nil => cases rs <;> rfl
  | cons l r ih => show l.length + 1 + np_pos (r ++ rs) r.length = l.length + 1 + np_pos r r.length; rw [ih]
theorem np_len_app (ps rs : np_N) : np_len (ps ++ rs) = np_pos ps ps.length + np_len rs := by
  have h := np_len_drop (ps ++ rs) ps.length (by simp)
  rw [np_pos_app, List.drop_left] at h
  exact h
theorem np_f_nil {F : Nat → Int32} : np_f [] F ↔ F 0 = 0 := by
  constructor
  · intro h; exact h 0 (by decide)
  · intro h j hj
    have : j = 0 := by have : j < 1 := hj; omega
    rw [this, h]; rfl
theorem np_len_cons (l : List Int32) (rs : np_N) : np_len (l :: rs) = l.length + 1 + np_len rs := by
  have h := np_len_drop (l :: rs) 1 (by simp)
  rw [h]
  show l.length + 1 + np_pos rs 0 + np_len rs = _
  have : np_pos rs 0 = 0 := by cases rs <;> rfl
  omega
theorem np_f_cons {l : List Int32} {rs : np_N} {F : Nat → Int32} : np_f (l :: rs) F ↔ F 0 = nI l.length ∧ (∀ j, j < l.length → F (1 + j) = l.getD j 0) ∧ np_f rs (fun j => F (l.length + 1 + j)) := by
  have he : np_enc (l :: rs) = nI l.length :: (l ++ np_enc rs) := rfl
  have hl := np_len_cons l rs
  have g1 : ∀ j, j < l.length → (np_enc (l :: rs)).getD (1 + j) 0 = l.getD j 0 := by
    intro j hj
    rw [he, Nat.add_comm, List.getD_cons_succ, List.getD_eq_getElem?_getD, List.getElem?_append_left hj, List.getD_eq_getElem?_getD]
  have g2 : ∀ j, (np_enc (l :: rs)).getD (l.length + 1 + j) 0 = (np_enc rs).getD j 0 := by
    intro j
    rw [he, show l.length + 1 + j = (l.length + j) + 1 by omega, List.getD_cons_succ, List.getD_eq_getElem?_getD, List.getElem?_append_right (by omega), List.getD_eq_getElem?_getD, show l.length + j - l.length = j by omega]
  constructor
  · intro h
    refine ⟨h 0 (by omega), fun j hj => ?_, fun j hj => ?_⟩
    · rw [h (1 + j) (by omega)]; exact g1 j hj
    · show F (l.length + 1 + j) = _
      rw [h (l.length + 1 + j) (by omega)]; exact g2 j
  · rintro ⟨h0, h1, h2⟩ j hj
    rcases Nat.lt_or_ge j 1 with q | q
    · rw [show j = 0 by omega, h0]; rfl
    · rcases Nat.lt_or_ge j (l.length + 1) with z | z
      · have := h1 (j - 1) (by omega)
        rw [← g1 (j - 1) (by omega), show 1 + (j - 1) = j by omega] at this
        exact this
      · have := h2 (j - (l.length + 1)) (by omega)
        dsimp only at this
        rw [← g2, show l.length + 1 + (j - (l.length + 1)) = j by omega] at this
        exact this
/-- a name begins there, among N bytes -/
def zNm (F : Nat → Int32) (N : Nat) (ls : np_N) : Prop := np_g ls ∧ np_len ls ≤ N ∧ np_f ls F
/-- where the name ends that begins at a, or -1 -/
def zE (F : Nat → Int32) (N a : Nat) (r : Int32) : Prop := (∃ ls, zNm F N ls ∧ r = nI (a + np_len ls)) ∨ ((¬ ∃ ls, zNm F N ls) ∧ r = -1)
/-- the labels that have been read -/
def zI (F : Nat → Int32) (N : Nat) (ps : np_N) (d : Nat) : Prop := np_ok ps ∧ d = np_pos ps ps.length ∧ (∀ rs, np_f rs (fun j => F (d + j)) → np_f (ps ++ rs) F) ∧ ∀ ls, zNm F N ls → ∃ rs, ls = ps ++ rs ∧ np_f rs (fun j => F (d + j))
theorem zI_0 {F : Nat → Int32} {N : Nat} : zI F N [] 0 := by
  unfold zI
  refine ⟨fun l h => absurd h List.not_mem_nil, rfl, fun rs h => ?_, fun ls h => ⟨ls, rfl, ?_⟩⟩
  · intro j hj; have this : F (0 + j) = (np_enc rs).getD j 0 := h j hj; rw [Nat.zero_add] at this; exact this
  · intro j hj; show F (0 + j) = _; rw [Nat.zero_add]; exact h.2.2 j hj
theorem zI_step {F : Nat → Int32} {N : Nat} {ps : np_N} {d mm : Nat} (h : zI F N ps d) (hF : F d = nI mm) (h1 : 1 ≤ mm) (h2 : mm ≤ 63) : ∃ ps2, ps2.length = ps.length + 1 ∧ zI F N ps2 (d + 1 + mm) := by
  obtain ⟨ho, hd, h3, h4⟩ := h
  have hll : ((List.range mm).map (fun j => F (d + 1 + j))).length = mm := by simp
  refine ⟨ps ++ [(List.range mm).map (fun j => F (d + 1 + j))], by simp, ?_, ?_, ?_, ?_⟩
  · intro l hl
    rcases List.mem_append.mp hl with q | q
    · exact ho l q
    · rw [List.mem_singleton.mp q]; exact ⟨by omega, by omega⟩
  · have e := np_len_app ps [(List.range mm).map (fun j => F (d + 1 + j))]
    rw [np_len_cons, hll] at e
    unfold np_len at e
    have : np_pos ([] : np_N) ([] : np_N).length = 0 := rfl
    omega
  · intro rs hrs
    rw [List.append_assoc]
    refine h3 _ (np_f_cons.mpr ⟨by rw [hll]; exact hF, fun j hj => ?_, ?_⟩)
    · rw [hll] at hj
      rw [show d + (1 + j) = d + 1 + j by omega, List.getD_eq_getElem?_getD]
      simp [hj]
    · intro j hj
      rw [hll]
      have := hrs j hj
      dsimp only at this ⊢
      rw [show d + (mm + 1 + j) = d + 1 + mm + j by omega]
      exact this
  · intro ls hls
    obtain ⟨rs, e, hrs⟩ := h4 ls hls
    cases rs with
    | nil =>
      have this : F (d + 0) = 0 := np_f_nil.mp hrs
      rw [Nat.add_zero, hF] at this
      exact absurd this (nI_ne0 (by omega) (by omega))
    | cons l r =>
      obtain ⟨q0, q1, q2⟩ := np_f_cons.mp hrs
      have q0 : F (d + 0) = nI l.length := q0
      have q1 : ∀ j, j < l.length → F (d + (1 + j)) = l.getD j 0 := q1
      rw [Nat.add_zero, hF] at q0
      have hlab : np_lab l := hls.1.1 l (by rw [e]; simp)
      have hlen : mm = l.length := (nI_eq (by omega) (by have := hlab.2; omega)).mp q0
      have el : l = (List.range mm).map (fun j => F (d + 1 + j)) := by
        refine List.ext_getElem (by rw [hll, hlen]) fun j hj hj2 => ?_
        have := q1 j hj
        rw [List.getD_eq_getElem?_getD, List.getElem?_eq_getElem hj] at this
        simp only [Option.getD_some] at this
        rw [← this]
        simp
        congr 1
        omega
      refine ⟨r, by rw [e, el]; simp, fun j hj => ?_⟩
      have := q2 j hj
      dsimp only at this
      rw [show d + (l.length + 1 + j) = d + 1 + mm + j by omega] at this
      exact this
theorem zI_zero {F : Nat → Int32} {N : Nat} {ps : np_N} {d : Nat} (h : zI F N ps d) (hF : F d = 0) (hd : d < N) : np_len ps = d + 1 ∧ (d + 1 ≤ 255 → zNm F N ps) ∧ (255 < d + 1 → ¬ ∃ ls, zNm F N ls) := by
  obtain ⟨ho, he, h3, h4⟩ := h
  have hl : np_len ps = d + 1 := by unfold np_len; omega
  refine ⟨hl, fun q => ⟨⟨ho, by omega⟩, by omega, ?_⟩, fun q => ?_⟩
  · have := h3 [] (np_f_nil.mpr hF)
    rw [List.append_nil] at this
    exact this
  · rintro ⟨ls, hls⟩
    obtain ⟨rs, e, hrs⟩ := h4 ls hls
    have h5 := hls.1.2
    rw [e, np_len_app] at h5
    have : 1 ≤ np_len rs := by unfold np_len; omega
    omega
theorem zI_end {F : Nat → Int32} {N : Nat} {ps : np_N} {d : Nat} (h : zI F N ps d) (hd : N ≤ d) : ¬ ∃ ls, zNm F N ls := by
  rintro ⟨ls, hls⟩
  obtain ⟨ho, he, h3, h4⟩ := h
  obtain ⟨rs, e, hrs⟩ := h4 ls hls
  have h5 := hls.2.1
  rw [e, np_len_app] at h5
  have : 1 ≤ np_len rs := by unfold np_len; omega
  omega
theorem zI_bad {F : Nat → Int32} {N : Nat} {ps : np_N} {d : Nat} (h : zI F N ps d) (hF : ∀ mm, mm ≤ 63 → F d ≠ nI mm) : ¬ ∃ ls, zNm F N ls := by
  rintro ⟨ls, hls⟩
  obtain ⟨ho, he, h3, h4⟩ := h
  obtain ⟨rs, e, hrs⟩ := h4 ls hls
  cases rs with
  | nil => exact hF 0 (by omega) (by rw [nI_0]; exact np_f_nil.mp hrs)
  | cons l r =>
    have hlab : np_lab l := hls.1.1 l (by rw [e]; simp)
    exact hF l.length hlab.2 (np_f_cons.mp hrs).1
theorem zI_many {F : Nat → Int32} {N : Nat} {ps : np_N} {d : Nat} (h : zI F N ps d) (hp : 127 < ps.length) : ¬ ∃ ls, zNm F N ls := by
  rintro ⟨ls, hls⟩
  obtain ⟨rs, e, -⟩ := h.2.2.2 ls hls
  have := hls.1.count
  rw [e, List.length_append] at this
  omega
theorem zm_of {b : Int32} (h0 : ¬ b = 0) (h1 : ¬ b < 0) (h2 : b ≤ 63) : ∃ mm, 1 ≤ mm ∧ mm ≤ 63 ∧ b = nI mm := by
  obtain ⟨j, hj, e⟩ := nI_of2 (n := 63) (by decide) h1 h2
  refine ⟨j, ?_, hj, e⟩
  rcases Nat.eq_zero_or_pos j with q | q
  · rw [q, nI_0] at e; exact absurd e h0
  · exact q
theorem zm_no {b : Int32} (h : b < 0 ∨ ¬ b ≤ 63) : ∀ mm, mm ≤ 63 → b ≠ nI mm := by
  intro mm hm e
  rcases h with q | q
  · rw [e] at q; exact nI_pos (by omega) q
  · rw [e] at q; exact q ((nI_leI (a := mm) (b := 63) (by omega) (by omega)).mpr hm)
abbrev c_Ns_end : ByteArray := prog_13_method_2_code
abbrev y_Ns_end : MethodName := ⟨"ZoneAnswersModel$Names", "end", "([BII)I"⟩
theorem d_Ns_end_0 : decode c_Ns_end 0 = .ok (.iload_n 1, 1) := by decide +kernel
theorem d_Ns_end_1 : decode c_Ns_end 1 = .ok (.istore_n 3, 1) := by decide +kernel
theorem d_Ns_end_2 : decode c_Ns_end 2 = .ok (.iload_n 3, 1) := by decide +kernel
theorem d_Ns_end_3 : decode c_Ns_end 3 = .ok (.iload_n 2, 1) := by decide +kernel
theorem d_Ns_end_4 : decode c_Ns_end 4 = .ok (.if_icmp .ge 36, 3) := by decide +kernel
theorem d_Ns_end_7 : decode c_Ns_end 7 = .ok (.aload_n 0, 1) := by decide +kernel
theorem d_Ns_end_8 : decode c_Ns_end 8 = .ok (.iload_n 3, 1) := by decide +kernel
theorem d_Ns_end_9 : decode c_Ns_end 9 = .ok (.baload, 1) := by decide +kernel
theorem d_Ns_end_10 : decode c_Ns_end 10 = .ok (.ifCond .eq 30, 3) := by decide +kernel
theorem d_Ns_end_13 : decode c_Ns_end 13 = .ok (.aload_n 0, 1) := by decide +kernel
theorem d_Ns_end_14 : decode c_Ns_end 14 = .ok (.iload_n 3, 1) := by decide +kernel
theorem d_Ns_end_15 : decode c_Ns_end 15 = .ok (.baload, 1) := by decide +kernel
theorem d_Ns_end_16 : decode c_Ns_end 16 = .ok (.ifCond .lt 11, 3) := by decide +kernel
theorem d_Ns_end_19 : decode c_Ns_end 19 = .ok (.aload_n 0, 1) := by decide +kernel
theorem d_Ns_end_20 : decode c_Ns_end 20 = .ok (.iload_n 3, 1) := by decide +kernel
theorem d_Ns_end_21 : decode c_Ns_end 21 = .ok (.baload, 1) := by decide +kernel
theorem d_Ns_end_22 : decode c_Ns_end 22 = .ok (.bipush 63, 2) := by decide +kernel
theorem d_Ns_end_24 : decode c_Ns_end 24 = .ok (.if_icmp .le 5, 3) := by decide +kernel
theorem d_Ns_end_27 : decode c_Ns_end 27 = .ok (.iconst (-1), 1) := by decide +kernel
theorem d_Ns_end_28 : decode c_Ns_end 28 = .ok (.ireturn, 1) := by decide +kernel
theorem d_Ns_end_29 : decode c_Ns_end 29 = .ok (.iload_n 3, 1) := by decide +kernel
theorem d_Ns_end_30 : decode c_Ns_end 30 = .ok (.iconst 1, 1) := by decide +kernel
theorem d_Ns_end_31 : decode c_Ns_end 31 = .ok (.aload_n 0, 1) := by decide +kernel
theorem d_Ns_end_32 : decode c_Ns_end 32 = .ok (.iload_n 3, 1) := by decide +kernel
theorem d_Ns_end_33 : decode c_Ns_end 33 = .ok (.baload, 1) := by decide +kernel
theorem d_Ns_end_34 : decode c_Ns_end 34 = .ok (.iadd, 1) := by decide +kernel
theorem d_Ns_end_35 : decode c_Ns_end 35 = .ok (.iadd, 1) := by decide +kernel
theorem d_Ns_end_36 : decode c_Ns_end 36 = .ok (.istore_n 3, 1) := by decide +kernel
theorem d_Ns_end_37 : decode c_Ns_end 37 = .ok (.goto (-35), 3) := by decide +kernel
theorem d_Ns_end_40 : decode c_Ns_end 40 = .ok (.iload_n 3, 1) := by decide +kernel
theorem d_Ns_end_41 : decode c_Ns_end 41 = .ok (.iload_n 2, 1) := by decide +kernel
theorem d_Ns_end_42 : decode c_Ns_end 42 = .ok (.if_icmp .ge 14, 3) := by decide +kernel
theorem d_Ns_end_45 : decode c_Ns_end 45 = .ok (.iload_n 3, 1) := by decide +kernel
theorem d_Ns_end_46 : decode c_Ns_end 46 = .ok (.iconst 1, 1) := by decide +kernel
theorem d_Ns_end_47 : decode c_Ns_end 47 = .ok (.iadd, 1) := by decide +kernel
theorem d_Ns_end_48 : decode c_Ns_end 48 = .ok (.iload_n 1, 1) := by decide +kernel
theorem d_Ns_end_49 : decode c_Ns_end 49 = .ok (.isub, 1) := by decide +kernel
theorem d_Ns_end_50 : decode c_Ns_end 50 = .ok (.sipush 255, 3) := by decide +kernel
theorem d_Ns_end_53 : decode c_Ns_end 53 = .ok (.if_icmp .le 7, 3) := by decide +kernel
theorem d_Ns_end_56 : decode c_Ns_end 56 = .ok (.iconst (-1), 1) := by decide +kernel
theorem d_Ns_end_57 : decode c_Ns_end 57 = .ok (.goto 6, 3) := by decide +kernel
theorem d_Ns_end_60 : decode c_Ns_end 60 = .ok (.iload_n 3, 1) := by decide +kernel
theorem d_Ns_end_61 : decode c_Ns_end 61 = .ok (.iconst 1, 1) := by decide +kernel
theorem d_Ns_end_62 : decode c_Ns_end 62 = .ok (.iadd, 1) := by decide +kernel
theorem d_Ns_end_63 : decode c_Ns_end 63 = .ok (.ireturn, 1) := by decide +kernel
abbrev rm_Ns_end : Room := { frames := 0, cells := 0, slots := 0, locals := 0 }
set_option maxHeartbeats 4000000 in
set_option maxRecDepth 100000 in
/-- Names.end(t, x, y), of the reference -/
theorem t_Ns_end (l : Launch) (E : zc_E) (G : zg_G) (b0 n0 : Nat) (f0 : Nat → Int32) (h0 : G b0 = some (.inl (E.2.1 0, n0, .inl f0))) (hft : sb_Fit f0) (hn0 : n0 < 2 ^ 24) (x y : Nat) (hyn : y ≤ n0) (hxn : x ≤ 2 ^ 24) : zMi l E y_Ns_end c_Ns_end 4 (some .int) rm_Ns_end [.ref b0, .int (nI x), .int (nI y)] G (fun (r : Int32) (G2 : zg_G) => zE (fun j => f0 (x + j)) (y - x) x r ∧ G2 = G) := by
  refine zMi.of (by decide) (Nat.le_of_ble_eq_true rfl) ?_
  intro p e s m args below meth c Q hZ hG hret ls hl
  obtain ⟨hx, hb, hr, hts, hown, hlocks, hml, hnm, hbase, hK, hN, hQ⟩ := hZ
  have hl : lv_has ls 4 [(0, .ref b0), (1, .int (nI x)), (2, .int (nI y))] := hl
  have hS : zg_S (zc_b E) s.heap s.heap [] := va_S.rf
  refine lv_iload_n hx hb d_Ns_end_0 rfl (lv_at hl 1 rfl) ?_
  refine lv_istore_n (lv' := [(3, .int (nI x)), (0, .ref b0), (1, .int (nI x)), (2, .int (nI y))]) hx hb d_Ns_end_1 rfl hl (by decide) rfl (fun ls hl => ?_)
  have loop2 : ∀ (N : Nat) (d : Nat) (ps : np_N), (y - x + 64 - d) < N → (d ≤ y - x + 64) → (zI (fun j => f0 (x + j)) (y - x) ps d) → ∀ (ls : Array Slot), lv_has ls 4 [(0, .ref b0), (1, .int (nI x)), (2, .int (nI y)), (3, .int (nI (x + d)))] → W p l e rm_Ns_end s m args below meth c s.heap [] 0 0 Q (F0 m 2 ls []) := by
    intro N
    induction N with
    | zero =>
      intro d ps hlt
      exact absurd hlt (Nat.not_lt_zero _)
    | succ N ih =>
      intro d ps hlt hd hI ls hl
      refine lv_iload_n hx hb d_Ns_end_2 rfl (lv_at hl 3 rfl) ?_
      refine lv_iload_n hx hb d_Ns_end_3 rfl (lv_at hl 2 rfl) ?_
      refine lv_icmp_ge (tgt := 40) hx hb d_Ns_end_4 (by decide) (fun c4 => ?_) (fun c4 => ?_)
      · have b4 : y ≤ (x + d) := (nI_leI (a := y) (b := (x + d)) (by omega) (by omega)).mp c4
        refine lv_iload_n hx hb d_Ns_end_40 rfl (lv_at hl 3 rfl) ?_
        refine lv_iload_n hx hb d_Ns_end_41 rfl (lv_at hl 2 rfl) ?_
        refine lv_icmp_ge (tgt := 56) hx hb d_Ns_end_42 (by decide) (fun c42 => ?_) (fun c42 => ?_)
        · have b42 : y ≤ (x + d) := (nI_leI (a := y) (b := (x + d)) (by omega) (by omega)).mp c42
          refine lv_iconst (v := -1) hx hb d_Ns_end_56 (by decide) ?_
          refine lv_goto (tgt := 63) hx hb d_Ns_end_57 (by decide) ?_
          exact hret _ _ _ _ _ _ _ _ _ hr (rfl) (⟨by first | exact Or.inr ⟨zI_end hI (by omega), rfl⟩ | exact Or.inr ⟨(zI_zero hI c10 (by omega)).2.2 (by omega), rfl⟩ | exact Or.inl ⟨ps, (zI_zero hI c10 (by omega)).2.1 (by omega), by rw [(zI_zero hI c10 (by omega)).1]; congr 1⟩ | (exfalso; omega), rfl⟩) hG hS (Nat.le_refl _) (Nat.le_refl _) d_Ns_end_63
        · have b42 : ¬ y ≤ (x + d) := fun q => c42 ((nI_leI (a := y) (b := (x + d)) (by omega) (by omega)).mpr q)
          refine lv_iload_n hx hb d_Ns_end_45 rfl (lv_at hl 3 rfl) ?_
          refine lv_iconst (v := 1) hx hb d_Ns_end_46 (by decide) ?_
          refine lv_iadd hx hb d_Ns_end_47 ?_
          refine zi_as (y := nI (x + d + 1)) (nI_add (x + d) 1) ?_
          refine lv_iload_n hx hb d_Ns_end_48 rfl (lv_at hl 1 rfl) ?_
          refine lv_isub hx hb d_Ns_end_49 ?_
          refine zi_as (y := nI (x + d + 1 - x)) (zi_sub (a := x + d + 1) (b := x) (by omega)) ?_
          refine lv_sipush (v := 255) hx hb d_Ns_end_50 (by decide) ?_
          refine lv_icmp_le (tgt := 60) hx hb d_Ns_end_53 (by decide) (fun c53 => ?_) (fun c53 => ?_)
          · have b53 : (x + d + 1 - x) ≤ 255 := (nI_leI (a := (x + d + 1 - x)) (b := 255) (by omega) (by omega)).mp c53
            refine lv_iload_n hx hb d_Ns_end_60 rfl (lv_at hl 3 rfl) ?_
            refine lv_iconst (v := 1) hx hb d_Ns_end_61 (by decide) ?_
            refine lv_iadd hx hb d_Ns_end_62 ?_
            refine zi_as (y := nI (x + d + 1)) (nI_add (x + d) 1) ?_
            exact hret _ _ _ _ _ _ _ _ _ hr (rfl) (⟨by first | exact Or.inr ⟨zI_end hI (by omega), rfl⟩ | exact Or.inr ⟨(zI_zero hI c10 (by omega)).2.2 (by omega), rfl⟩ | exact Or.inl ⟨ps, (zI_zero hI c10 (by omega)).2.1 (by omega), by rw [(zI_zero hI c10 (by omega)).1]; congr 1⟩ | (exfalso; omega), rfl⟩) hG hS (Nat.le_refl _) (Nat.le_refl _) d_Ns_end_63
          · have b53 : ¬ (x + d + 1 - x) ≤ 255 := fun q => c53 ((nI_leI (a := (x + d + 1 - x)) (b := 255) (by omega) (by omega)).mpr q)
            refine lv_iconst (v := -1) hx hb d_Ns_end_56 (by decide) ?_
            refine lv_goto (tgt := 63) hx hb d_Ns_end_57 (by decide) ?_
            exact hret _ _ _ _ _ _ _ _ _ hr (rfl) (⟨by first | exact Or.inr ⟨zI_end hI (by omega), rfl⟩ | exact Or.inr ⟨(zI_zero hI c10 (by omega)).2.2 (by omega), rfl⟩ | exact Or.inl ⟨ps, (zI_zero hI c10 (by omega)).2.1 (by omega), by rw [(zI_zero hI c10 (by omega)).1]; congr 1⟩ | (exfalso; omega), rfl⟩) hG hS (Nat.le_refl _) (Nat.le_refl _) d_Ns_end_63
      · have b4 : ¬ y ≤ (x + d) := fun q => c4 ((nI_leI (a := y) (b := (x + d)) (by omega) (by omega)).mpr q)
        refine lv_aload_n hx hb d_Ns_end_7 rfl (lv_at hl 0 rfl) ?_
        refine lv_iload_n hx hb d_Ns_end_8 rfl (lv_at hl 3 rfl) ?_
        refine zg_bald hx hb hK hG 0 h0 rfl (vp_in_nI (by omega) (by omega)) d_Ns_end_9 ?_
        refine zi_as (y := f0 (x + d)) (by rw [zi_n _ (by omega)]) ?_
        refine lv_if_eq (tgt := 40) hx hb d_Ns_end_10 (by decide) (fun c10 => ?_) (fun c10 => ?_)
        · refine lv_iload_n hx hb d_Ns_end_40 rfl (lv_at hl 3 rfl) ?_
          refine lv_iload_n hx hb d_Ns_end_41 rfl (lv_at hl 2 rfl) ?_
          refine lv_icmp_ge (tgt := 56) hx hb d_Ns_end_42 (by decide) (fun c42 => ?_) (fun c42 => ?_)
          · have b42 : y ≤ (x + d) := (nI_leI (a := y) (b := (x + d)) (by omega) (by omega)).mp c42
            refine lv_iconst (v := -1) hx hb d_Ns_end_56 (by decide) ?_
            refine lv_goto (tgt := 63) hx hb d_Ns_end_57 (by decide) ?_
            exact hret _ _ _ _ _ _ _ _ _ hr (rfl) (⟨by first | exact Or.inr ⟨zI_end hI (by omega), rfl⟩ | exact Or.inr ⟨(zI_zero hI c10 (by omega)).2.2 (by omega), rfl⟩ | exact Or.inl ⟨ps, (zI_zero hI c10 (by omega)).2.1 (by omega), by rw [(zI_zero hI c10 (by omega)).1]; congr 1⟩ | (exfalso; omega), rfl⟩) hG hS (Nat.le_refl _) (Nat.le_refl _) d_Ns_end_63
          · have b42 : ¬ y ≤ (x + d) := fun q => c42 ((nI_leI (a := y) (b := (x + d)) (by omega) (by omega)).mpr q)
            refine lv_iload_n hx hb d_Ns_end_45 rfl (lv_at hl 3 rfl) ?_
            refine lv_iconst (v := 1) hx hb d_Ns_end_46 (by decide) ?_
            refine lv_iadd hx hb d_Ns_end_47 ?_
            refine zi_as (y := nI (x + d + 1)) (nI_add (x + d) 1) ?_
            refine lv_iload_n hx hb d_Ns_end_48 rfl (lv_at hl 1 rfl) ?_
            refine lv_isub hx hb d_Ns_end_49 ?_
            refine zi_as (y := nI (x + d + 1 - x)) (zi_sub (a := x + d + 1) (b := x) (by omega)) ?_
            refine lv_sipush (v := 255) hx hb d_Ns_end_50 (by decide) ?_
            refine lv_icmp_le (tgt := 60) hx hb d_Ns_end_53 (by decide) (fun c53 => ?_) (fun c53 => ?_)
            · have b53 : (x + d + 1 - x) ≤ 255 := (nI_leI (a := (x + d + 1 - x)) (b := 255) (by omega) (by omega)).mp c53
              refine lv_iload_n hx hb d_Ns_end_60 rfl (lv_at hl 3 rfl) ?_
              refine lv_iconst (v := 1) hx hb d_Ns_end_61 (by decide) ?_
              refine lv_iadd hx hb d_Ns_end_62 ?_
              refine zi_as (y := nI (x + d + 1)) (nI_add (x + d) 1) ?_
              exact hret _ _ _ _ _ _ _ _ _ hr (rfl) (⟨by first | exact Or.inr ⟨zI_end hI (by omega), rfl⟩ | exact Or.inr ⟨(zI_zero hI c10 (by omega)).2.2 (by omega), rfl⟩ | exact Or.inl ⟨ps, (zI_zero hI c10 (by omega)).2.1 (by omega), by rw [(zI_zero hI c10 (by omega)).1]; congr 1⟩ | (exfalso; omega), rfl⟩) hG hS (Nat.le_refl _) (Nat.le_refl _) d_Ns_end_63
            · have b53 : ¬ (x + d + 1 - x) ≤ 255 := fun q => c53 ((nI_leI (a := (x + d + 1 - x)) (b := 255) (by omega) (by omega)).mpr q)
              refine lv_iconst (v := -1) hx hb d_Ns_end_56 (by decide) ?_
              refine lv_goto (tgt := 63) hx hb d_Ns_end_57 (by decide) ?_
              exact hret _ _ _ _ _ _ _ _ _ hr (rfl) (⟨by first | exact Or.inr ⟨zI_end hI (by omega), rfl⟩ | exact Or.inr ⟨(zI_zero hI c10 (by omega)).2.2 (by omega), rfl⟩ | exact Or.inl ⟨ps, (zI_zero hI c10 (by omega)).2.1 (by omega), by rw [(zI_zero hI c10 (by omega)).1]; congr 1⟩ | (exfalso; omega), rfl⟩) hG hS (Nat.le_refl _) (Nat.le_refl _) d_Ns_end_63
        · refine lv_aload_n hx hb d_Ns_end_13 rfl (lv_at hl 0 rfl) ?_
          refine lv_iload_n hx hb d_Ns_end_14 rfl (lv_at hl 3 rfl) ?_
          refine zg_bald hx hb hK hG 0 h0 rfl (vp_in_nI (by omega) (by omega)) d_Ns_end_15 ?_
          refine zi_as (y := f0 (x + d)) (by rw [zi_n _ (by omega)]) ?_
          refine lv_if_lt (tgt := 27) hx hb d_Ns_end_16 (by decide) (fun c16 => ?_) (fun c16 => ?_)
          · refine lv_iconst (v := -1) hx hb d_Ns_end_27 (by decide) ?_
            exact hret _ _ _ _ _ _ _ _ _ hr (rfl) (⟨Or.inr ⟨zI_bad hI (zm_no (by first | exact Or.inl c16 | exact Or.inr c24)), rfl⟩, rfl⟩) hG hS (Nat.le_refl _) (Nat.le_refl _) d_Ns_end_28
          · refine lv_aload_n hx hb d_Ns_end_19 rfl (lv_at hl 0 rfl) ?_
            refine lv_iload_n hx hb d_Ns_end_20 rfl (lv_at hl 3 rfl) ?_
            refine zg_bald hx hb hK hG 0 h0 rfl (vp_in_nI (by omega) (by omega)) d_Ns_end_21 ?_
            refine zi_as (y := f0 (x + d)) (by rw [zi_n _ (by omega)]) ?_
            refine lv_bipush (v := 63) hx hb d_Ns_end_22 (by decide) ?_
            refine lv_icmp_le (tgt := 29) hx hb d_Ns_end_24 (by decide) (fun c24 => ?_) (fun c24 => ?_)
            · obtain ⟨mm, hm1, hm2, hm⟩ := zm_of c10 c16 c24
              obtain ⟨ps2, hps2, hI2⟩ := zI_step hI hm hm1 hm2
              refine lv_iload_n hx hb d_Ns_end_29 rfl (lv_at hl 3 rfl) ?_
              refine lv_iconst (v := 1) hx hb d_Ns_end_30 (by decide) ?_
              refine lv_aload_n hx hb d_Ns_end_31 rfl (lv_at hl 0 rfl) ?_
              refine lv_iload_n hx hb d_Ns_end_32 rfl (lv_at hl 3 rfl) ?_
              refine zg_bald hx hb hK hG 0 h0 rfl (vp_in_nI (by omega) (by omega)) d_Ns_end_33 ?_
              refine zi_as (y := nI mm) (by rw [zi_n _ (by omega)]; exact hm) ?_
              refine lv_iadd hx hb d_Ns_end_34 ?_
              refine zi_as (y := nI (1 + mm)) (nI_add 1 mm) ?_
              refine lv_iadd hx hb d_Ns_end_35 ?_
              refine zi_as (y := nI (x + (d + 1 + mm))) (by rw [nI_add]; congr 1; omega) ?_
              refine lv_istore_n (lv' := [(3, .int (nI (x + (d + 1 + mm)))), (0, .ref b0), (1, .int (nI x)), (2, .int (nI y))]) hx hb d_Ns_end_36 rfl hl (by decide) rfl (fun ls hl => ?_)
              refine lv_goto (tgt := 2) hx hb d_Ns_end_37 (by decide) ?_
              exact ih (d + 1 + mm) ps2 (by omega) (by omega) (hI2) ls (lv_sub hl [1, 2, 3, 0] rfl)
            · refine lv_iconst (v := -1) hx hb d_Ns_end_27 (by decide) ?_
              exact hret _ _ _ _ _ _ _ _ _ hr (rfl) (⟨Or.inr ⟨zI_bad hI (zm_no (by first | exact Or.inl c16 | exact Or.inr c24)), rfl⟩, rfl⟩) hG hS (Nat.le_refl _) (Nat.le_refl _) d_Ns_end_28
  exact loop2 _ 0 ([]) (Nat.lt_succ_self _) (Nat.zero_le _) (zI_0) ls (lv_sub hl [1, 2, 3, 0] rfl)
