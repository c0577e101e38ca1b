/-! BEHIND A CALL: the account and what stays true -/
/-- class and reference stand in the same state, i calls are done -/
def zRl (E : zc_E) (G : zg_G) (xo mo out i C S : Nat) : Prop := ∃ ro A rs c1 c2 th fo u g p q, zOA E G ro xo A ∧ rOm E G ro mo c1 c2 rs A th ∧ G out = some (oLg E fo) ∧ ro out = (15, 0) ∧ zIv A ∧ zCt A rs c1 c2 u g p q C S ∧ u + g = i
section FIN
variable {E : zc_E} {G2 : zg_G} {ro2 : zRo} {a : Nat} {A B : zA4} {rs rs2 : List zRt} {c1 c2 u g p q C S cC cS n m : Nat} {k r : Int32}
theorem fin_f (hct : zCt A rs c1 c2 u g p q C S) (h1 : cC ≤ 40) (h2 : cS ≤ 2 * A.1.length + 1410) (hB : B.1.length ≤ A.1.length) (hW : B.2.2.2 = A.2.2.2) (hm : (k = 0 ∧ rMo rs A rs2 B 0 0) ∨ (rs2 = rs ∧ B = A)) : ∃ u' g' p' q', zCt B rs2 c1 c2 u' g' p' q' (C + cC) (S + cS) ∧ u' + g' = u + g + 1 :=
  ⟨u + 1, g, p, q, hct.tf h1 h2 hB hW (hm.imp (fun z => z.2) id), by omega⟩
theorem fin_g (hct : zCt A rs c1 c2 u g p q C S) (hT : k = 0 → 0 < A.1.length ∧ B.1.length = 0) (h1 : cC ≤ 40) (hf : k = 0 ∨ cS ≤ 2 * A.1.length + 1410) (hg : k = 0 → cS ≤ 4 * A.1.length + 6 * (p + 1) + 1800) (hn : n ≤ 1) (hm1 : m ≤ 1) (hW : B.2.2.2 = A.2.2.2) (hm : (k = 0 ∧ rMo rs A rs2 B n m) ∨ (rs2 = rs ∧ B = A)) : ∃ u' g' p' q', zCt B rs2 c1 c2 u' g' p' q' (C + cC) (S + cS) ∧ u' + g' = u + g + 1 := by
  rcases hm with ⟨hk, hm⟩ | ⟨rfl, rfl⟩
  · exact ⟨u, g + 1, p + n, q, hct.tg (hT hk).1 h1 (hg hk) (hT hk).2 hW hn hm1 hm, by omega⟩
  · have hk : ¬ k = 0 := fun z => by have := hT z; omega
    exact ⟨u + 1, g, p, q, hct.tf h1 (hf.resolve_left hk) (Nat.le_refl _) rfl (Or.inr ⟨rfl, rfl⟩), by omega⟩
theorem zIv.st (hI : zIv A) (h : B.2 = A.2) : zIv B := by
  unfold zIv at hI ⊢
  rw [h]; exact hI
theorem iv_of {d1 d2 : Nat} {th : Int32} (hO : rOm E G2 ro2 a d1 d2 rs2 B th) (h5 : ∀ x, (B.2.1 x 5).length ≤ 1) (hW : wsm B.2.2.2 ∧ wDt (2 ^ 20) B.2.2.2) : zIv B := by
  obtain ⟨tp, V, top, W⟩ := B
  have hg := hO.gd
  have e := hO.2
  dsimp only at e hg h5 hW
  subst e
  exact zIv_of hg h5 hW
theorem zIv.w (hI : zIv A) : wsm A.2.2.2 ∧ wDt (2 ^ 20) A.2.2.2 := hI.2.2.2.2
theorem aft_feed {x1 x2 x3 x4 x5 : Int32} (hct : zCt A rs c1 c2 u g p q C S) (hI : zIv A) (hs : sFeed x1 x2 x3 x4 x5 A k r B) (hW : B.2.2.2 = A.2.2.2) (hm : (k = 0 ∧ rMo rs A rs2 B 0 20) ∨ (rs2 = rs ∧ B = A)) : (∃ u' g' p' q', zCt B rs2 c1 c2 u' g' p' q' (C + 5) (S + (2 * A.1.length + 46)) ∧ u' + g' = u + g + 1) ∧ zIv B := by
  rcases hs with ⟨h1, rfl, rfl⟩ | ⟨h1, rfl, rfl, rfl⟩
  · refine ⟨fin_f (k := 1) hct (by decide) (by omega) (Nat.le_refl _) rfl (Or.inr ⟨?_, rfl⟩), hI⟩
    rcases hm with ⟨z, -⟩ | ⟨z, -⟩
    · exact (n10 z).elim
    · exact z
  · refine ⟨?_, hI.st rfl⟩
    rcases hm with ⟨-, hm⟩ | ⟨-, e⟩
    · exact ⟨u + 1, g, p, q, hct.td (by decide) (by omega) (by simp only [List.length_append, zby_len]) rfl hm, by omega⟩
    · have := congrArg (fun z : zA4 => z.1.length) e
      simp only [List.length_append, zby_len] at this
      omega
theorem aft_end {x : Int32} (hct : zCt A rs c1 c2 u g p q C S) (hI : zIv A) (hs : sEnd x A k r B) (hW : B.2.2.2 = A.2.2.2) (hm : (k = 0 ∧ rMo rs A rs2 B 0 0) ∨ (rs2 = rs ∧ B = A)) : (∃ u' g' p' q', zCt B rs2 c1 c2 u' g' p' q' (C + 1) (S + 6) ∧ u' + g' = u + g + 1) ∧ zIv B := by
  rcases hs with ⟨h1, rfl, rfl⟩ | ⟨n, h1, h2, h3, h4, rfl, rfl, rfl⟩
  · exact ⟨fin_f hct (by decide) (by omega) (Nat.le_refl _) hW hm, hI⟩
  · exact ⟨fin_f hct (by decide) (by omega) (by show (A.1.take n).length ≤ _; rw [List.length_take]; omega) hW hm, hI.st rfl⟩
theorem aft_id (hct : zCt A rs c1 c2 u g p q C S) (hI : zIv A) (h1 : cC ≤ 40) (h2 : cS ≤ 2 * A.1.length + 1410) (hs : B = A) (hm : (k = 0 ∧ rMo rs A rs2 B 0 0) ∨ (rs2 = rs ∧ B = A)) : (∃ u' g' p' q', zCt B rs2 c1 c2 u' g' p' q' (C + cC) (S + cS) ∧ u' + g' = u + g + 1) ∧ zIv B := by
  refine ⟨fin_f hct h1 h2 (by rw [hs]; exact Nat.le_refl _) (by rw [hs]) hm, by rw [hs]; exact hI⟩
theorem aft_ser {v : Int32} {th : Int32} (hct : zCt A rs c1 c2 u g p q C S) (hI : zIv A) (hO : rOm E G2 ro2 a c1 c2 rs2 B th) (h1 : cC ≤ 40) (h2 : cS ≤ 2 * A.1.length + 1410) (hs : sSer v A k r B) (hW : B.2.2.2 = A.2.2.2) (hm : (k = 0 ∧ rMo rs A rs2 B 0 0) ∨ (rs2 = rs ∧ B = A)) : (∃ u' g' p' q', zCt B rs2 c1 c2 u' g' p' q' (C + cC) (S + cS) ∧ u' + g' = u + g + 1) ∧ zIv B := by
  obtain ⟨rfl, rfl, rfl⟩ := hs
  exact ⟨fin_f hct h1 h2 (Nat.le_refl _) hW hm, iv_of hO (v5_ser hI.1) hI.w⟩
theorem aft_org {x1 x2 x3 x4 x5 : Int32} {th : Int32} (hct : zCt A rs c1 c2 u g p q C S) (hI : zIv A) (hO : rOm E G2 ro2 a c1 c2 rs2 B th) (h1 : cC ≤ 40) (hf : k = 0 ∨ cS ≤ 2 * A.1.length + 1410) (hg : k = 0 → cS ≤ 4 * A.1.length + 6 * (p + 1) + 1800) (hs : sOrg x1 x2 x3 x4 x5 A k r B) (hW : B.2.2.2 = A.2.2.2) (hm : (k = 0 ∧ rMo rs A rs2 B 0 0) ∨ (rs2 = rs ∧ B = A)) : (∃ u' g' p' q', zCt B rs2 c1 c2 u' g' p' q' (C + cC) (S + cS) ∧ u' + g' = u + g + 1) ∧ zIv B := by
  have hT : k = 0 → 0 < A.1.length ∧ B.1.length = 0 := fun z => by
    rcases hs with ⟨-, rfl, -⟩ | ⟨-, -, lx, ly, lz, h2, rfl⟩
    · exact (n10 z).elim
    · exact ⟨zOrg_pos h2, rfl⟩
  refine ⟨fin_g hct hT h1 hf hg (Nat.zero_le _) (Nat.zero_le _) hW hm, ?_⟩
  rcases hs with ⟨-, -, rfl⟩ | ⟨-, -, lx, ly, lz, h2, rfl⟩
  · exact hI
  · exact iv_of hO v5_org hI.w
theorem aft_put {t tm : Int32} {th : Int32} (hct : zCt A rs c1 c2 u g p q C S) (hI : zIv A) (hO : rOm E G2 ro2 a c1 c2 rs2 B th) (h1 : cC ≤ 40) (hf : k = 0 ∨ cS ≤ 2 * A.1.length + 1410) (hg : k = 0 → cS ≤ 4 * A.1.length + 6 * (p + 1) + 1800) (hs : sPut t tm A k r B) (hW : B.2.2.2 = A.2.2.2) (hm : (k = 0 ∧ rMo rs A rs2 B 1 1) ∨ (rs2 = rs ∧ B = A)) : (∃ u' g' p' q', zCt B rs2 c1 c2 u' g' p' q' (C + cC) (S + cS) ∧ u' + g' = u + g + 1) ∧ zIv B := by
  have hT : k = 0 → 0 < A.1.length ∧ B.1.length = 0 := fun z => by
    rcases hs with ⟨-, rfl, -⟩ | ⟨-, rfl, -⟩ | ⟨-, -, x, D, h2, h3, -⟩
    · exact (n10 z).elim
    · exact (n30 z).elim
    · exact ⟨zRec_pos h2, by rcases h3 with ⟨-, rfl⟩ | ⟨-, -, rfl⟩ <;> rfl⟩
  refine ⟨fin_g hct hT h1 hf hg (Nat.le_refl _) (Nat.le_refl _) hW hm, ?_⟩
  rcases hs with ⟨-, -, rfl⟩ | ⟨-, -, rfl⟩ | ⟨-, -, x, D, h2, h3, -⟩
  · exact hI
  · exact hI
  · rcases h3 with ⟨-, rfl⟩ | ⟨-, h4, rfl⟩
    · exact iv_of hO (v5_put0 hI.1) hI.w
    · exact iv_of hO (v5_put hI.1 h4) hI.w
theorem aft_take {t : Int32} {th : Int32} (hct : zCt A rs c1 c2 u g p q C S) (hI : zIv A) (hO : rOm E G2 ro2 a c1 c2 rs2 B th) (h1 : cC ≤ 40) (h2 : cS ≤ 2 * A.1.length + 1410) (hs : sTake t A k r B) (hW : B.2.2.2 = A.2.2.2) (hm : (k = 0 ∧ rMo rs A rs2 B 0 0) ∨ (rs2 = rs ∧ B = A)) : (∃ u' g' p' q', zCt B rs2 c1 c2 u' g' p' q' (C + cC) (S + cS) ∧ u' + g' = u + g + 1) ∧ zIv B := by
  have hT : k = 0 → 0 < A.1.length ∧ B.1.length = 0 := fun z => by
    rcases hs with ⟨-, rfl, -⟩ | ⟨-, rfl, -⟩ | ⟨-, x, D, j, h2, h3, -, rfl⟩
    · exact (n10 z).elim
    · exact (n20 z).elim
    · exact ⟨zRec_pos h2, rfl⟩
  refine ⟨fin_g hct hT h1 (Or.inr h2) (fun _ => by omega) (Nat.zero_le _) (Nat.zero_le _) hW hm, ?_⟩
  rcases hs with ⟨-, -, rfl⟩ | ⟨-, -, rfl⟩ | ⟨-, x, D, j, h2, h3, -, rfl⟩
  · exact hI
  · exact hI
  · exact iv_of hO (v5_take hI.1) hI.w
theorem aft_all {t : Int32} {th : Int32} (hct : zCt A rs c1 c2 u g p q C S) (hI : zIv A) (hO : rOm E G2 ro2 a c1 c2 rs2 B th) (h1 : cC ≤ 40) (h2 : cS ≤ 2 * A.1.length + 1410) (hs : sAll t A k r B) (hW : B.2.2.2 = A.2.2.2) (hm : (k = 0 ∧ rMo rs A rs2 B 0 0) ∨ (rs2 = rs ∧ B = A)) : (∃ u' g' p' q', zCt B rs2 c1 c2 u' g' p' q' (C + cC) (S + cS) ∧ u' + g' = u + g + 1) ∧ zIv B := by
  have hT : k = 0 → 0 < A.1.length ∧ B.1.length = 0 := fun z => by
    rcases hs with ⟨-, rfl, -⟩ | ⟨-, ls, n, h2, -, -, -, -, rfl⟩
    · exact (n10 z).elim
    · exact ⟨zTn_pos h2, rfl⟩
  refine ⟨fin_g hct hT h1 (Or.inr h2) (fun _ => by omega) (Nat.zero_le _) (Nat.zero_le _) hW hm, ?_⟩
  rcases hs with ⟨-, -, rfl⟩ | ⟨-, ls, n, h2, -, -, -, -, rfl⟩
  · exact hI
  · exact iv_of hO (v5_all hI.1) hI.w
theorem aft_stt (hct : zCt A rs c1 c2 u g p q C S) (hI : zIv A) (h1 : cC ≤ 40) (h2 : cS ≤ 2 * A.1.length + 1410) (hs : sStt A k r B) (hW : B.2.2.2 = A.2.2.2) (hm : (k = 0 ∧ rMo rs A rs2 B 0 0) ∨ (rs2 = rs ∧ B = A)) : (∃ u' g' p' q', zCt B rs2 c1 c2 u' g' p' q' (C + cC) (S + cS) ∧ u' + g' = u + g + 1) ∧ zIv B := by
  have hT : k = 0 → 0 < A.1.length ∧ B.1.length = 0 := fun z => by
    rcases hs with ⟨-, rfl, -⟩ | ⟨-, ls, h2, -, rfl⟩
    · exact (n10 z).elim
    · exact ⟨zTn_pos h2, rfl⟩
  refine ⟨fin_g hct hT h1 (Or.inr h2) (fun _ => by omega) (Nat.zero_le _) (Nat.zero_le _) hW hm, ?_⟩
  rcases hs with ⟨-, -, rfl⟩ | ⟨-, ls, h2, -, rfl⟩
  · exact hI
  · exact hI.st rfl
theorem sRcs_id {y : Int32} (h : sRcs y A k r B) : B = A := by
  rcases h with ⟨-, -, h⟩ | ⟨-, h, -⟩ <;> exact h
theorem sTld_id {y z w : Int32} (h : sTld y z w A k r B) : B = A := by
  rcases h with ⟨-, -, h⟩ | ⟨e, -, h, -⟩ <;> exact h
theorem sByt_id {y z w : Int32} (h : sByt y z w A k r B) : B = A := by
  rcases h with ⟨-, -, h⟩ | ⟨e, -, h, -⟩ <;> exact h
theorem sCnt_id {w : Int32} (h : sCnt w A k r B) : B = A := h.2.1
/-- how much a put takes: by what it does -/
theorem pick_put (hct : zCt A rs c1 c2 u g p q C S) (hi : u + g ≤ 511) (t tm : Int32) : ∃ s9, A.1.length + 30 ≤ s9 ∧ (¬ tm < 0 → ∀ x D, zRec A.1 t A.2.2.1 x D → (∀ q, q ∈ A.2.1 x t → q.2 ≠ D) → ¬ pBad A.2.1 x t → 3 * A.1.length + 6 * rs.length + 200 ≤ s9) ∧ (C + 24 ≤ 600002 ∧ S + (s9 + (A.1.length + 520)) ≤ 7200000) ∧ ∀ k r B, sPut t tm A k r B → (k = 0 ∨ s9 + (A.1.length + 520) ≤ 2 * A.1.length + 1410) ∧ (k = 0 → s9 + (A.1.length + 520) ≤ 4 * A.1.length + 6 * (p + 1) + 1800) := by
  have hn := hct.2.2.2.2.1
  by_cases h : ¬ tm < 0 ∧ ∃ x D, zRec A.1 t A.2.2.1 x D ∧ (∀ q, q ∈ A.2.1 x t → q.2 ≠ D) ∧ ¬ pBad A.2.1 x t
  · obtain ⟨h1, x, D, h2, h3, h4⟩ := h
    refine ⟨3 * A.1.length + 6 * rs.length + 200, by omega, fun _ _ _ _ _ _ => Nat.le_refl _, hct.rg hi (zRec_pos h2) (by decide) (by omega), fun k r B hs => ⟨Or.inl ?_, fun _ => by omega⟩⟩
    exact (sPut_un t tm k r B 0 _ _ hs (Or.inr (Or.inr ⟨h1, rfl, x, D, h2, Or.inr ⟨h3, h4, rfl⟩, rfl⟩))).1
  · refine ⟨A.1.length + 30, Nat.le_refl _, fun h1 x D h2 h3 h4 => absurd ⟨h1, x, D, h2, h3, h4⟩ h, hct.rf hi (by decide) (by omega), fun k r B hs => ⟨Or.inr (by omega), fun _ => by omega⟩⟩
theorem pick_org (hct : zCt A rs c1 c2 u g p q C S) (hi : u + g ≤ 511) (x1 x2 x3 x4 x5 : Int32) : ∃ s9, 10 ≤ s9 ∧ (¬ x1 < 0 → (∃ x y z, zOrg A.1 x y z) → 3 * A.1.length + 400 ≤ s9) ∧ (C + 34 ≤ 600002 ∧ S + (s9 + 1400) ≤ 7200000) ∧ ∀ k r B, sOrg x1 x2 x3 x4 x5 A k r B → (k = 0 ∨ s9 + 1400 ≤ 2 * A.1.length + 1410) ∧ (k = 0 → s9 + 1400 ≤ 4 * A.1.length + 6 * (p + 1) + 1800) := by
  by_cases h : ¬ x1 < 0 ∧ ∃ x y z, zOrg A.1 x y z
  · obtain ⟨h1, x, y, z, h2⟩ := h
    refine ⟨3 * A.1.length + 400, by omega, fun _ _ => Nat.le_refl _, hct.rg hi (zOrg_pos h2) (by decide) (by omega), fun k r B hs => ⟨Or.inl ?_, fun _ => by omega⟩⟩
    exact (sOrg_un x1 x2 x3 x4 x5 k r B 0 0 _ hs (Or.inr ⟨h1, rfl, x, y, z, h2, rfl⟩)).1
  · refine ⟨10, Nat.le_refl _, fun h1 h2 => absurd ⟨h1, h2⟩ h, hct.rf hi (by decide) (by omega), fun k r B hs => ⟨Or.inr (by omega), fun _ => by omega⟩⟩
/-- an answering's size -/
theorem ask_b {th : Int32} (hO : rOm E G2 ro2 a c1 c2 rs A th) (hI : zIv A) (t w : Int32) (ls : np_N) (h3 : rs.length < 300) : wln (vask A.2.1 A.2.2.1 (zscu w) t (np_low ls)).2 ≤ 3 * rs.length + 21 ∧ rPw (vask A.2.1 A.2.2.1 (zscu w) t (np_low ls)).2 ≤ 11 * (34 * (rs.length + 2) + 255) ∧ wsm (vask A.2.1 A.2.2.1 (zscu w) t (np_low ls)).2 ∧ wDt (2 ^ 20) (vask A.2.1 A.2.2.1 (zscu w) t (np_low ls)).2 := by
  have hv : vsz A.2.1 rs.length := by rw [← hO.2]; exact vsz_r rs
  have hg : vgd A.2.1 := by rw [← hO.2]; exact hO.gd.vgd
  have h6 : (A.2.1 A.2.2.1 6).length ≤ 1 := by rw [← hO.2, hO.gd.six]; exact Nat.le_refl _
  have w1 := vask_ok (sec := zscu w) (t := t) (x := np_low ls) hv hI.1 h6
  have w2 := vask_lk (V := A.2.1) (top := A.2.2.1) (sec := zscu w) (t := t) (x := np_low ls) hI.2.1
  have hl : ∀ x, (vlk A.2.1 A.2.2.1 x).length ≤ 34 * (rs.length + 2) + 255 := fun x => vlk_len hg hv
  have w3 := rPw_lk w2 hl
  have w4 := vask_dt (V := A.2.1) (top := A.2.2.1) (sec := zscu w) (t := t) (x := np_low ls) (D := 2 ^ 20) hI.2.2.2.1 (fun x => Nat.le_trans (hl x) (by omega))
  have b1 := w1.1.1
  have b2 := w1.1.2.1
  have b3 := w1.2
  refine ⟨?_, w3, ⟨by omega, by omega, by omega⟩, w4⟩
  unfold wln; omega
theorem rPi_0 (d1 d2 : Nat) : rPi d1 d2 ([], [], []) 0 = 14 * d1 + 2 * d2 := rfl
/-- how much an ask takes, and what is behind it -/
theorem pick_ask {th : Int32} (hO : rOm E G2 ro2 a c1 c2 rs A th) (hI : zIv A) (hct : zCt A rs c1 c2 u g p q C S) (hi : u + g ≤ 511) (t w : Int32) : ∃ c9 s9 c8 n8, (¬ t < 1 → ¬ 65535 < t → (∃ ls, zTn A.1 ls) → 6 * rs.length + 128 ≤ c9 ∧ 72 * rs.length + 7024 ≤ s9) ∧ (¬ t < 1 → ¬ 65535 < t → ∀ ls, zTn A.1 ls → rBd (rcp c2 (rPw A.2.2.2)) (vask A.2.1 A.2.2.1 (zscu w) t (np_low ls)).2 ∧ rPi (rcp c1 (wln A.2.2.2)) (rcp c2 (rPw A.2.2.2)) (vask A.2.1 A.2.2.1 (zscu w) t (np_low ls)).2 0 - rPi (rcp c1 (wln A.2.2.2)) (rcp c2 (rPw A.2.2.2)) ([], [], []) 0 + 40 + rNc rs ≤ c8 ∧ rPi (rcp c1 (wln A.2.2.2)) (rcp c2 (rPw A.2.2.2)) (vask A.2.1 A.2.2.1 (zscu w) t (np_low ls)).2 0 - rPi (rcp c1 (wln A.2.2.2)) (rcp c2 (rPw A.2.2.2)) ([], [], []) 0 + 2700 + rNu rs ≤ n8) ∧ (C + ((c9 + 10) + (c8 + 10)) ≤ 600002 ∧ S + ((A.1.length + s9 + 20) + (n8 + 265)) ≤ 7200000) ∧ ∀ (k r : Int32) (B : zA4) (rs2 : List zRt) (d1 d2 : Nat), sAsk t w A k r B → ((k = 0 ∧ d1 = rcp c1 (wln A.2.2.2) ∧ d2 = rcp c2 (rPw A.2.2.2) ∧ rMo rs A rs2 B 0 0) ∨ (d1 = c1 ∧ d2 = c2 ∧ rs2 = rs ∧ B = A)) → (∀ (E : zc_E) (G : zg_G) (ro : zRo), rOm E G ro a d1 d2 rs2 B k → zIv B) ∧ ∃ u' g' p' q', zCt B rs2 d1 d2 u' g' p' q' (C + ((c9 + 10) + (c8 + 10))) (S + ((A.1.length + s9 + 20) + (n8 + 265))) ∧ u' + g' = u + g + 1 := by
  have hn3 := hct.nr hi
  obtain ⟨a1, a2, a3, a4, a5, a6, a7, a8, a9, aA⟩ := id hct
  have hY : rPi c1 c2 A.2.2.2 0 = 14 * rcp c1 (wln A.2.2.2) + 2 * rcp c2 (rPw A.2.2.2) := rfl
  have hnc := rNc_len rs
  by_cases h : ¬ t < 1 ∧ ¬ 65535 < t ∧ ∃ ls, zTn A.1 ls
  · obtain ⟨h1, h2, ls, h3⟩ := h
    have hb := ask_b hO hI t w ls hn3
    obtain ⟨X, eX⟩ : ∃ z, z = (vask A.2.1 A.2.2.1 (zscu w) t (np_low ls)).2 := ⟨_, rfl⟩
    obtain ⟨D1, e1⟩ : ∃ z, z = rcp c1 (wln A.2.2.2) := ⟨_, rfl⟩
    obtain ⟨D2, e2⟩ : ∃ z, z = rcp c2 (rPw A.2.2.2) := ⟨_, rfl⟩
    rw [← eX] at hb
    rw [← e1] at a7 hY
    rw [← e2] at a8 hY
    have hT := zTn_pos h3
    have hg := a2 hT
    have hc := hO.cs
    have q1 : 0 < D1 := by have := (rcp_ge hc.1 (wln A.2.2.2)).2; omega
    have q2 : 0 < D2 := by have := (rcp_ge hc.2 (rPw A.2.2.2)).2; omega
    have g1 := rcp_le D1 (wln X)
    have g2 := rcp_le D2 (rPw X)
    have l1 := (rcp_ge q1 (wln X)).2
    have l2 := (rcp_ge q2 (rPw X)).2
    have hr : rs.length ≤ 256 := by omega
    have k1 : rcp D1 (wln X) ≤ 1600 := by have := hb.1; omega
    have k2 : rcp D2 (rPw X) ≤ 200000 := by have := hb.2.1; omega
    have hZ : rPi D1 D2 X 0 = 14 * rcp D1 (wln X) + 2 * rcp D2 (rPw X) := rfl
    have hZ0 := rPi_0 D1 D2
    have hYZ : rPi c1 c2 A.2.2.2 0 ≤ rPi D1 D2 X 0 := by omega
    have hrm := hct.rq (cC := (6 * rs.length + 128 + 10) + (rPi D1 D2 X 0 - rPi c1 c2 A.2.2.2 0 + 40 + rNc rs + 10)) (cS := (A.1.length + (72 * rs.length + 7024) + 20) + (rPi D1 D2 X 0 - rPi c1 c2 A.2.2.2 0 + 2700 + rNu rs + 265)) hi hT hYZ (rPi_bd k1 k2) (by omega) (by omega)
    refine ⟨6 * rs.length + 128, 72 * rs.length + 7024, rPi D1 D2 X 0 - rPi c1 c2 A.2.2.2 0 + 40 + rNc rs, rPi D1 D2 X 0 - rPi c1 c2 A.2.2.2 0 + 2700 + rNu rs, fun _ _ _ => ⟨Nat.le_refl _, Nat.le_refl _⟩, fun _ _ ls2 hls => ?_, hrm, fun k r B rs2 d1 d2 hs hm => ?_⟩
    · obtain rfl := zTn_un h3 hls
      rw [← eX, ← e1, ← e2]
      exact ⟨⟨by have := hb.1; omega, by omega⟩, by omega, by omega⟩
    · rcases hs with ⟨hs, rfl, rfl⟩ | ⟨-, -, rfl, ls2, hls, rfl, rfl⟩
      · exact (hs.elim h1 (fun z => z.elim h2 (fun z => z ⟨_, h3⟩))).elim
      · obtain rfl := zTn_un h3 hls
        rcases hm with ⟨-, rfl, rfl, hm⟩ | ⟨-, -, -, e⟩
        · refine ⟨fun E G ro hO2 => iv_of hO2 hI.1 (by show wsm (vask A.2.1 A.2.2.1 (zscu w) t (np_low ls2)).2 ∧ _; rw [← eX]; exact hb.2.2), u, g + 1, p, q + 1, ?_, by omega⟩
          rw [← eX] at hm ⊢
          rw [← e1, ← e2]
          exact hct.tq hT hYZ (by show _ ≤ _ + (rPi D1 D2 X 0 - _); omega) (by show _ ≤ _ + (rPi D1 D2 X 0 - _); omega) rfl k1 k2 hm
        · have := congrArg (fun z : zA4 => z.1.length) e
          simp only [List.length_nil] at this
          omega
  · have hrm := hct.rf (cC := (0 + 10) + (0 + 10)) (cS := (A.1.length + 0 + 20) + (0 + 265)) hi (by decide) (by omega)
    refine ⟨0, 0, 0, 0, fun h1 h2 h3 => absurd ⟨h1, h2, h3⟩ h, fun h1 h2 ls h3 => absurd ⟨h1, h2, ls, h3⟩ h, hrm, fun k r B rs2 d1 d2 hs hm => ?_⟩
    rcases hs with ⟨hs, rfl, rfl⟩ | ⟨h1, h2, rfl, ls2, hls, rfl, rfl⟩
    · rcases hm with ⟨z, -⟩ | ⟨rfl, rfl, rfl, -⟩
      · exact (n10 z).elim
      · exact ⟨fun _ _ _ _ => hI, fin_f (k := 1) hct (by decide) (by omega) (Nat.le_refl _) rfl (Or.inr ⟨rfl, rfl⟩)⟩
    · exact absurd ⟨h1, h2, ls2, hls⟩ h
end FIN
