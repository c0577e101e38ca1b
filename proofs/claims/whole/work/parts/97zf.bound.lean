/-! HOW LONG AN ANSWERING CAN GET -/
/-- so many records in all -/
def vsz (V : zVt) (n : Nat) : Prop := ∀ K : List (np_N × Int32), K.Nodup → (K.map (fun p => (V p.1 p.2).length)).sum ≤ n
theorem ind_1 (e : zRt) : ∀ K : List (np_N × Int32), K.Nodup → (K.map (fun p => if rM e = p.1 ∧ rT e = p.2 then 1 else 0)).sum ≤ 1
  | [], _ => Nat.zero_le _
  | p :: K, h => by
    rw [List.nodup_cons] at h
    rw [List.map_cons, List.sum_cons]
    have ih := ind_1 e K h.2
    by_cases z : rM e = p.1 ∧ rT e = p.2
    · have h0 : ∀ L : List (np_N × Int32), p ∉ L → (L.map (fun p => if rM e = p.1 ∧ rT e = p.2 then 1 else 0)).sum = 0 := fun L => by
        induction L with
        | nil => exact fun _ => rfl
        | cons q L ihl =>
          intro hq
          rw [List.mem_cons, not_or] at hq
          rw [List.map_cons, List.sum_cons, ihl hq.2, if_neg (fun w => hq.1 (Prod.ext (z.1.symm.trans w.1) (z.2.symm.trans w.2)))]
      rw [if_pos z, h0 K h.1]; exact Nat.le_refl _
    · rw [if_neg z]; omega
theorem vsz_r : ∀ rs : List zRt, vsz (rVf rs) rs.length
  | [] => fun K _ => by
    have h0 : ∀ K : List (np_N × Int32), (K.map (fun p => (rVf [] p.1 p.2).length)).sum = 0 := fun K => by
      induction K with
      | nil => rfl
      | cons p K ih => rw [List.map_cons, List.sum_cons, ih]; rfl
    rw [h0]; exact Nat.zero_le _
  | e :: T => fun K hK => by
    have ih := vsz_r T K hK
    have i1 := ind_1 e K hK
    have es : (K.map (fun p => (rVf (e :: T) p.1 p.2).length)).sum = (K.map (fun p => if rM e = p.1 ∧ rT e = p.2 then 1 else 0)).sum + (K.map (fun p => (rVf T p.1 p.2).length)).sum := by
      clear ih i1 hK
      induction K with
      | nil => rfl
      | cons p K ih =>
        rw [List.map_cons, List.map_cons, List.map_cons, List.sum_cons, List.sum_cons, List.sum_cons, ih, rVf_cons, List.length_append]
        split <;> simp only [List.length_cons, List.length_nil] <;> omega
    rw [es, List.length_cons]; omega
section WBD
variable {V : zVt} {top : np_N} {sec : Bool} {n a b : Nat} {W : zW} {x f c : np_N} {t : Int32}
theorem vsz.one (h : vsz V n) (x : np_N) (t : Int32) : (V x t).length ≤ n := by
  have := h [(x, t)] (List.nodup_cons.mpr ⟨List.not_mem_nil, List.nodup_nil⟩)
  simp only [List.map_cons, List.map_nil, List.sum_cons, List.sum_nil] at this
  omega
theorem vsz.two (h : vsz V n) (x : np_N) {t u : Int32} (hne : t ≠ u) : (V x t).length + (V x u).length ≤ n := by
  have := h [(x, t), (x, u)] (List.nodup_cons.mpr ⟨fun z => hne (congrArg Prod.snd (List.mem_singleton.mp z)), List.nodup_cons.mpr ⟨List.not_mem_nil, List.nodup_nil⟩⟩)
  simp only [List.map_cons, List.map_nil, List.sum_cons, List.sum_nil] at this
  omega
/-- the third section has whole sets, each once -/
def w3ok (V : zVt) (L : List aV) : Prop := ∃ K : List (np_N × Int32), K.Nodup ∧ L = K.flatMap (fun p => vrw V p.1 p.1 p.2)
def wBd (V : zVt) (a b : Nat) (W : zW) : Prop := W.1.length ≤ a ∧ W.2.1.length ≤ b ∧ w3ok V W.2.2
theorem w3ok_len (hs : vsz V n) {L : List aV} (h : w3ok V L) : L.length ≤ n := by
  obtain ⟨K, h1, rfl⟩ := h
  have e : (K.flatMap (fun p => vrw V p.1 p.1 p.2)).length = (K.map (fun p => (V p.1 p.2).length)).sum := by
    rw [List.length_flatMap]
    congr 1
    exact List.map_congr_left (fun p _ => List.length_map _)
  rw [e]; exact hs K h1
theorem vad_ok (h : wBd V a b W) : wBd V a b (vad V W x t) := by
  unfold vad
  by_cases z : aHas W.2.2 x t ∨ aHas W.1 x t
  · rw [zif_y z]; exact h
  · rw [zif_n z]
    obtain ⟨h1, h2, K, h3, h4⟩ := h
    refine ⟨h1, h2, ?_⟩
    by_cases e : V x t = []
    · refine ⟨K, h3, ?_⟩
      show W.2.2 ++ vrw V x x t = _
      rw [show vrw V x x t = [] by unfold vrw; rw [e]; rfl, List.append_nil]; exact h4
    · refine ⟨K ++ [(x, t)], List.nodup_append.mpr ⟨h3, List.nodup_cons.mpr ⟨List.not_mem_nil, List.nodup_nil⟩, fun p hp q hq hpq => ?_⟩, ?_⟩
      · rw [List.mem_singleton.mp hq] at hpq
        refine z (Or.inl ?_)
        obtain ⟨r, hr⟩ := List.exists_mem_of_ne_nil _ e
        refine ⟨(x, t, r.1, r.2), ?_, rfl, rfl⟩
        rw [h4]
        refine List.mem_flatMap.mpr ⟨p, hp, ?_⟩
        rw [hpq]
        exact List.mem_map.mpr ⟨r, hr, rfl⟩
      · show W.2.2 ++ vrw V x x t = _
        rw [List.flatMap_append, h4]
        congr 1
        show _ = vrw V x x t ++ []
        rw [List.append_nil]
theorem vao_ok (h : wBd V a b W) : wBd V a b (vao V W x) := vad_ok (vad_ok h)
theorem vam_ok {e : aV} (h : wBd V a b W) : wBd V a b (vam V top W e) := by
  unfold vam
  split
  · exact vao_ok h
  · exact h
theorem fold_ok {α : Type} {g : zW → α → zW} (hg : ∀ W e, wBd V a b W → wBd V a b (g W e)) : ∀ (L : List α) (W : zW), wBd V a b W → wBd V a b (L.foldl g W)
  | [], _, h => h
  | e :: L, W, h => fold_ok hg L (g W e) (hg W e h)
theorem wBd.mono {a2 b2 : Nat} (h : wBd V a b W) (ha : a ≤ a2) (hb : b ≤ b2) : wBd V a2 b2 W := ⟨Nat.le_trans h.1 ha, Nat.le_trans h.2.1 hb, h.2.2⟩
theorem w2_ok {L : List aV} {k : Nat} (h : wBd V a b W) (hl : L.length ≤ k) : wBd V a (b + k) (w2 W L) := ⟨h.1, by show (W.2.1 ++ L).length ≤ _; rw [List.length_append]; have := h.2.1; omega, h.2.2⟩
theorem w1_ok {L : List aV} {k : Nat} (h : wBd V a b W) (hl : L.length ≤ k) : wBd V (a + k) b (w1 W L) := ⟨by show (W.1 ++ L).length ≤ _; rw [List.length_append]; have := h.1; omega, h.2.1, h.2.2⟩
theorem vpr_ok (h : wBd V a b W) : wBd V a (b + 1) (vpr V top sec W x) := by
  unfold vpr
  by_cases z : sec = true ∧ ¬ aHas W.2.1 x 47
  · rw [zif_y z]; exact w2_ok h (Nat.le_refl 1)
  · rw [zif_n z]; exact h.mono (Nat.le_refl _) (by omega)
theorem vst_ok (h6 : (V top 6).length ≤ 1) (h : wBd V a b W) : wBd V a (b + 1) (vst V top W) := w2_ok h (by rw [List.length_map]; exact h6)
theorem vrw_len : (vrw V x f t).length = (V f t).length := List.length_map _
theorem vrf_ok (hs : vsz V n) (h : wBd V a b W) : wBd V a (b + (n + 1)) (vrf V top sec W c) := by
  unfold vrf
  refine fold_ok (fun W e hW => vao_ok hW) _ _ ?_
  have h1 := hs.one c 2
  have h2 := hs.two c (show (2 : Int32) ≠ 43 by decide)
  unfold vrf1
  split
  · exact (vpr_ok (w2_ok h (k := n) (by rw [vrw_len]; exact h1))).mono (Nat.le_refl _) (by omega)
  · split
    · exact (w2_ok (w2_ok h (Nat.le_of_eq vrw_len)) (Nat.le_of_eq vrw_len)).mono (Nat.le_refl _) (by omega)
    · exact (w2_ok h (k := n) (by rw [vrw_len]; exact h1)).mono (Nat.le_refl _) (by omega)
theorem vdn_ok (h6 : (V top 6).length ≤ 1) (h : wBd V a b W) : wBd V a (b + 3) (vdn V top sec W x f) := vpr_ok (vpr_ok (vst_ok h6 h))
theorem vts_len (hs : vsz V n) : ((vts V f).flatMap (fun u => vrw V x f (nI u))).length ≤ n := by
  by_cases z : ∃ T, isTs V f T
  · obtain ⟨T, hT⟩ := z
    rw [vts_y hT, List.length_flatMap]
    have hp := wso_pw hT.1
    have hK : (T.map (fun u => (f, nI u))).Nodup := by
      refine List.pairwise_map.mpr (List.Pairwise.imp_of_mem (fun {u v} hu hv huv e => ?_) hp)
      have b1 := ((hT.2 u).mp hu).1
      have b2 := ((hT.2 v).mp hv).1
      have q := (nI_eq (a := u) (b := v) (by omega) (by omega)).mp (congrArg Prod.snd e)
      omega
    have := hs _ hK
    rw [List.map_map] at this
    refine Nat.le_trans (Nat.le_of_eq ?_) this
    congr 1
    exact List.map_congr_left (fun u _ => vrw_len)
  · have e : vts V f = [] := by unfold vts zch; rw [dif_neg z]
    rw [e]; exact Nat.zero_le _
theorem vtl_ok (hs : vsz V n) (h6 : (V top 6).length ≤ 1) (h : wBd V a b W) : wBd V (a + n) (b + 3) (vtl V top sec W x f t) := by
  have h1 : wBd V (a + n) b (vtl1 V W x f t) := by
    unfold vtl1
    refine w1_ok h ?_
    split
    · exact vts_len hs
    · rw [vrw_len]; exact hs.one f t
  unfold vtl
  have h2 : wBd V (a + n) (b + 2) (zif (¬ vD V f ∨ (¬ t = 255 ∧ V f t = [])) (vpr V top sec (vst V top (vtl1 V W x f t)) (vat V top f)) (vtl1 V W x f t)) := by
    by_cases z : ¬ vD V f ∨ (¬ t = 255 ∧ V f t = [])
    · rw [zif_y z]; exact vpr_ok (vst_ok h6 h1)
    · rw [zif_n z]; exact h1.mono (Nat.le_refl _) (by omega)
  show wBd V (a + n) (b + 3) (if f = x then _ else _)
  split
  · exact h2.mono (Nat.le_refl _) (by omega)
  · exact vpr_ok h2
theorem vfo_ok (hs : vsz V n) (h5 : ∀ x, (V x 5).length ≤ 1) (h6 : (V top 6).length ≤ 1) : ∀ (k : Nat) (W : zW) (x : np_N) (a b : Nat), wBd V a b W → wBd V (a + k + n) (b + k + (n + 3)) (vfo V top sec t k W x).2
  | 0, W, x, a, b, h => h.mono (by omega) (by omega)
  | k + 1, W, x, a, b, h => by
    unfold vfo
    by_cases z : ¬ top <:+ x
    · rw [zif_y z]; exact h.mono (by omega) (by omega)
    · rw [zif_n z]
      cases e : (vco V top x).filter (fun c => decide (¬ (t = 43 ∧ c = x))) with
      | some c => exact (vrf_ok hs h).mono (by omega) (by omega)
      | none =>
        show wBd V _ _ (zif _ _ _ : Int32 × zW).2
        by_cases z2 : ¬ vth V x ∧ ¬ vD V (vfd V x)
        · rw [zif_y z2]; exact (vdn_ok h6 h).mono (by omega) (by omega)
        · rw [zif_n z2]
          by_cases z3 : t = 5 ∨ t = 255 ∨ V (vfd V x) 5 = []
          · rw [if_pos z3]; exact (vtl_ok hs h6 h).mono (by omega) (by omega)
          · rw [if_neg z3]
            have g1 : wBd V (a + 1) b (w1 W (vrw V x (vfd V x) 5)) := w1_ok h (by rw [vrw_len]; exact h5 _)
            have g2 : wBd V (a + 1) (b + 1) (zif (vth V x) (w1 W (vrw V x (vfd V x) 5)) (vpr V top sec (w1 W (vrw V x (vfd V x) 5)) (vov V top x))) := by
              by_cases z4 : vth V x
              · rw [zif_y z4]; exact g1.mono (Nat.le_refl _) (by omega)
              · rw [zif_n z4]; exact vpr_ok g1
            cases e5 : V (vfd V x) 5 with
            | nil => exact absurd (Or.inr (Or.inr e5)) z3
            | cons p T =>
              exact (vfo_ok hs h5 h6 k _ (vtg 5 p.2) (a + 1) (b + 1) g2).mono (by omega) (by omega)
theorem vask_ok (hs : vsz V n) (h5 : ∀ x, (V x 5).length ≤ 1) (h6 : (V top 6).length ≤ 1) : wBd V (n + 9) (n + 12) (vask V top sec t x).2 ∧ (vask V top sec t x).2.2.2.length ≤ n := by
  have h0 : wBd V 0 0 (([], [], []) : zW) := ⟨Nat.le_refl _, Nat.le_refl _, [], List.nodup_nil, rfl⟩
  have key : wBd V (n + 9) (n + 12) (vask V top sec t x).2 := by
    unfold vask
    by_cases z : ¬ top <:+ x
    · rw [zif_y z]; exact h0.mono (by omega) (by omega)
    · rw [zif_n z]
      exact fold_ok (fun W e hW => vam_ok hW) _ _ ((vfo_ok hs h5 h6 9 _ x 0 0 h0).mono (by omega) (by omega))
  exact ⟨key, w3ok_len hs key.2.2⟩
end WBD
