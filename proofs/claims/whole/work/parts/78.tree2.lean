/-! the owners by their places -/
def oe (os : List zOt) (i : Nat) : zOt := os.getD i (0, 0, [], none, 0, 0, [])
theorem oe_at {os : List zOt} {i : Nat} (h : i < os.length) : oe os i = os[i] := by
  unfold oe
  rw [List.getD_eq_getElem?_getD, List.getElem?_eq_getElem h]
  rfl
theorem oe_mem {os : List zOt} {i : Nat} (h : i < os.length) : oe os i ∈ os := by rw [oe_at h]; exact List.getElem_mem h
theorem oe_m {os : List zOt} {i : Nat} (h : i < os.length) : (os.map oA)[i]? = some (oA (oe os i)) := by
  rw [List.getElem?_map, List.getElem?_eq_getElem h, oe_at h]
  rfl
/-- the owners stand in order -/
def zso (os : List zOt) : Prop := ∀ i j, i < j → j < os.length → nk_d (zky (oM (oe os i))) (zky (oM (oe os j))) < 0
theorem zZR.ow {E : zc_E} {G : zg_G} {r : zRo} {la dd : Nat} {os : List zOt} (h : zZR E G r la dd os) : ∃ (bt : Nat → Nat) (nf : Nat → Nat → Int32), ∀ i, i < os.length → G (oA (oe os i)) = some (.inr (4, [.ref (oN (oe os i)), .ref (oL (oe os i)), va_rf (oC (oe os i))])) ∧ G (oN (oe os i)) = some (.inr (3, [.ref (bt i), .int (nI (oM (oe os i)).length)])) ∧ G (bt i) = some (.inl (E.2.1 0, np_len (oM (oe os i)), .inl (nf i))) ∧ np_f (oM (oe os i)) (nf i) ∧ np_g (oM (oe os i)) ∧ sb_Fit (nf i) := by
  have h1 : ∀ i, ∃ p : Nat × (Nat → Int32), i < os.length → G (oA (oe os i)) = some (.inr (4, [.ref (oN (oe os i)), .ref (oL (oe os i)), va_rf (oC (oe os i))])) ∧ G (oN (oe os i)) = some (.inr (3, [.ref p.1, .int (nI (oM (oe os i)).length)])) ∧ G p.1 = some (.inl (E.2.1 0, np_len (oM (oe os i)), .inl p.2)) ∧ np_f (oM (oe os i)) p.2 ∧ np_g (oM (oe os i)) ∧ sb_Fit p.2 := by
    intro i
    by_cases hi : i < os.length
    · obtain ⟨a1, a2, ⟨b, f, q1, q2, q3, q4, q5, -, -⟩, -⟩ := h.2 _ (oe_mem hi)
      exact ⟨(b, f), fun _ => ⟨a1, q1, q2, q3, q4, q5⟩⟩
    · exact ⟨(0, fun _ => 0), fun z => absurd z hi⟩
  obtain ⟨g, hg⟩ := Classical.axiomOfChoice h1
  exact ⟨fun i => (g i).1, fun i => (g i).2, hg⟩
section ZT2
variable {l : Launch} {E : zc_E} {G : zg_G} {r : zRo} {a la dd tn st sd : Nat} {rc : Int32} {os : List zOt} {a1 b1 : Nat} {ls1 : np_N} {f1 : Nat → Int32}
theorem t_Zo_place_t (l : Launch) (ha : G a = some (.inr (9, [.ref la, .ref tn, .ref st, .ref sd, .int rc]))) (hZ : zZR E G r la dd os) (hne : 0 < os.length) (hso : zso os) (ha1 : G a1 = some (.inr (3, [.ref b1, .int (nI ls1.length)]))) (hb1 : G b1 = some (.inl (E.2.1 0, np_len ls1, .inl f1))) (hf1 : np_f ls1 f1) (hg1 : np_g ls1) (hft1 : sb_Fit f1) : zMi l E y_Zo_place c_Zo_place 5 (some .int) rm_Zo_place [.ref a, .ref a1] G (fun x G2 => (∃ k, x = nI k ∧ k ≤ os.length ∧ (∀ i, i < k → nk_d (zky (oM (oe os i))) (zky ls1) < 0) ∧ ∀ i, k ≤ i → i < os.length → ¬ nk_d (zky (oM (oe os i))) (zky ls1) < 0) ∧ G2 = G) := by
  obtain ⟨k, cap, f, h1, h2, h3, h4, h5, h6⟩ := hZ.1.1.un2 (by rw [List.length_map]; exact hne)
  rw [List.length_map] at h1 h4
  obtain ⟨bt, nf, how⟩ := hZ.ow
  exact t_Zo_place l E G a la tn st sd rc ha dd os.length cap k f h1 h2 h4 (by omega) (fun i => oA (oe os i)) (fun i => oN (oe os i)) (fun i => oL (oe os i)) bt (fun i => oC (oe os i)) (fun i => oM (oe os i)) nf (fun i hi => ⟨(h6 i).trans (oe_m hi), how i hi⟩) hso a1 b1 ls1 f1 ha1 hb1 hf1 hg1 hft1
theorem t_Zo_isAt_t (l : Launch) (ha : G a = some (.inr (9, [.ref la, .ref tn, .ref st, .ref sd, .int rc]))) (hZ : zZR E G r la dd os) (hne : 0 < os.length) (hso : zso os) (ha1 : G a1 = some (.inr (3, [.ref b1, .int (nI ls1.length)]))) (hb1 : G b1 = some (.inl (E.2.1 0, np_len ls1, .inl f1))) (hf1 : np_f ls1 f1) (hg1 : np_g ls1) (i : Nat) (hi : i ≤ os.length) : zMi l E y_Zo_isAt c_Zo_isAt 3 (some .boolean) rm_Zo_isAt [.ref a, .int (nI i), .ref a1] G (fun x G2 => zb x (i < os.length ∧ oM (oe os i) = ls1) ∧ G2 = G) := by
  obtain ⟨k, cap, f, h1, h2, h3, h4, h5, h6⟩ := hZ.1.1.un2 (by rw [List.length_map]; exact hne)
  rw [List.length_map] at h1 h4
  obtain ⟨bt, nf, how⟩ := hZ.ow
  exact t_Zo_isAt_u l E G a la tn st sd rc ha dd os.length cap k f h1 h2 h4 (by omega) (fun i => oA (oe os i)) (fun i => oN (oe os i)) (fun i => oL (oe os i)) bt (fun i => oC (oe os i)) (fun i => oM (oe os i)) nf (fun i hi => ⟨(h6 i).trans (oe_m hi), how i hi⟩) hso a1 b1 ls1 f1 ha1 hb1 hf1 hg1 i hi
theorem t_Zo_at_t (l : Launch) (ha : G a = some (.inr (9, [.ref la, .ref tn, .ref st, .ref sd, .int rc]))) (hZ : zZR E G r la dd os) (hne : 0 < os.length) (hso : zso os) (ha1 : G a1 = some (.inr (3, [.ref b1, .int (nI ls1.length)]))) (hb1 : G b1 = some (.inl (E.2.1 0, np_len ls1, .inl f1))) (hf1 : np_f ls1 f1) (hg1 : np_g ls1) (hft1 : sb_Fit f1) : zMq l E y_Zo_at c_Zo_at 3 (some (.object "ZoneAnswers$Owner")) rm_Zo_at [.ref a, .ref a1] G (fun x G2 => ((∃ i, i < os.length ∧ oM (oe os i) = ls1 ∧ x = some (oA (oe os i))) ∨ ((∀ i, i < os.length → ¬ oM (oe os i) = ls1) ∧ x = none)) ∧ G2 = G) := by
  obtain ⟨k, cap, f, h1, h2, h3, h4, h5, h6⟩ := hZ.1.1.un2 (by rw [List.length_map]; exact hne)
  rw [List.length_map] at h1 h4
  obtain ⟨bt, nf, how⟩ := hZ.ow
  exact t_Zo_at l E G a la tn st sd rc ha dd os.length cap k f h1 h2 h4 (by omega) (fun i => oA (oe os i)) (fun i => oN (oe os i)) (fun i => oL (oe os i)) bt (fun i => oC (oe os i)) (fun i => oM (oe os i)) nf (fun i hi => ⟨(h6 i).trans (oe_m hi), how i hi⟩) hso a1 b1 ls1 f1 ha1 hb1 hf1 hg1 hft1
end ZT2
