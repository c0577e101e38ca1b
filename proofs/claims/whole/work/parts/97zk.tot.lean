/-! THE RECORDS IN ALL: the class's zone as a row of records; how many they are; what the links take -/
def flo (o : zOt) : List zRt := (oX o).flatMap (fun s => (sX s).map (fun d => ((0, 0, 0, Value.null, oM o, sT s, sU s, d.2.1) : zRt)))
def fls (os : List zOt) : List zRt := os.flatMap flo
theorem flo_s (m : np_N) (s : zSt) (x : np_N) (t : Int32) : rVf ((sX s).map (fun d => ((0, 0, 0, Value.null, m, sT s, sU s, d.2.1) : zRt))) x t = if m = x then (zgS s t).map (fun p => (p.1, p.2.1)) else [] := by
  unfold rVf zgS
  rw [List.filter_map, List.map_map]
  by_cases h1 : m = x
  · rw [if_pos h1]
    by_cases h2 : sT s = t
    · have e : (sX s).filter ((fun e => decide (rM e = x ∧ rT e = t)) ∘ fun d : zDt => ((0, 0, 0, Value.null, m, sT s, sU s, d.2.1) : zRt)) = sX s := List.filter_eq_self.mpr (fun d _ => decide_eq_true (show m = x ∧ sT s = t from ⟨h1, h2⟩))
      rw [if_pos h2, e, List.map_map]; rfl
    · rw [if_neg h2, List.filter_eq_nil_iff.mpr (fun d _ => by simp only [Function.comp, decide_eq_true_eq]; exact fun z => h2 z.2)]; rfl
  · rw [if_neg h1, List.filter_eq_nil_iff.mpr (fun d _ => by simp only [Function.comp, decide_eq_true_eq]; exact fun z => h1 z.1)]; rfl
theorem flo_V (o : zOt) (x : np_N) (t : Int32) : rVf (flo o) x t = (zgO o x t).map (fun p => (p.1, p.2.1)) := by
  unfold flo zgO
  generalize oX o = X
  induction X with
  | nil => split <;> rfl
  | cons s X ih =>
    rw [List.flatMap_cons, rVf_app, ih, flo_s]
    by_cases h : oM o = x
    · rw [if_pos h, if_pos h, if_pos h, List.flatMap_cons, List.map_append]
    · rw [if_neg h, if_neg h, if_neg h]; rfl
theorem fls_V (os : List zOt) : rVf (fls os) = zV os := by
  funext x t
  unfold fls zV zgt
  induction os with
  | nil => rfl
  | cons o os ih => rw [List.flatMap_cons, rVf_app, ih, flo_V, List.flatMap_cons, List.map_append]
theorem fls_len (os : List zOt) : (fls os).length = znr os := by
  have h1 : ∀ o : zOt, (flo o).length = znO o := fun o => by
    unfold flo znO
    generalize oX o = X
    induction X with
    | nil => rfl
    | cons s X ih => rw [List.flatMap_cons, List.length_append, ih, List.map_cons, List.sum_cons, List.length_map]
  unfold fls znr
  induction os with
  | nil => rfl
  | cons o os ih => rw [List.flatMap_cons, List.length_append, ih, List.map_cons, List.sum_cons, h1]
theorem ind_e (e : zRt) : ∀ K : List (np_N × Int32), K.Nodup → (rM e, rT e) ∈ K → (K.map (fun p => if rM e = p.1 ∧ rT e = p.2 then 1 else 0)).sum = 1 := fun K hK hm => by
  have h1 := ind_1 e K hK
  have h2 := zsum_le (fun p : np_N × Int32 => if rM e = p.1 ∧ rT e = p.2 then 1 else 0) hm
  have h3 : (if rM e = rM e ∧ rT e = rT e then 1 else 0) = 1 := if_pos ⟨rfl, rfl⟩
  dsimp only at h2
  rw [h3] at h2
  omega
theorem rVf_sum : ∀ (rs : List zRt) (K : List (np_N × Int32)), K.Nodup → (∀ e ∈ rs, (rM e, rT e) ∈ K) → (K.map (fun p => (rVf rs p.1 p.2).length)).sum = rs.length
  | [], K, _, _ => by
    have := vsz_r [] K ‹_›
    exact Nat.le_zero.mp this
  | e :: T, K, hK, hm => by
    have ih := rVf_sum T K hK (fun e' he => hm e' (List.mem_cons_of_mem _ he))
    have i1 := ind_e e K hK (hm e List.mem_cons_self)
    have es : (K.map (fun p => (rVf (e :: T) p.1 p.2).length)).sum = (K.map (fun p => if rM e = p.1 ∧ rT e = p.2 then 1 else 0)).sum + (K.map (fun p => (rVf T p.1 p.2).length)).sum := by
      clear ih i1 hK hm
      induction K with
      | nil => rfl
      | cons p K ih =>
        rw [List.map_cons, List.map_cons, List.map_cons, List.sum_cons, List.sum_cons, List.sum_cons, ih, rVf_cons, List.length_append]
        split <;> simp only [List.length_cons, List.length_nil] <;> omega
    rw [es, List.length_cons]; omega
theorem keys_of : ∀ rs : List zRt, ∃ K : List (np_N × Int32), K.Nodup ∧ ∀ e ∈ rs, (rM e, rT e) ∈ K
  | [] => ⟨[], List.nodup_nil, fun e he => by cases he⟩
  | e :: T => by
    obtain ⟨K, h1, h2⟩ := keys_of T
    by_cases z : (rM e, rT e) ∈ K
    · exact ⟨K, h1, fun e' he => (List.mem_cons.mp he).elim (fun w => by rw [w]; exact z) (h2 e')⟩
    · exact ⟨(rM e, rT e) :: K, List.nodup_cons.mpr ⟨z, h1⟩, fun e' he => (List.mem_cons.mp he).elim (fun w => by rw [w]; exact List.mem_cons_self) (fun w => List.mem_cons_of_mem _ (h2 e' w))⟩
/-- the same records, the same number -/
theorem rVf_len {rs rs2 : List zRt} (h : rVf rs = rVf rs2) : rs.length = rs2.length := by
  obtain ⟨K, h1, h2⟩ := keys_of (rs ++ rs2)
  have a := rVf_sum rs K h1 (fun e he => h2 e (List.mem_append_left _ he))
  have b := rVf_sum rs2 K h1 (fun e he => h2 e (List.mem_append_right _ he))
  rw [h] at a
  omega
theorem znr_len {os : List zOt} {rs : List zRt} (h : zV os = rVf rs) : znr os = rs.length := by
  rw [← fls_len]
  exact rVf_len (by rw [fls_V, h])
/-- sums over different names -/
theorem ind_n (m : np_N) (k : Nat) : ∀ N : List np_N, N.Nodup → (N.map (fun x => if m = x then k else 0)).sum ≤ k
  | [], _ => Nat.zero_le _
  | x :: N, h => by
    rw [List.nodup_cons] at h
    rw [List.map_cons, List.sum_cons]
    have ih := ind_n m k N h.2
    by_cases z : m = x
    · have h0 : ∀ L : List np_N, x ∉ L → (L.map (fun x => if m = x then k else 0)).sum = 0 := fun L => by
        induction L with
        | nil => exact fun _ => rfl
        | cons q L ihl =>
          intro hq
          rw [List.mem_cons, not_or] at hq
          rw [List.map_cons, List.sum_cons, ihl hq.2, if_neg (fun w => hq.1 (z.symm.trans w))]
      rw [if_pos z, h0 N h.1]; exact Nat.le_refl _
    · rw [if_neg z]; omega
theorem nsum (w : zOt → Nat) (N : List np_N) (hN : N.Nodup) : ∀ os : List zOt, (N.map (fun x => ((os.filter (fun o => decide (oM o = x))).map w).sum)).sum ≤ (os.map w).sum
  | [] => by
    have : ∀ N : List np_N, (N.map (fun x => ((([] : List zOt).filter (fun o => decide (oM o = x))).map w).sum)).sum = 0 := fun N => by
      induction N with
      | nil => rfl
      | cons x N ih => rw [List.map_cons, List.sum_cons, ih]; rfl
    rw [this]; exact Nat.zero_le _
  | o :: os => by
    have ih := nsum w N hN os
    have i1 := ind_n (oM o) (w o) N hN
    have es : (N.map (fun x => (((o :: os).filter (fun o => decide (oM o = x))).map w).sum)).sum = (N.map (fun x => if oM o = x then w o else 0)).sum + (N.map (fun x => ((os.filter (fun o => decide (oM o = x))).map w).sum)).sum := by
      clear ih i1 hN
      induction N with
      | nil => rfl
      | cons x N ih =>
        rw [List.map_cons, List.map_cons, List.map_cons, List.sum_cons, List.sum_cons, List.sum_cons, ih]
        by_cases z : oM o = x
        · rw [if_pos z, List.filter_cons_of_pos (by simpa using z), List.map_cons, List.sum_cons]; omega
        · rw [if_neg z, List.filter_cons_of_neg (by simpa using z)]; omega
    rw [es, List.map_cons, List.sum_cons]; omega
theorem sets_le {os : List zOt} (h : zgo os) : (os.map (fun o => (oX o).length)).sum ≤ znr os := by
  have hO : ∀ o ∈ os, (oX o).length ≤ znO o := fun o ho => by
    obtain ⟨i, hi, rfl⟩ := oe_ix ho
    exact zsum_n (fun s => (sX s).length) (fun s hs => by
      obtain ⟨j, hj, rfl⟩ := oS_ix hs
      exact (h.2 i hi).2.2 j hj)
  clear h
  unfold znr
  induction os with
  | nil => exact Nat.le_refl _
  | cons o os ih =>
    rw [List.map_cons, List.map_cons, List.sum_cons, List.sum_cons]
    have := hO o List.mem_cons_self
    have := ih (fun o' h' => hO o' (List.mem_cons_of_mem _ h'))
    omega
theorem zL47_lkn (os : List zOt) (L : List aV) : zL47 os L = ((lkn L).map (zlc os)).sum := by
  unfold zL47 lkn
  rw [List.map_map]; rfl
theorem zL47_le {os : List zOt} {L : List aV} {k : Nat} (h : zgo os) (hn : (lkn L).Nodup) (hk : (lkn L).length ≤ k) : zL47 os L ≤ 36 * znr os + 332 * k := by
  have h1 := nsum (fun o => (oX o).length) (lkn L) hn os
  have h2 := sets_le h
  rw [zL47_lkn]
  have h3 : ∀ N : List np_N, (N.map (zlc os)).sum = 36 * (N.map (fun x => ((os.filter (fun o => decide (oM o = x))).map (fun o => (oX o).length)).sum)).sum + 332 * N.length := fun N => by
    induction N with
    | nil => rfl
    | cons x N ih =>
      rw [List.map_cons, List.map_cons, List.sum_cons, List.sum_cons, ih, List.length_cons]
      unfold zlc
      omega
  rw [h3]
  have := Nat.mul_le_mul_left 36 h1
  have := Nat.mul_le_mul_left 36 h2
  have := Nat.mul_le_mul_left 332 hk
  omega
/-- the class's room for an answering -/
theorem zask_rm {os : List zOt} {W : zW} {V : zVt} {top : np_N} {n : Nat} (h : zgo os) (hz : znr os ≤ n) (hb : W.1.length ≤ n + 9 ∧ W.2.1.length ≤ n + 12 ∧ W.2.2.length ≤ n) (hl : wLk V top 11 W) : zPc W ≤ 6 * n + 108 ∧ zPm os W ≤ 72 * n + 4024 := by
  have h1 := zL47_le h hl.1 hl.2.1
  have h2 : (W.2.1.filter (fun e => decide (e.2.1 = 47))).length ≤ 11 := by
    have := hl.2.1
    unfold lkn at this
    rw [List.length_map] at this
    exact this
  obtain ⟨b1, b2, b3⟩ := hb
  constructor
  · unfold zPc; omega
  · unfold zPm; omega
theorem zsc_le {os : List zOt} (h : zgo os) : zsc os os.length ≤ znr os := by
  unfold zsc
  rw [List.take_length]
  exact sets_le h
theorem zth_le {os : List zOt} {B : Nat} (hB : ∀ i, i < os.length → (oM (oe os i)).length ≤ B) : ∀ i, i ≤ os.length → zth os i ≤ 1 + i * B
  | 0, _ => Nat.le_add_right _ _
  | i + 1, hi => by
    have ih := zth_le hB i (by omega)
    have hb := hB i (by omega)
    show zth os i + _ ≤ _
    have e : (i + 1) * B = i * B + B := by rw [Nat.add_mul, Nat.one_mul]
    rw [e]
    split <;> omega
