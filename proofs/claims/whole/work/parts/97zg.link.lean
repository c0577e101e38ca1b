/-! HOW LONG A LINK CAN GET -/
section LKB
variable {V : zVt} {top : np_N} {n : Nat} {x : np_N}
theorem sum_ge1 {α : Type} (g : α → Nat) : ∀ K : List α, (∀ p ∈ K, 1 ≤ g p) → K.length ≤ (K.map g).sum
  | [], _ => Nat.le_refl _
  | p :: K, h => by
    rw [List.map_cons, List.sum_cons, List.length_cons]
    have h1 := h p List.mem_cons_self
    have h2 := sum_ge1 g K (fun q hq => h q (List.mem_cons_of_mem _ hq))
    omega
theorem fil_46 : ∀ T : List Nat, T.Nodup → T.length ≤ (T.filter (fun t => decide (¬ t = 46 ∧ ¬ t = 47))).length + 2 := fun T hT => by
  have h1 := fil_2 (fun t : Nat => ¬ t = 46 ∧ ¬ t = 47) T
  have h2 : (T.filter (fun t => decide (¬ (¬ t = 46 ∧ ¬ t = 47)))).length ≤ 2 := by
    have hn : (T.filter (fun t => decide (¬ (¬ t = 46 ∧ ¬ t = 47)))).Nodup := hT.sublist List.filter_sublist
    have hs : ∀ t ∈ T.filter (fun t => decide (¬ (¬ t = 46 ∧ ¬ t = 47))), t = 46 ∨ t = 47 := fun t ht => by
      have := of_decide_eq_true (List.mem_filter.mp ht).2
      omega
    generalize T.filter (fun t => decide (¬ (¬ t = 46 ∧ ¬ t = 47))) = U at hn hs
    match U, hn, hs with
    | [], _, _ => exact Nat.zero_le _
    | [_], _, _ => exact Nat.le_succ _
    | [_, _], _, _ => exact Nat.le_refl _
    | a :: b :: c :: U, hn, hs =>
      have ha := hs a List.mem_cons_self
      have hb := hs b (List.mem_cons_of_mem _ List.mem_cons_self)
      have hc := hs c (List.mem_cons_of_mem _ (List.mem_cons_of_mem _ List.mem_cons_self))
      rw [List.nodup_cons, List.nodup_cons] at hn
      have n1 : a ≠ b := fun e => hn.1 (by rw [e]; exact List.mem_cons_self)
      have n2 : a ≠ c := fun e => hn.1 (by rw [e]; exact List.mem_cons_of_mem _ List.mem_cons_self)
      have n3 : b ≠ c := fun e => hn.2.1 (by rw [e]; exact List.mem_cons_self)
      omega
  omega
theorem vty_len (hs : vsz V n) : (vty V top x).length ≤ n + 2 := by
  by_cases z : ∃ T, isTy V top x T
  · have hT : isTy V top x (vty V top x) := zch_s z.choose_spec
    generalize vty V top x = T at hT
    have hp := wso_pw hT.1
    have hnd : T.Nodup := hp.imp (fun h => Nat.ne_of_lt h)
    have h46 := fil_46 T hnd
    have hK : ((T.filter (fun t => decide (¬ t = 46 ∧ ¬ t = 47))).map (fun u => (x, nI u))).Nodup := by
      refine List.pairwise_map.mpr (List.Pairwise.imp_of_mem (fun {u v} hu hv huv e => ?_) (hp.sublist List.filter_sublist))
      have mu := List.mem_filter.mp hu
      have mv := List.mem_filter.mp hv
      have du := of_decide_eq_true mu.2
      have dv := of_decide_eq_true mv.2
      have b1 : u < 65536 := by rcases (hT.2 u).mp mu.1 with h | h | h <;> omega
      have b2 : v < 65536 := by rcases (hT.2 v).mp mv.1 with h | h | h <;> omega
      have q := (nI_eq (a := u) (b := v) (by omega) (by omega)).mp (congrArg Prod.snd e)
      omega
    have h1 := hs _ hK
    have h2 := sum_ge1 (fun p : np_N × Int32 => (V p.1 p.2).length) ((T.filter (fun t => decide (¬ t = 46 ∧ ¬ t = 47))).map (fun u => (x, nI u))) (fun p hp9 => by
      obtain ⟨u, hu, rfl⟩ := List.mem_map.mp hp9
      have mu := List.mem_filter.mp hu
      have du := of_decide_eq_true mu.2
      rcases (hT.2 u).mp mu.1 with h | h | h
      · exact absurd h du.1
      · exact absurd h du.2
      · exact List.length_pos_iff.mpr h.2.1)
    rw [List.length_map] at h2
    omega
  · have e : vty V top x = [] := by unfold vty zch; rw [dif_neg z]
    rw [e]; exact Nat.zero_le _
theorem vlk_len (hg : vgd V) (hs : vsz V n) : (vlk V top x).length ≤ 34 * (n + 2) + 255 := by
  unfold vlk
  rw [List.length_append, np_enc_len]
  have h1 : np_len (vnx V top x) ≤ 255 := by
    by_cases z : ∃ b, isNx V top x b
    · have hT : isNx V top x (vnx V top x) := zch_s z.choose_spec
      exact (hg _ hT.1.1).2.2
    · have e : vnx V top x = [] := by unfold vnx zch; rw [dif_neg z]
      rw [e]; decide
  have h2 : (wws (vty V top x)).1.length ≤ 34 * (vty V top x).length := by
    by_cases z : ∃ T, isTy V top x T
    · have hT : isTy V top x (vty V top x) := zch_s z.choose_spec
      have := wws_le hT.1 _ (Nat.le_refl _)
      rw [List.take_length] at this; exact this
    · have e : vty V top x = [] := by unfold vty zch; rw [dif_neg z]
      rw [e]; exact Nat.zero_le _
  have h3 := vty_len (top := top) (x := x) hs
  omega
end LKB
