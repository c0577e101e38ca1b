section VFO
variable {V : zVt} {top : np_N} {sec : Bool} {t : Int32} {n : Nat} {W : zW} {x : np_N}
theorem vfo_out (h : ¬ top <:+ x) : vfo V top sec t (n + 1) W x = (0, W) := by
  unfold vfo
  rw [zif_y h]
theorem vfo_ref {c : np_N} (h : top <:+ x) (hc : vco V top x = some c) (h2 : ¬ (t = 43 ∧ c = x)) : vfo V top sec t (n + 1) W x = (0, vrf V top sec W c) := by
  unfold vfo
  rw [zif_n (fun z => z h), hc, Option.filter_some, if_pos (by rw [decide_eq_true h2])]
/-- no cut stands over it -/
def vnc (V : zVt) (top : np_N) (t : Int32) (x : np_N) : Prop := ∀ c, vco V top x = some c → t = 43 ∧ c = x
theorem vnc_f (h : vnc V top t x) : (vco V top x).filter (fun c => decide (¬ (t = 43 ∧ c = x))) = none := by
  cases e : vco V top x with
  | none => rfl
  | some c => rw [Option.filter_some, if_neg (by rw [decide_eq_false (fun q => q (h c e))]; decide)]
theorem vfo_deny (h : top <:+ x) (hc : vnc V top t x) (h1 : ¬ vth V x) (h2 : ¬ vD V (vfd V x)) : vfo V top sec t (n + 1) W x = (3, vdn V top sec W x (vfd V x)) := by
  unfold vfo
  rw [zif_n (fun z => z h), vnc_f hc]
  exact zif_y ⟨h1, h2⟩
theorem vfo_tell (h : top <:+ x) (hc : vnc V top t x) (h1 : vth V x ∨ vD V (vfd V x)) (h2 : t = 5 ∨ t = 255 ∨ V (vfd V x) 5 = []) : vfo V top sec t (n + 1) W x = (0, vtl V top sec W x (vfd V x) t) := by
  unfold vfo
  rw [zif_n (fun z => z h), vnc_f hc]
  dsimp only
  rw [zif_n (fun z => h1.elim z.1 z.2), if_pos h2]
theorem vfo_next {p : Int32 × List Int32} {r : List (Int32 × List Int32)} (h : top <:+ x) (hc : vnc V top t x) (h1 : vth V x ∨ vD V (vfd V x)) (h2 : ¬ t = 5) (h3 : ¬ t = 255) (h4 : V (vfd V x) 5 = p :: r) : vfo V top sec t (n + 1) W x = vfo V top sec t n (zif (vth V x) (w1 W (vrw V x (vfd V x) 5)) (vpr V top sec (w1 W (vrw V x (vfd V x) 5)) (vov V top x))) (vtg 5 p.2) := by
  show zif _ _ _ = _
  rw [zif_n (fun z => z h), vnc_f hc]
  dsimp only
  rw [zif_n (fun z => h1.elim z.1 z.2), if_neg (by rintro (z | z | z); exact h2 z; exact h3 z; rw [h4] at z; cases z), h4]
theorem vfo_le : ∀ (n : Nat) (W : zW) (x : np_N), zLe W (vfo V top sec t n W x).2 := by
  intro n
  induction n with
  | zero => intro W x; exact zLe.rf _
  | succ n ih =>
    intro W x
    by_cases h : top <:+ x
    · by_cases hc : vnc V top t x
      · by_cases h1 : vth V x ∨ vD V (vfd V x)
        · by_cases h2 : t = 5 ∨ t = 255 ∨ V (vfd V x) 5 = []
          · rw [vfo_tell h hc h1 h2]; exact vtl_le V top sec W x _ t
          · cases h4 : V (vfd V x) 5 with
            | nil => exact absurd (Or.inr (Or.inr h4)) h2
            | cons p r =>
              rw [vfo_next h hc h1 (fun z => h2 (Or.inl z)) (fun z => h2 (Or.inr (Or.inl z))) h4]
              exact (zif_le (zLe.w1 _ _) ((zLe.w1 _ _).tr (vpr_le V top sec _ _))).tr (ih _ _)
        · rw [vfo_deny h hc (fun z => h1 (Or.inl z)) (fun z => h1 (Or.inr z))]; exact vdn_le V top sec W x _
      · have : ∃ c, vco V top x = some c ∧ ¬ (t = 43 ∧ c = x) := Classical.byContradiction (fun q => hc (fun c e => Classical.byContradiction (fun w => q ⟨c, e, w⟩)))
        obtain ⟨c, h2, h3⟩ := this
        rw [vfo_ref h h2 h3]; exact vrf_le V top sec W c
    · rw [vfo_out h]; exact zLe.rf _
end VFO
section ZFW
variable {os : List zOt} {top : np_N}
theorem zGZ.cu (h : zGZ os top) : ∀ o ∈ os, ∀ c, oC o = some c → ∃ i, i < os.length ∧ c = oA (oe os i) := by
  intro o ho c hc
  obtain ⟨i, hi, rfl⟩ := oe_ix ho
  rw [h.mk9 hi] at hc
  cases hz : zcs os (i + 1) with
  | none => rw [hz] at hc; cases hc
  | some k =>
    rw [hz] at hc
    exact ⟨k, by have := zcs_s hz; omega, (Option.some.inj hc).symm⟩
theorem zGZ.fx (h : zGZ os top) {x : np_N} (hx : top <:+ x) : oM (oe os 0) = x ∨ nk_d (zky (oM (oe os 0))) (zky x) < 0 := by
  rw [h.2.2.2.1]
  by_cases e : top = x
  · exact Or.inl e
  · exact Or.inr (zl_suf hx e)
theorem zGZ.no (h : zGZ os top) {x : np_N} {k : Nat} (hk : zpl9 os x k) (hn : ¬ (k < os.length ∧ oM (oe os k) = x)) : ∀ i, i < os.length → ¬ oM (oe os i) = x := by
  intro i hi e
  rcases Nat.lt_trichotomy i k with w | w | w
  · have := hk.2.1 i w; rw [e] at this; exact zl_ir _ this
  · rw [w] at e hi; exact hn ⟨hi, e⟩
  · have h1 := hk.2.2 k (Nat.le_refl _) (by omega)
    rw [← e] at h1
    exact h1 ((h.lt (by omega) hi).mpr w)
theorem zGZ.cutO (h : zGZ os top) {x : np_N} {r : Option Nat} (hx : zfn x) (hp : ∃ k, k ≤ os.length ∧ (∀ i, i < k → nk_d (zky (oM (oe os i))) (zky x) < 0) ∧ (∀ i, k ≤ i → i < os.length → ¬ nk_d (zky (oM (oe os i))) (zky x) < 0) ∧ ((k < os.length ∧ oM (oe os k) = x ∧ ((∃ ci, ci < os.length ∧ oC (oe os k) = some (oA (oe os ci)) ∧ oM (oe os ci) <:+ x ∧ r = some (oA (oe os ci))) ∨ ((oC (oe os k) = none ∨ ∃ ci, ci < os.length ∧ oC (oe os k) = some (oA (oe os ci)) ∧ ¬ oM (oe os ci) <:+ x) ∧ r = none))) ∨ (0 < k ∧ ¬ (k < os.length ∧ oM (oe os k) = x) ∧ ((∃ ci, ci < os.length ∧ oC (oe os (k - 1)) = some (oA (oe os ci)) ∧ oM (oe os ci) <:+ x ∧ r = some (oA (oe os ci))) ∨ ((oC (oe os (k - 1)) = none ∨ ∃ ci, ci < os.length ∧ oC (oe os (k - 1)) = some (oA (oe os ci)) ∧ ¬ oM (oe os ci) <:+ x) ∧ r = none))))) : (∃ ci, ci < os.length ∧ vco (zV os) top x = some (oM (oe os ci)) ∧ r = some (oA (oe os ci))) ∨ (vco (zV os) top x = none ∧ r = none) := by
  obtain ⟨k, k1, k2, k3, hc⟩ := hp
  rcases hc with ⟨q1, q2, hc⟩ | ⟨q1, q2, hc⟩
  · have hx2 := h.cx q1 (x := x) (fun c hc => by rw [q2]; exact hc)
    rcases hc with ⟨ci, c1, c2, c3, c4⟩ | ⟨c1, c2⟩
    · exact Or.inl ⟨ci, c1, hx2.1 ci c1 c2 c3, c4⟩
    · exact Or.inr ⟨hx2.2 c1, c2⟩
  · have hn := h.no ⟨k1, k2, k3⟩ q2
    have hx2 := h.cx (m := k - 1) (by omega) (h.cxb hx ⟨k1, k2, k3⟩ q1 hn)
    rcases hc with ⟨ci, c1, c2, c3, c4⟩ | ⟨c1, c2⟩
    · exact Or.inl ⟨ci, c1, hx2.1 ci c1 c2 c3, c4⟩
    · exact Or.inr ⟨hx2.2 c1, c2⟩
theorem zGZ.dpO (h : zGZ os top) {x : np_N} {r : Int32} (hx : zfn x) (hp : ∃ k, k ≤ os.length ∧ (∀ i, i < k → nk_d (zky (oM (oe os i))) (zky x) < 0) ∧ (∀ i, k ≤ i → i < os.length → ¬ nk_d (zky (oM (oe os i))) (zky x) < 0) ∧ r = nI (max (if 0 < k then zshr (oM (oe os (k - 1))) x else 0) (if k < os.length then zshr (oM (oe os k)) x else 0))) : ∃ d, d ≤ x.length ∧ isCl (zV os) x (x.drop (x.length - d)) ∧ (d = x.length ↔ vth (zV os) x) ∧ r = nI d := by
  obtain ⟨k, k1, k2, k3, e⟩ := hp
  have q := h.dp hx ⟨k1, k2, k3⟩ rfl
  exact ⟨_, q.1, q.2.1, q.2.2, e⟩
theorem zGZ.th0 (h : zGZ os top) : vth (zV os) top := ⟨top, h.top0.1, List.suffix_refl _⟩
/-- a name that is not there comes behind the origin -/
theorem zGZ.lx (h : zGZ os top) {x : np_N} (hx : top <:+ x) (hn : ¬ vth (zV os) x) : zl top x := zl_suf hx (fun e => hn (e ▸ h.th0))
theorem zGZ.lf (h : zGZ os top) {x s : np_N} (hx : top <:+ x) (hc : isCl (zV os) x s) : top <:+ ([42] :: s) ∧ zl top ([42] :: s) := by
  have h1 : top <:+ s := suf_len hx hc.1 (hc.2.2 top hx h.th0)
  have h2 : top <:+ ([42] :: s) := h1.trans (List.suffix_cons _ _)
  exact ⟨h2, zl_suf h2 (fun e => by have := h1.length_le; rw [e] at this; simp at this; omega)⟩
/-- the topmost cut is in the chain -/
theorem zGZ.cc (h : zGZ os top) {x c : np_N} (hc : vco (zV os) top x = some c) : ∃ ci, ci < os.length ∧ oM (oe os ci) = c ∧ zhT (oe os ci) 2 ∧ vch (zV os) top c := by
  have hco := vco_s hc
  obtain ⟨k, hk, h0, h2, e⟩ := h.ct2 hco.1
  refine ⟨k, hk, e, h2, ⟨2, hco.1.2.2⟩, ?_⟩
  rintro ⟨d, hd, hne⟩
  have hd2 := (vco_s hd).1
  have hdx : isCt (zV os) top x d := ⟨hd2.1.trans hco.1.1, hd2.2⟩
  have h3 := hco.2 d hdx
  exact hne (hd2.1.eq_of_length (Nat.le_antisymm hd2.1.length_le h3))
end ZFW
theorem np_star_g {x : np_N} {d : Nat} (hg : np_g x) (hd : d < x.length) : np_g ([42] :: x.drop (x.length - d)) := by
  refine ⟨?_, ?_⟩
  · intro l hl
    rcases List.mem_cons.mp hl with e | e
    · rw [e]; exact ⟨by decide, by decide⟩
    · exact hg.1 l (List.mem_of_mem_drop e)
  · rw [np_star_len]
    have h1 := np_len_drop x (x.length - d) (Nat.sub_le _ _)
    have h2 : 2 ≤ np_pos x (x.length - d) := by
      obtain ⟨j, hj⟩ : ∃ j, x.length - d = j + 1 := ⟨x.length - d - 1, by omega⟩
      rw [hj, np_pos_succ x j (by omega)]
      have hl : 1 ≤ (x.getD j []).length := by
        rw [List.getD_eq_getElem?_getD, List.getElem?_eq_getElem (show j < x.length by omega)]
        exact (hg.1 _ (List.getElem_mem _)).1
      omega
    have h3 := np_pos_le x (x.length - d) (Nat.sub_le _ _)
    have := hg.2
    omega
theorem w_117 : (.fieldLink "ZoneAnswers$Answer" 72 "ZoneAnswers$Name" "labels" "I" : Cond) ∈ zw := zw_at 117 (by decide +kernel) (by decide +kernel)
theorem w_1022 : (.methodLink "ZoneAnswers$Answer" 45 ⟨"ZoneAnswers$Name", "isAtOrBelow", "(LZoneAnswers$Name;)Z"⟩ : Cond) ∈ zw := zw_at 1022 (by decide +kernel) (by decide +kernel)
theorem w_1023 : (.methodLink "ZoneAnswers$Answer" 51 ⟨"ZoneAnswers$Zone", "cutOver", "(LZoneAnswers$Name;)LZoneAnswers$Owner;"⟩ : Cond) ∈ zw := zw_at 1023 (by decide +kernel) (by decide +kernel)
theorem w_1024 : (.instanceMethod ⟨"ZoneAnswers$Zone", "cutOver", "(LZoneAnswers$Name;)LZoneAnswers$Owner;"⟩ : Cond) ∈ zw := zw_at 1024 (by decide +kernel) (by decide +kernel)
theorem w_1025 : (.selects "ZoneAnswers$Zone" ⟨"ZoneAnswers$Zone", "cutOver", "(LZoneAnswers$Name;)LZoneAnswers$Owner;"⟩ ⟨"ZoneAnswers$Zone", "cutOver", "(LZoneAnswers$Name;)LZoneAnswers$Owner;"⟩ : Cond) ∈ zw := zw_at 1025 (by decide +kernel) (by decide +kernel)
theorem w_1026 : (.code ⟨"ZoneAnswers$Zone", "cutOver", "(LZoneAnswers$Name;)LZoneAnswers$Owner;"⟩ prog_10_method_16_code 5 (some (.object "ZoneAnswers$Owner")) : Cond) ∈ zw := zw_at 1026 (by decide +kernel) (by decide +kernel)
theorem w_1028 : (.methodLink "ZoneAnswers$Answer" 64 ⟨"ZoneAnswers$Answer", "refer", "(LZoneAnswers$Owner;)V"⟩ : Cond) ∈ zw := zw_at 1028 (by decide +kernel) (by decide +kernel)
theorem w_1030 : (.instanceMethod ⟨"ZoneAnswers$Answer", "refer", "(LZoneAnswers$Owner;)V"⟩ : Cond) ∈ zw := zw_at 1030 (by decide +kernel) (by decide +kernel)
theorem w_1031 : (.code ⟨"ZoneAnswers$Answer", "refer", "(LZoneAnswers$Owner;)V"⟩ prog_2_method_5_code 5 none : Cond) ∈ zw := zw_at 1031 (by decide +kernel) (by decide +kernel)
theorem w_1146 : (.methodLink "ZoneAnswers$Answer" 68 ⟨"ZoneAnswers$Zone", "depth", "(LZoneAnswers$Name;)I"⟩ : Cond) ∈ zw := zw_at 1146 (by decide +kernel) (by decide +kernel)
theorem w_1147 : (.instanceMethod ⟨"ZoneAnswers$Zone", "depth", "(LZoneAnswers$Name;)I"⟩ : Cond) ∈ zw := zw_at 1147 (by decide +kernel) (by decide +kernel)
theorem w_1148 : (.selects "ZoneAnswers$Zone" ⟨"ZoneAnswers$Zone", "depth", "(LZoneAnswers$Name;)I"⟩ ⟨"ZoneAnswers$Zone", "depth", "(LZoneAnswers$Name;)I"⟩ : Cond) ∈ zw := zw_at 1148 (by decide +kernel) (by decide +kernel)
theorem w_1149 : (.code ⟨"ZoneAnswers$Zone", "depth", "(LZoneAnswers$Name;)I"⟩ prog_10_method_17_code 5 (some .int) : Cond) ∈ zw := zw_at 1149 (by decide +kernel) (by decide +kernel)
theorem w_1150 : (.methodLink "ZoneAnswers$Answer" 75 ⟨"ZoneAnswers$Name", "star", "(I)LZoneAnswers$Name;"⟩ : Cond) ∈ zw := zw_at 1150 (by decide +kernel) (by decide +kernel)
theorem w_1151 : (.instanceMethod ⟨"ZoneAnswers$Name", "star", "(I)LZoneAnswers$Name;"⟩ : Cond) ∈ zw := zw_at 1151 (by decide +kernel) (by decide +kernel)
theorem w_1152 : (.selects "ZoneAnswers$Name" ⟨"ZoneAnswers$Name", "star", "(I)LZoneAnswers$Name;"⟩ ⟨"ZoneAnswers$Name", "star", "(I)LZoneAnswers$Name;"⟩ : Cond) ∈ zw := zw_at 1152 (by decide +kernel) (by decide +kernel)
theorem w_1153 : (.code ⟨"ZoneAnswers$Name", "star", "(I)LZoneAnswers$Name;"⟩ prog_4_method_8_code 4 (some (.object "ZoneAnswers$Name")) : Cond) ∈ zw := zw_at 1153 (by decide +kernel) (by decide +kernel)
theorem w_1157 : (.methodLink "ZoneAnswers$Answer" 82 ⟨"ZoneAnswers$Answer", "deny", "(LZoneAnswers$Name;LZoneAnswers$Name;)V"⟩ : Cond) ∈ zw := zw_at 1157 (by decide +kernel) (by decide +kernel)
theorem w_1159 : (.instanceMethod ⟨"ZoneAnswers$Answer", "deny", "(LZoneAnswers$Name;LZoneAnswers$Name;)V"⟩ : Cond) ∈ zw := zw_at 1159 (by decide +kernel) (by decide +kernel)
theorem w_1160 : (.code ⟨"ZoneAnswers$Answer", "deny", "(LZoneAnswers$Name;LZoneAnswers$Name;)V"⟩ prog_2_method_6_code 3 none : Cond) ∈ zw := zw_at 1160 (by decide +kernel) (by decide +kernel)
theorem w_1173 : (.methodLink "ZoneAnswers$Answer" 90 ⟨"ZoneAnswers$Answer", "tell", "(LZoneAnswers$Name;LZoneAnswers$Name;LZoneAnswers$Owner;)V"⟩ : Cond) ∈ zw := zw_at 1173 (by decide +kernel) (by decide +kernel)
theorem w_1175 : (.instanceMethod ⟨"ZoneAnswers$Answer", "tell", "(LZoneAnswers$Name;LZoneAnswers$Name;LZoneAnswers$Owner;)V"⟩ : Cond) ∈ zw := zw_at 1175 (by decide +kernel) (by decide +kernel)
theorem w_1176 : (.code ⟨"ZoneAnswers$Answer", "tell", "(LZoneAnswers$Name;LZoneAnswers$Name;LZoneAnswers$Owner;)V"⟩ prog_2_method_7_code 6 none : Cond) ∈ zw := zw_at 1176 (by decide +kernel) (by decide +kernel)
theorem w_1179 : (.methodLink "ZoneAnswers$Answer" 110 ⟨"ZoneAnswers$Rrset", "firstTarget", "()LZoneAnswers$Name;"⟩ : Cond) ∈ zw := zw_at 1179 (by decide +kernel) (by decide +kernel)
theorem w_1180 : (.instanceMethod ⟨"ZoneAnswers$Rrset", "firstTarget", "()LZoneAnswers$Name;"⟩ : Cond) ∈ zw := zw_at 1180 (by decide +kernel) (by decide +kernel)
theorem w_1181 : (.selects "ZoneAnswers$Rrset" ⟨"ZoneAnswers$Rrset", "firstTarget", "()LZoneAnswers$Name;"⟩ ⟨"ZoneAnswers$Rrset", "firstTarget", "()LZoneAnswers$Name;"⟩ : Cond) ∈ zw := zw_at 1181 (by decide +kernel) (by decide +kernel)
theorem w_1182 : (.code ⟨"ZoneAnswers$Rrset", "firstTarget", "()LZoneAnswers$Name;"⟩ prog_6_method_4_code 1 (some (.object "ZoneAnswers$Name")) : Cond) ∈ zw := zw_at 1182 (by decide +kernel) (by decide +kernel)
theorem wp_15 : (.selects "ZoneAnswers$Answer" ⟨"ZoneAnswers$Answer", "refer", "(LZoneAnswers$Owner;)V"⟩ ⟨"ZoneAnswers$Answer", "refer", "(LZoneAnswers$Owner;)V"⟩ : Cond) ∈ zw := zw_pv 15 (y := ⟨"ZoneAnswers$Answer", "refer", "(LZoneAnswers$Owner;)V"⟩) rfl (by decide +kernel)
theorem wp_21 : (.selects "ZoneAnswers$Answer" ⟨"ZoneAnswers$Answer", "deny", "(LZoneAnswers$Name;LZoneAnswers$Name;)V"⟩ ⟨"ZoneAnswers$Answer", "deny", "(LZoneAnswers$Name;LZoneAnswers$Name;)V"⟩ : Cond) ∈ zw := zw_pv 21 (y := ⟨"ZoneAnswers$Answer", "deny", "(LZoneAnswers$Name;LZoneAnswers$Name;)V"⟩) rfl (by decide +kernel)
theorem wp_23 : (.selects "ZoneAnswers$Answer" ⟨"ZoneAnswers$Answer", "tell", "(LZoneAnswers$Name;LZoneAnswers$Name;LZoneAnswers$Owner;)V"⟩ ⟨"ZoneAnswers$Answer", "tell", "(LZoneAnswers$Name;LZoneAnswers$Name;LZoneAnswers$Owner;)V"⟩ : Cond) ∈ zw := zw_pv 23 (y := ⟨"ZoneAnswers$Answer", "tell", "(LZoneAnswers$Name;LZoneAnswers$Name;LZoneAnswers$Owner;)V"⟩) rfl (by decide +kernel)
abbrev c_An_follow : ByteArray := prog_2_method_4_code
abbrev y_An_follow : MethodName := ⟨"ZoneAnswers$Answer", "follow", "(LZoneAnswers$Name;)I"⟩
theorem d_An_follow_0 : decode c_An_follow 0 = .ok (.aload_n 1, 1) := by decide +kernel
theorem d_An_follow_1 : decode c_An_follow 1 = .ok (.aload_n 0, 1) := by decide +kernel
theorem d_An_follow_2 : decode c_An_follow 2 = .ok (.getfield 9, 3) := by decide +kernel
theorem d_An_follow_5 : decode c_An_follow 5 = .ok (.invokevirtual 39, 3) := by decide +kernel
theorem d_An_follow_8 : decode c_An_follow 8 = .ok (.invokevirtual 45, 3) := by decide +kernel
theorem d_An_follow_11 : decode c_An_follow 11 = .ok (.ifCond .ne 5, 3) := by decide +kernel
theorem d_An_follow_14 : decode c_An_follow 14 = .ok (.iconst 5, 1) := by decide +kernel
theorem d_An_follow_15 : decode c_An_follow 15 = .ok (.ireturn, 1) := by decide +kernel
theorem d_An_follow_16 : decode c_An_follow 16 = .ok (.aload_n 1, 1) := by decide +kernel
theorem d_An_follow_17 : decode c_An_follow 17 = .ok (.astore_n 2, 1) := by decide +kernel
theorem d_An_follow_18 : decode c_An_follow 18 = .ok (.iconst 0, 1) := by decide +kernel
theorem d_An_follow_19 : decode c_An_follow 19 = .ok (.istore_n 3, 1) := by decide +kernel
theorem d_An_follow_20 : decode c_An_follow 20 = .ok (.iload_n 3, 1) := by decide +kernel
theorem d_An_follow_21 : decode c_An_follow 21 = .ok (.bipush 9, 2) := by decide +kernel
theorem d_An_follow_23 : decode c_An_follow 23 = .ok (.if_icmp .ge 235, 3) := by decide +kernel
theorem d_An_follow_26 : decode c_An_follow 26 = .ok (.aload_n 2, 1) := by decide +kernel
theorem d_An_follow_27 : decode c_An_follow 27 = .ok (.ifnull 17, 3) := by decide +kernel
theorem d_An_follow_30 : decode c_An_follow 30 = .ok (.aload_n 2, 1) := by decide +kernel
theorem d_An_follow_31 : decode c_An_follow 31 = .ok (.aload_n 0, 1) := by decide +kernel
theorem d_An_follow_32 : decode c_An_follow 32 = .ok (.getfield 9, 3) := by decide +kernel
theorem d_An_follow_35 : decode c_An_follow 35 = .ok (.invokevirtual 39, 3) := by decide +kernel
theorem d_An_follow_38 : decode c_An_follow 38 = .ok (.invokevirtual 45, 3) := by decide +kernel
theorem d_An_follow_41 : decode c_An_follow 41 = .ok (.ifCond .ne 5, 3) := by decide +kernel
theorem d_An_follow_44 : decode c_An_follow 44 = .ok (.iconst 0, 1) := by decide +kernel
theorem d_An_follow_45 : decode c_An_follow 45 = .ok (.ireturn, 1) := by decide +kernel
theorem d_An_follow_46 : decode c_An_follow 46 = .ok (.aload_n 0, 1) := by decide +kernel
theorem d_An_follow_47 : decode c_An_follow 47 = .ok (.getfield 9, 3) := by decide +kernel
theorem d_An_follow_50 : decode c_An_follow 50 = .ok (.aload_n 2, 1) := by decide +kernel
theorem d_An_follow_51 : decode c_An_follow 51 = .ok (.invokevirtual 51, 3) := by decide +kernel
theorem d_An_follow_54 : decode c_An_follow 54 = .ok (.astore 4, 2) := by decide +kernel
theorem d_An_follow_56 : decode c_An_follow 56 = .ok (.aload 4, 2) := by decide +kernel
theorem d_An_follow_58 : decode c_An_follow 58 = .ok (.ifnull 32, 3) := by decide +kernel
theorem d_An_follow_61 : decode c_An_follow 61 = .ok (.aload_n 0, 1) := by decide +kernel
theorem d_An_follow_62 : decode c_An_follow 62 = .ok (.getfield 31, 3) := by decide +kernel
theorem d_An_follow_65 : decode c_An_follow 65 = .ok (.bipush 43, 2) := by decide +kernel
theorem d_An_follow_67 : decode c_An_follow 67 = .ok (.if_icmp .ne 15, 3) := by decide +kernel
theorem d_An_follow_70 : decode c_An_follow 70 = .ok (.aload 4, 2) := by decide +kernel
theorem d_An_follow_72 : decode c_An_follow 72 = .ok (.getfield 55, 3) := by decide +kernel
theorem d_An_follow_75 : decode c_An_follow 75 = .ok (.aload_n 2, 1) := by decide +kernel
theorem d_An_follow_76 : decode c_An_follow 76 = .ok (.invokevirtual 61, 3) := by decide +kernel
theorem d_An_follow_79 : decode c_An_follow 79 = .ok (.ifCond .ne 11, 3) := by decide +kernel
theorem d_An_follow_82 : decode c_An_follow 82 = .ok (.aload_n 0, 1) := by decide +kernel
theorem d_An_follow_83 : decode c_An_follow 83 = .ok (.aload 4, 2) := by decide +kernel
theorem d_An_follow_85 : decode c_An_follow 85 = .ok (.invokevirtual 64, 3) := by decide +kernel
theorem d_An_follow_88 : decode c_An_follow 88 = .ok (.iconst 0, 1) := by decide +kernel
theorem d_An_follow_89 : decode c_An_follow 89 = .ok (.ireturn, 1) := by decide +kernel
theorem d_An_follow_90 : decode c_An_follow 90 = .ok (.aload_n 0, 1) := by decide +kernel
theorem d_An_follow_91 : decode c_An_follow 91 = .ok (.getfield 9, 3) := by decide +kernel
theorem d_An_follow_94 : decode c_An_follow 94 = .ok (.aload_n 2, 1) := by decide +kernel
theorem d_An_follow_95 : decode c_An_follow 95 = .ok (.invokevirtual 68, 3) := by decide +kernel
theorem d_An_follow_98 : decode c_An_follow 98 = .ok (.istore 5, 2) := by decide +kernel
theorem d_An_follow_100 : decode c_An_follow 100 = .ok (.iload 5, 2) := by decide +kernel
theorem d_An_follow_102 : decode c_An_follow 102 = .ok (.aload_n 2, 1) := by decide +kernel
theorem d_An_follow_103 : decode c_An_follow 103 = .ok (.getfield 72, 3) := by decide +kernel
theorem d_An_follow_106 : decode c_An_follow 106 = .ok (.if_icmp .ne 7, 3) := by decide +kernel
theorem d_An_follow_109 : decode c_An_follow 109 = .ok (.iconst 1, 1) := by decide +kernel
theorem d_An_follow_110 : decode c_An_follow 110 = .ok (.goto 4, 3) := by decide +kernel
theorem d_An_follow_113 : decode c_An_follow 113 = .ok (.iconst 0, 1) := by decide +kernel
theorem d_An_follow_114 : decode c_An_follow 114 = .ok (.istore 6, 2) := by decide +kernel
theorem d_An_follow_116 : decode c_An_follow 116 = .ok (.iload 6, 2) := by decide +kernel
theorem d_An_follow_118 : decode c_An_follow 118 = .ok (.ifCond .eq 7, 3) := by decide +kernel
theorem d_An_follow_121 : decode c_An_follow 121 = .ok (.aload_n 2, 1) := by decide +kernel
theorem d_An_follow_122 : decode c_An_follow 122 = .ok (.goto 9, 3) := by decide +kernel
theorem d_An_follow_125 : decode c_An_follow 125 = .ok (.aload_n 2, 1) := by decide +kernel
theorem d_An_follow_126 : decode c_An_follow 126 = .ok (.iload 5, 2) := by decide +kernel
theorem d_An_follow_128 : decode c_An_follow 128 = .ok (.invokevirtual 75, 3) := by decide +kernel
theorem d_An_follow_131 : decode c_An_follow 131 = .ok (.astore 7, 2) := by decide +kernel
theorem d_An_follow_133 : decode c_An_follow 133 = .ok (.aload_n 0, 1) := by decide +kernel
theorem d_An_follow_134 : decode c_An_follow 134 = .ok (.getfield 9, 3) := by decide +kernel
theorem d_An_follow_137 : decode c_An_follow 137 = .ok (.aload 7, 2) := by decide +kernel
theorem d_An_follow_139 : decode c_An_follow 139 = .ok (.invokevirtual 79, 3) := by decide +kernel
theorem d_An_follow_142 : decode c_An_follow 142 = .ok (.astore 8, 2) := by decide +kernel
theorem d_An_follow_144 : decode c_An_follow 144 = .ok (.iload 6, 2) := by decide +kernel
theorem d_An_follow_146 : decode c_An_follow 146 = .ok (.ifCond .ne 17, 3) := by decide +kernel
theorem d_An_follow_149 : decode c_An_follow 149 = .ok (.aload 8, 2) := by decide +kernel
theorem d_An_follow_151 : decode c_An_follow 151 = .ok (.ifnonnull 12, 3) := by decide +kernel
theorem d_An_follow_154 : decode c_An_follow 154 = .ok (.aload_n 0, 1) := by decide +kernel
theorem d_An_follow_155 : decode c_An_follow 155 = .ok (.aload_n 2, 1) := by decide +kernel
theorem d_An_follow_156 : decode c_An_follow 156 = .ok (.aload 7, 2) := by decide +kernel
theorem d_An_follow_158 : decode c_An_follow 158 = .ok (.invokevirtual 82, 3) := by decide +kernel
theorem d_An_follow_161 : decode c_An_follow 161 = .ok (.iconst 3, 1) := by decide +kernel
theorem d_An_follow_162 : decode c_An_follow 162 = .ok (.ireturn, 1) := by decide +kernel
theorem d_An_follow_163 : decode c_An_follow 163 = .ok (.aload 8, 2) := by decide +kernel
theorem d_An_follow_165 : decode c_An_follow 165 = .ok (.ifnull 21, 3) := by decide +kernel
theorem d_An_follow_168 : decode c_An_follow 168 = .ok (.aload_n 0, 1) := by decide +kernel
theorem d_An_follow_169 : decode c_An_follow 169 = .ok (.getfield 31, 3) := by decide +kernel
theorem d_An_follow_172 : decode c_An_follow 172 = .ok (.iconst 5, 1) := by decide +kernel
theorem d_An_follow_173 : decode c_An_follow 173 = .ok (.if_icmp .eq 13, 3) := by decide +kernel
theorem d_An_follow_176 : decode c_An_follow 176 = .ok (.aload_n 0, 1) := by decide +kernel
theorem d_An_follow_177 : decode c_An_follow 177 = .ok (.getfield 31, 3) := by decide +kernel
theorem d_An_follow_180 : decode c_An_follow 180 = .ok (.sipush 255, 3) := by decide +kernel
theorem d_An_follow_183 : decode c_An_follow 183 = .ok (.if_icmp .ne 7, 3) := by decide +kernel
theorem d_An_follow_186 : decode c_An_follow 186 = .ok (.aconst_null, 1) := by decide +kernel
theorem d_An_follow_187 : decode c_An_follow 187 = .ok (.goto 9, 3) := by decide +kernel
theorem d_An_follow_190 : decode c_An_follow 190 = .ok (.aload 8, 2) := by decide +kernel
theorem d_An_follow_192 : decode c_An_follow 192 = .ok (.iconst 5, 1) := by decide +kernel
theorem d_An_follow_193 : decode c_An_follow 193 = .ok (.invokevirtual 86, 3) := by decide +kernel
theorem d_An_follow_196 : decode c_An_follow 196 = .ok (.astore 9, 2) := by decide +kernel
theorem d_An_follow_198 : decode c_An_follow 198 = .ok (.aload 9, 2) := by decide +kernel
theorem d_An_follow_200 : decode c_An_follow 200 = .ok (.ifnonnull 14, 3) := by decide +kernel
theorem d_An_follow_203 : decode c_An_follow 203 = .ok (.aload_n 0, 1) := by decide +kernel
theorem d_An_follow_204 : decode c_An_follow 204 = .ok (.aload_n 2, 1) := by decide +kernel
theorem d_An_follow_205 : decode c_An_follow 205 = .ok (.aload 7, 2) := by decide +kernel
theorem d_An_follow_207 : decode c_An_follow 207 = .ok (.aload 8, 2) := by decide +kernel
theorem d_An_follow_209 : decode c_An_follow 209 = .ok (.invokevirtual 90, 3) := by decide +kernel
theorem d_An_follow_212 : decode c_An_follow 212 = .ok (.iconst 0, 1) := by decide +kernel
theorem d_An_follow_213 : decode c_An_follow 213 = .ok (.ireturn, 1) := by decide +kernel
theorem d_An_follow_214 : decode c_An_follow 214 = .ok (.aload_n 0, 1) := by decide +kernel
theorem d_An_follow_215 : decode c_An_follow 215 = .ok (.getfield 18, 3) := by decide +kernel
theorem d_An_follow_218 : decode c_An_follow 218 = .ok (.aload_n 2, 1) := by decide +kernel
theorem d_An_follow_219 : decode c_An_follow 219 = .ok (.aload 9, 2) := by decide +kernel
theorem d_An_follow_221 : decode c_An_follow 221 = .ok (.aload 9, 2) := by decide +kernel
theorem d_An_follow_223 : decode c_An_follow 223 = .ok (.getfield 94, 3) := by decide +kernel
theorem d_An_follow_226 : decode c_An_follow 226 = .ok (.invokevirtual 99, 3) := by decide +kernel
theorem d_An_follow_229 : decode c_An_follow 229 = .ok (.iload 6, 2) := by decide +kernel
theorem d_An_follow_231 : decode c_An_follow 231 = .ok (.ifCond .ne 15, 3) := by decide +kernel
theorem d_An_follow_234 : decode c_An_follow 234 = .ok (.aload_n 0, 1) := by decide +kernel
theorem d_An_follow_235 : decode c_An_follow 235 = .ok (.aload_n 0, 1) := by decide +kernel
theorem d_An_follow_236 : decode c_An_follow 236 = .ok (.getfield 9, 3) := by decide +kernel
theorem d_An_follow_239 : decode c_An_follow 239 = .ok (.aload_n 2, 1) := by decide +kernel
theorem d_An_follow_240 : decode c_An_follow 240 = .ok (.invokevirtual 103, 3) := by decide +kernel
theorem d_An_follow_243 : decode c_An_follow 243 = .ok (.invokevirtual 106, 3) := by decide +kernel
theorem d_An_follow_246 : decode c_An_follow 246 = .ok (.aload 9, 2) := by decide +kernel
theorem d_An_follow_248 : decode c_An_follow 248 = .ok (.invokevirtual 110, 3) := by decide +kernel
theorem d_An_follow_251 : decode c_An_follow 251 = .ok (.astore_n 2, 1) := by decide +kernel
theorem d_An_follow_252 : decode c_An_follow 252 = .ok (.iinc 3 1, 3) := by decide +kernel
theorem d_An_follow_255 : decode c_An_follow 255 = .ok (.goto (-235), 3) := by decide +kernel
theorem d_An_follow_258 : decode c_An_follow 258 = .ok (.iconst 0, 1) := by decide +kernel
theorem d_An_follow_259 : decode c_An_follow 259 = .ok (.ireturn, 1) := by decide +kernel
abbrev rm_An_follow (c9 s9 : Nat) : Room := { frames := 13, cells := c9, slots := s9, locals := 470 }
set_option maxHeartbeats 4000000 in
set_option maxRecDepth 100000 in
/-- Answer.follow(question) -/
theorem t_An_follow (l : Launch) (E : zc_E) (G : zg_G) (k : Nat → Nat) (ro : zRo) (rc ty se : Int32) (os : List zOt) (top : np_N) (d1 d2 d3 : Nat) (t1 t2 t3 : List zTt) (hCx : zCx E G ro k rc ty se os top d1 d2 d3 t1 t2 t3) (hGZ : zGZ os top) (hdw : zdw os) (hzn : znr os < 2000) (a1 : Nat) (ls1 : np_N) (hNm1 : zNR E G ro a1 ls1) (hB9 : zB9 (vfo (zV os) top (zscu se) ty 9 (zWt t1 t2 t3) ls1).2) : zMi l E y_An_follow c_An_follow 10 (some .int) (rm_An_follow (zPc (vfo (zV os) top (zscu se) ty 9 (zWt t1 t2 t3) ls1).2 - zPc (zWt t1 t2 t3) + 20) (zPh os k (vfo (zV os) top (zscu se) ty 9 (zWt t1 t2 t3) ls1).2 - zPh os k (zWt t1 t2 t3) + 3000)) [.ref (k 0), .ref a1] G (fun (r : Int32) (G2 : zg_G) => ∃ ro2 e1 e2 e3 u1 u2 u3, zCx E G2 ro2 k rc ty se os top e1 e2 e3 u1 u2 u3 ∧ zfr ro zKa G ro2 G2 ∧ ((¬ top <:+ ls1 ∧ r = 5 ∧ zWt u1 u2 u3 = zWt t1 t2 t3) ∨ (top <:+ ls1 ∧ r = (vfo (zV os) top (zscu se) ty 9 (zWt t1 t2 t3) ls1).1 ∧ zWt u1 u2 u3 = (vfo (zV os) top (zscu se) ty 9 (zWt t1 t2 t3) ls1).2))) := by
  refine zMi.of (by decide) (Nat.le_of_ble_eq_true rfl) ?_
  intro p e s m args below meth c Q hZ hG hret ls hl
  obtain ⟨hx, hb, hr, hts, hown, hlocks, hml, hnm, hbase, hK, hN, hQ⟩ := hZ
  have hl : lv_has ls 10 [(0, .ref (k 0)), (1, .ref a1)] := hl
  have hS : zg_S (zc_b E) s.heap s.heap [] := va_S.rf
  obtain ⟨⟨hz1, hz2, hz3, hz4, hz5, soa, u9, hz6, hz7, hz8, hz9, hzA⟩, ⟨ha1, ha2, hs1, hs2, hs3⟩, hT1⟩ := id hCx
  obtain ⟨bo, fo, hno1, hno2, hno3, hno4, hno5, -⟩ := id hz4
  have hne : 0 < os.length := hGZ.2.2.1
  have hsz := hGZ.1.sz
  have hol : os.length ≤ 2000 := by have := hsz.1; omega
  have hso := hGZ.1.1
  have hE00 : G (E.2.2.2 0) = none := hQ.out hG
  have hl0 := zWt_l t1 t2 t3
  obtain ⟨b_a1, f_a1, hq1_a1, hq2_a1, hq3_a1, hq4_a1, hq5_a1, -⟩ := id hNm1
  have hle0 : zLe (zWt t1 t2 t3) (vfo (zV os) top (zscu se) ty 9 (zWt t1 t2 t3) ls1).2 := vfo_le _ _ _
  have hpa0 := zPh_le (os := os) (k := k) hle0
  have hpd0 := zPc_le hle0
  refine lv_aload_n hx hb d_An_follow_0 rfl (lv_at hl 1 rfl) ?_
  refine lv_aload_n hx hb d_An_follow_1 rfl (lv_at hl 0 rfl) ?_
  refine zg_get (ci := 1) (C := "ZoneAnswers$Answer") (T := T_An) (N := 6) hx hb hts zi_An hown hK hG ha1 rfl 0 (by decide) (hts _ w_684) (fun _ h9 => h9) rfl d_An_follow_2 ?_
  refine zk_q (va_runV (As := []) (rest := [.ref a1]) ⟨hx, hb, hml, hown, hts⟩ (t_Zo_top l E G (k 1) (k 11) (k 12) (k 13) (k 14) rc hz1) (zcV 0 hts w_1021 w_875 w_876 w_3 w_877 (by decide +kernel) ⟨Nat.le_of_ble_eq_true rfl, Nat.le_of_ble_eq_true rfl⟩) (zc_preV hbase hK hN hQ hG hS hz1 rfl) rfl rfl hl.1 rfl (lv_room (Nat.le_of_ble_eq_true rfl)) d_An_follow_5 ⟨(by dsimp only; omega), (by dsimp only; omega)⟩) hS (fun r5 G5 H locs hp5 hG hS => ?_)
  have hG : zP E G H := hp5.2 ▸ hG
  refine zr_some (a := k 12) hp5.1 ?_
  refine zk_i (va_runV (As := [.ref (k 12)]) (rest := []) ⟨hx, hb, hml, hown, hts⟩ (t_Na_isAtOrBelow l E G a1 b_a1 ls1 f_a1 hq1_a1 hq2_a1 hq3_a1 hq4_a1 (k 12) bo top fo hno1 hno2 hno3 hno4) (zcV 1 hts w_1022 w_650 w_651 w_7 w_652 (by decide +kernel) ⟨Nat.le_of_ble_eq_true rfl, Nat.le_of_ble_eq_true rfl⟩) (zc_preV hbase hK hN hQ hG hS hq1_a1 rfl) rfl rfl hl.1 rfl (lv_room (Nat.le_of_ble_eq_true rfl)) d_An_follow_8 ⟨(by dsimp only; omega), (by dsimp only; omega)⟩) hS (fun r8 G8 H locs hp8 hG hS => ?_)
  have hG : zP E G H := hp8.2 ▸ hG
  refine lv_if_ne (tgt := 16) hx hb d_An_follow_11 (by decide) (fun c11 => ?_) (fun c11 => ?_)
  · have hxt := hp8.1.nz c11
    refine lv_aload_n hx hb d_An_follow_16 rfl (lv_at hl 1 rfl) ?_
    refine lv_astore_n (lv' := [(2, .ref a1), (0, .ref (k 0)), (1, .ref a1)]) hx hb d_An_follow_17 rfl hl (by decide) rfl (fun ls hl => ?_)
    refine lv_iconst (v := 0) hx hb d_An_follow_18 (by decide) ?_
    refine zi_as (y := nI 0) (nI_0.symm) ?_
    refine lv_istore_n (lv' := [(3, .int (nI 0)), (2, .ref a1), (0, .ref (k 0)), (1, .ref a1)]) hx hb d_An_follow_19 rfl hl (by decide) rfl (fun ls hl => ?_)
    have loop20 : ∀ (N : Nat) (Gv : zg_G) (n8 : Nat) (a8 : Nat) (ls8 : np_N) (ro8 : zRo) (d18 : Nat) (d28 : Nat) (d38 : Nat) (t18 : List zTt) (t28 : List zTt) (t38 : List zTt) (H : Heap) (locs : List Loc), (9 - n8) < N → (n8 ≤ 9) → (zCx E Gv ro8 k rc ty se os top d18 d28 d38 t18 t28 t38) → (zfr ro zKa G ro8 Gv) → (zNR E Gv ro8 a8 ls8) → (zLe (zWt t1 t2 t3) (zWt t18 t28 t38)) → (vfo (zV os) top (zscu se) ty (9 - n8) (zWt t18 t28 t38) ls8 = vfo (zV os) top (zscu se) ty 9 (zWt t1 t2 t3) ls1) → zP E Gv H → zg_S (zc_b E) s.heap H locs → ∀ (ls : Array Slot), lv_has ls 10 [(0, .ref (k 0)), (2, .ref a8), (3, .int (nI n8))] → W p l e (rm_An_follow (zPc (vfo (zV os) top (zscu se) ty 9 (zWt t1 t2 t3) ls1).2 - zPc (zWt t1 t2 t3) + 20) (zPh os k (vfo (zV os) top (zscu se) ty 9 (zWt t1 t2 t3) ls1).2 - zPh os k (zWt t1 t2 t3) + 3000)) s m args below meth c H locs (zPc (zWt t18 t28 t38) - zPc (zWt t1 t2 t3) + 2 * n8) (zPh os k (zWt t18 t28 t38) - zPh os k (zWt t1 t2 t3) + 300 * n8) Q (F0 m 20 ls []) := by
      intro N
      induction N with
      | zero =>
        intro Gv n8 a8 ls8 ro8 d18 d28 d38 t18 t28 t38 H locs hlt
        exact absurd hlt (Nat.not_lt_zero _)
      | succ N ih =>
        intro Gv n8 a8 ls8 ro8 d18 d28 d38 t18 t28 t38 H locs hlt hn8 hC8 hf8 hN8 hleW hrem hG hS ls hl
        obtain ⟨⟨hz18, hz28, hz38, hz48, hz58, soa8, u98, hz68, hz78, hz88, hz98, hzA8⟩, ⟨ha18, ha28, hs18, hs28, hs38⟩, hT18⟩ := id hC8
        obtain ⟨bo8, fo8, hno18, hno28, hno38, hno48, hno58, -⟩ := id hz48
        obtain ⟨b_a88, f_a88, hq1_a88, hq2_a88, hq3_a88, hq4_a88, hq5_a88, -⟩ := id hN8
        have hE8 : Gv (E.2.2.2 0) = none := hQ.out hG
        have hfn8 := (zNR.fn hN8).1
        have hle8 : zLe (zWt t18 t28 t38) (vfo (zV os) top (zscu se) ty 9 (zWt t1 t2 t3) ls1).2 := by rw [← hrem]; exact vfo_le _ _ _
        have hpa8 := zPh_le (os := os) (k := k) hle8
        have hpd8 := zPc_le hle8
        have hpaW := zPh_le (os := os) (k := k) hleW
        have hpdW := zPc_le hleW
        have hcn8 := hq4_a88.count
        have hl8 := zWt_l t18 t28 t38
        refine lv_iload_n hx hb d_An_follow_20 rfl (lv_at hl 2 rfl) ?_
        refine lv_bipush (v := 9) hx hb d_An_follow_21 (by decide) ?_
        refine lv_icmp_ge (tgt := 258) hx hb d_An_follow_23 (by decide) (fun c23 => ?_) (fun c23 => ?_)
        · have b23 : 9 ≤ n8 := (nI_leI (a := 9) (b := n8) (by omega) (by omega)).mp c23
          have hn9 : n8 = 9 := by omega
          have hend : vfo (zV os) top (zscu se) ty 9 (zWt t1 t2 t3) ls1 = (0, zWt t18 t28 t38) := by rw [← hrem, hn9]; rfl
          refine lv_iconst (v := 0) hx hb d_An_follow_258 (by decide) ?_
          exact hret _ _ _ _ _ _ _ _ _ hr (rfl) (⟨ro8, d18, d28, d38, t18, t28, t38, hC8, (hf8.tr (zfr.rf (r := ro8) (G := Gv))), Or.inr ⟨hxt, (congrArg Prod.fst (hend)).symm, (congrArg Prod.snd (hend)).symm⟩⟩) hG hS (by dsimp only; omega) (by dsimp only; omega) d_An_follow_259
        · have b23 : ¬ 9 ≤ n8 := fun q => c23 ((nI_leI (a := 9) (b := n8) (by omega) (by omega)).mpr q)
          obtain ⟨m9, em9⟩ : ∃ m9, 9 - n8 = m9 + 1 := ⟨8 - n8, by omega⟩
          rw [em9] at hrem
          refine lv_aload_n hx hb d_An_follow_26 rfl (lv_at hl 1 rfl) ?_
          refine lv_ifnull hx hb d_An_follow_27 ?_
          refine lv_aload_n hx hb d_An_follow_30 rfl (lv_at hl 1 rfl) ?_
          refine lv_aload_n hx hb d_An_follow_31 rfl (lv_at hl 0 rfl) ?_
          refine zg_get (ci := 1) (C := "ZoneAnswers$Answer") (T := T_An) (N := 6) hx hb hts zi_An hown hK hG ha18 rfl 0 (by decide) (hts _ w_684) (fun _ h9 => h9) rfl d_An_follow_32 ?_
          refine zk_q (va_runV (As := []) (rest := [.ref a8]) ⟨hx, hb, hml, hown, hts⟩ (t_Zo_top l E Gv (k 1) (k 11) (k 12) (k 13) (k 14) rc hz18) (zcV 0 hts w_1021 w_875 w_876 w_3 w_877 (by decide +kernel) ⟨Nat.le_of_ble_eq_true rfl, Nat.le_of_ble_eq_true rfl⟩) (zc_preV hbase hK hN hQ hG hS hz18 rfl) rfl rfl hl.1 rfl (lv_room (Nat.le_of_ble_eq_true rfl)) d_An_follow_35 ⟨(by dsimp only; omega), (by dsimp only; omega)⟩) hS (fun r35 G35 H locs hp35 hG hS => ?_)
          have hG : zP E Gv H := hp35.2 ▸ hG
          refine zr_some (a := k 12) hp35.1 ?_
          refine zk_i (va_runV (As := [.ref (k 12)]) (rest := []) ⟨hx, hb, hml, hown, hts⟩ (t_Na_isAtOrBelow l E Gv a8 b_a88 ls8 f_a88 hq1_a88 hq2_a88 hq3_a88 hq4_a88 (k 12) bo8 top fo8 hno18 hno28 hno38 hno48) (zcV 1 hts w_1022 w_650 w_651 w_7 w_652 (by decide +kernel) ⟨Nat.le_of_ble_eq_true rfl, Nat.le_of_ble_eq_true rfl⟩) (zc_preV hbase hK hN hQ hG hS hq1_a88 rfl) rfl rfl hl.1 rfl (lv_room (Nat.le_of_ble_eq_true rfl)) d_An_follow_38 ⟨(by dsimp only; omega), (by dsimp only; omega)⟩) hS (fun r38 G38 H locs hp38 hG hS => ?_)
          have hG : zP E Gv H := hp38.2 ▸ hG
          refine lv_if_ne (tgt := 46) hx hb d_An_follow_41 (by decide) (fun c41 => ?_) (fun c41 => ?_)
          · have hx8 := hp38.1.nz c41
            refine lv_aload_n hx hb d_An_follow_46 rfl (lv_at hl 0 rfl) ?_
            refine zg_get (ci := 1) (C := "ZoneAnswers$Answer") (T := T_An) (N := 6) hx hb hts zi_An hown hK hG ha18 rfl 0 (by decide) (hts _ w_684) (fun _ h9 => h9) rfl d_An_follow_47 ?_
            refine lv_aload_n hx hb d_An_follow_50 rfl (lv_at hl 1 rfl) ?_
            have hGo51 := hG
            refine zk_q (va_runV (As := [.ref a8]) (rest := []) ⟨hx, hb, hml, hown, hts⟩ ((t_Zo_cutOver l E Gv (k 1) (k 11) (k 12) (k 13) (k 14) rc hz18 ro8 (k 15) os hz38 hne hol hso a8 b_a88 ls8 f_a88 hq1_a88 hq2_a88 hq3_a88 hq4_a88 hq5_a88 (hGZ.fx hx8) hGZ.cu).imp (p2 := fun r9 G9 => ((∃ ci, ci < os.length ∧ vco (zV os) top ls8 = some (oM (oe os ci)) ∧ r9 = some (oA (oe os ci))) ∨ (vco (zV os) top ls8 = none ∧ r9 = none)) ∧ G9 = Gv) (fun r9 G9 q9 => ⟨hGZ.cutO hfn8 q9.1, q9.2⟩)) (zcV 1 hts w_1023 w_1024 w_1025 w_3 w_1026 (by decide +kernel) ⟨Nat.le_of_ble_eq_true rfl, Nat.le_of_ble_eq_true rfl⟩) (zc_preV hbase hK hN hQ hG hS hz18 rfl) rfl rfl hl.1 rfl (lv_room (Nat.le_of_ble_eq_true rfl)) d_An_follow_51 ⟨(by dsimp only; omega), (by dsimp only; omega)⟩) hS (fun r51 G51 H locs hp51 hG hS => ?_)
            rcases hp51 with ⟨⟨ci, hci, hvc, er51⟩ | ⟨hvc, er51⟩, eg51⟩
            · have hG : zP E Gv H := eg51 ▸ hG
              refine zr_some (a := oA (oe os ci)) er51 ?_
              have howc := hz38.2 _ (oe_mem hci)
              obtain ⟨bc9, fc9, hc19, hc29, hc39, hc49, hc59, -⟩ := id howc.2.2.1
              refine lv_astore (lv' := [(4, .ref (oA (oe os ci))), (0, .ref (k 0)), (2, .ref a8), (3, .int (nI n8))]) hx hb d_An_follow_54 hl (by decide) rfl (fun ls hl => ?_)
              refine lv_aload hx hb d_An_follow_56 (lv_at hl 0 rfl) ?_
              refine lv_ifnull hx hb d_An_follow_58 ?_
              refine lv_aload_n hx hb d_An_follow_61 rfl (lv_at hl 1 rfl) ?_
              refine zg_get (ci := 1) (C := "ZoneAnswers$Answer") (T := T_An) (N := 6) hx hb hts zi_An hown hK hG ha18 rfl 4 (by decide) (hts _ w_688) (fun _ h9 => h9) rfl d_An_follow_62 ?_
              refine lv_bipush (v := 43) hx hb d_An_follow_65 (by decide) ?_
              refine lv_icmp_ne (tgt := 82) hx hb d_An_follow_67 (by decide) (fun c67 => ?_) (fun c67 => ?_)
              · refine lv_aload_n hx hb d_An_follow_82 rfl (lv_at hl 1 rfl) ?_
                refine lv_aload hx hb d_An_follow_83 (lv_at hl 0 rfl) ?_
                have hrf := vfo_ref (V := (zV os)) (top := top) (sec := (zscu se)) (t := ty) (n := m9) (W := zWt t18 t28 t38) hx8 hvc (fun z => c67 z.1)
                rw [hrem] at hrf
                obtain ⟨ck, hck, eck, hct, hcch⟩ := hGZ.cc hvc
                have eck2 := hGZ.ix hck hci eck
                rw [eck2] at hct
                have hlr := vrf_le (zV os) top (zscu se) (zWt t18 t28 t38) (oM (oe os ci))
                have hpar := zPh_le (os := os) (k := k) hlr
                have hpdr := zPc_le hlr
                have hphr : zPh os k (vfo (zV os) top (zscu se) ty 9 (zWt t1 t2 t3) ls1).2 = zPh os k (vrf (zV os) top (zscu se) (zWt t18 t28 t38) (oM (oe os ci))) := by rw [hrf]
                have hpcr : zPc (vfo (zV os) top (zscu se) ty 9 (zWt t1 t2 t3) ls1).2 = zPc (vrf (zV os) top (zscu se) (zWt t18 t28 t38) (oM (oe os ci))) := by rw [hrf]
                have hq85 := t_An_refer l E Gv k ro8 rc ty se os top d18 d28 d38 t18 t28 t38 hC8 hGZ hdw hzn ci hci hct hcch (by have q := hB9; rw [hrf] at q; exact q)
                have hGo85 := hG
                refine zk_v (va_runV (As := [.ref (oA (oe os ci))]) (rest := []) ⟨hx, hb, hml, hown, hts⟩ (hq85) (zcV 1 hts w_1028 w_1030 wp_15 w_28 w_1031 (by decide +kernel) ⟨Nat.le_of_ble_eq_true rfl, Nat.le_of_ble_eq_true rfl⟩) (zc_preV hbase hK hN hQ hG hS ha18 rfl) rfl rfl hl.1 rfl (lv_room (Nat.le_of_ble_eq_true rfl)) d_An_follow_85 ⟨(by dsimp only; omega), (by dsimp only; omega)⟩) hS (fun G85 H locs hp85 hG hS => ?_)
                obtain ⟨ro_85, d1_85, d2_85, d3_85, t1_85, t2_85, t3_85, hC_85, hf0_85, hW0_85⟩ := hp85
                have hf_85 : zfr ro8 zKa Gv ro_85 G85 := (zfr.rf (r := ro8) (G := Gv)).tr hf0_85
                have hW_85 : zWt t1_85 t2_85 t3_85 = vrf (zV os) top (zscu se) (zWt t18 t28 t38) (oM (oe os ci)) := hW0_85
                have hE_85 : G85 (E.2.2.2 0) = none := hQ.out hG
                obtain ⟨⟨hz1_85, hz2_85, hz3_85, hz4_85, hz5_85, soa_85, u9_85, hz6_85, hz7_85, hz8_85, hz9_85, hzA_85⟩, ⟨ha1_85, ha2_85, hs1_85, hs2_85, hs3_85⟩, hT1_85⟩ := id hC_85
                obtain ⟨bo_85, fo_85, hno1_85, hno2_85, hno3_85, hno4_85, hno5_85, -⟩ := id hz4_85
                have hN_a8_85 : zNR E G85 ro_85 a8 ls8 := hN8.fr hf_85 zKa_0
                obtain ⟨b_a8_85, f_a8_85, hq1_a8_85, hq2_a8_85, hq3_a8_85, hq4_a8_85, hq5_a8_85, -⟩ := id hN_a8_85
                have hl_85 := zWt_l t1_85 t2_85 t3_85
                refine lv_iconst (v := 0) hx hb d_An_follow_88 (by decide) ?_
                exact hret _ _ _ _ _ _ _ _ _ hr (rfl) (⟨ro_85, d1_85, d2_85, d3_85, t1_85, t2_85, t3_85, hC_85, (hf8.tr hf_85), Or.inr ⟨hxt, (congrArg Prod.fst (hrf)).symm, hW_85.trans (congrArg Prod.snd (hrf)).symm⟩⟩) hG hS (by dsimp only; omega) (by dsimp only; omega) d_An_follow_89
              · refine lv_aload hx hb d_An_follow_70 (lv_at hl 0 rfl) ?_
                refine zg_get (ci := 4) (C := "ZoneAnswers$Owner") (T := T_Ow) (N := 3) hx hb hts zi_Ow hown hK hG howc.1 rfl 0 (by decide) (hts _ w_205) (fun _ h9 => h9) rfl d_An_follow_72 ?_
                refine lv_aload_n hx hb d_An_follow_75 rfl (lv_at hl 2 rfl) ?_
                refine zk_i (va_runV (As := [.ref a8]) (rest := []) ⟨hx, hb, hml, hown, hts⟩ (t_Na_isSame l E Gv (oN (oe os ci)) bc9 (oM (oe os ci)) fc9 hc19 hc29 hc39 hc49 a8 b_a88 ls8 f_a88 hq1_a88 hq2_a88 hq3_a88 hq4_a88) (zcV 1 hts w_1027 w_194 w_195 w_7 w_196 (by decide +kernel) ⟨Nat.le_of_ble_eq_true rfl, Nat.le_of_ble_eq_true rfl⟩) (zc_preV hbase hK hN hQ hG hS hc19 rfl) rfl rfl hl.1 rfl (lv_room (Nat.le_of_ble_eq_true rfl)) d_An_follow_76 ⟨(by dsimp only; omega), (by dsimp only; omega)⟩) hS (fun r76 G76 H locs hp76 hG hS => ?_)
                have hG : zP E Gv H := hp76.2 ▸ hG
                refine lv_if_ne (tgt := 90) hx hb d_An_follow_79 (by decide) (fun c79 => ?_) (fun c79 => ?_)
                · have hvn : vnc (zV os) top ty ls8 := fun c9 e9 => by rw [hvc] at e9; cases e9; exact ⟨c67, hp76.1.nz c79⟩
                  refine lv_aload_n hx hb d_An_follow_90 rfl (lv_at hl 1 rfl) ?_
                  refine zg_get (ci := 1) (C := "ZoneAnswers$Answer") (T := T_An) (N := 6) hx hb hts zi_An hown hK hG ha18 rfl 0 (by decide) (hts _ w_684) (fun _ h9 => h9) rfl d_An_follow_91 ?_
                  refine lv_aload_n hx hb d_An_follow_94 rfl (lv_at hl 2 rfl) ?_
                  have hGo95 := hG
                  refine zk_i (va_runV (As := [.ref a8]) (rest := []) ⟨hx, hb, hml, hown, hts⟩ ((t_Zo_depth l E Gv (k 1) (k 11) (k 12) (k 13) (k 14) rc hz18 ro8 (k 15) os hz38 hne hol hso a8 b_a88 ls8 f_a88 hq1_a88 hq2_a88 hq3_a88 hq4_a88 hq5_a88).imp (p2 := fun r9 G9 => (∃ d, d ≤ ls8.length ∧ isCl (zV os) ls8 (ls8.drop (ls8.length - d)) ∧ (d = ls8.length ↔ vth (zV os) ls8) ∧ r9 = nI d) ∧ G9 = Gv) (fun r9 G9 q9 => ⟨hGZ.dpO hfn8 q9.1, q9.2⟩)) (zcV 1 hts w_1146 w_1147 w_1148 w_3 w_1149 (by decide +kernel) ⟨Nat.le_of_ble_eq_true rfl, Nat.le_of_ble_eq_true rfl⟩) (zc_preV hbase hK hN hQ hG hS hz18 rfl) rfl rfl hl.1 rfl (lv_room (Nat.le_of_ble_eq_true rfl)) d_An_follow_95 ⟨(by dsimp only; omega), (by dsimp only; omega)⟩) hS (fun r95 G95 H locs hp95 hG hS => ?_)
                  obtain ⟨⟨dp9, hdp1, hdp2, hdp3, er95⟩, eg95⟩ := hp95
                  have hG : zP E Gv H := eg95 ▸ hG
                  refine zi_as (y := nI dp9) er95 ?_
                  refine lv_istore (lv' := [(5, .int (nI dp9)), (4, .ref (oA (oe os ci))), (0, .ref (k 0)), (2, .ref a8), (3, .int (nI n8))]) hx hb d_An_follow_98 hl (by decide) rfl (fun ls hl => ?_)
                  refine lv_iload hx hb d_An_follow_100 (lv_at hl 0 rfl) ?_
                  refine lv_aload_n hx hb d_An_follow_102 rfl (lv_at hl 3 rfl) ?_
                  refine zg_get (ci := 3) (C := "ZoneAnswers$Name") (T := T_Na) (N := 2) hx hb hts zi_Na hown hK hG hq1_a88 rfl 1 (by decide) (hts _ w_117) (fun _ h9 => h9) rfl d_An_follow_103 ?_
                  refine lv_icmp_ne (tgt := 113) hx hb d_An_follow_106 (by decide) (fun c106 => ?_) (fun c106 => ?_)
                  · have b106 : ¬ dp9 = ls8.length := fun q => c106 ((nI_eq (a := dp9) (b := ls8.length) (by omega) (by omega)).mpr q)
                    have hth : ¬ vth (zV os) ls8 := fun z => b106 (hdp3.mpr z)
                    have hfd : vfd (zV os) ls8 = [42] :: ls8.drop (ls8.length - dp9) := by unfold vfd; rw [zif_n hth, vcl_y hdp2]
                    have hdl : dp9 < ls8.length := by omega
                    refine lv_iconst (v := 0) hx hb d_An_follow_113 (by decide) ?_
                    refine lv_istore (lv' := [(6, .int 0), (5, .int (nI dp9)), (4, .ref (oA (oe os ci))), (0, .ref (k 0)), (2, .ref a8), (3, .int (nI n8))]) hx hb d_An_follow_114 hl (by decide) rfl (fun ls hl => ?_)
                    refine lv_iload hx hb d_An_follow_116 (lv_at hl 0 rfl) ?_
                    refine lv_if_eq (tgt := 125) hx hb d_An_follow_118 (by decide) (fun c118 => ?_) (fun c118 => ?_)
                    · have b118 : 0 = 0 := (nI_eq (a := 0) (b := 0) (by omega) (by omega)).mp c118
                      refine lv_aload_n hx hb d_An_follow_125 rfl (lv_at hl 4 rfl) ?_
                      refine lv_iload hx hb d_An_follow_126 (lv_at hl 1 rfl) ?_
                      have hGo128 := hG
                      refine zk_q (va_runV (As := [.int (nI dp9)]) (rest := []) ⟨hx, hb, hml, hown, hts⟩ (t_Na_star_b l E Gv a8 b_a88 ls8 f_a88 hq1_a88 hq2_a88 hq3_a88 hq4_a88 hq5_a88 dp9 hdp1 (np_star_g hq4_a88 hdl) 300 (by decide)) (zcV 1 hts w_1150 w_1151 w_1152 w_7 w_1153 (by decide +kernel) ⟨Nat.le_of_ble_eq_true rfl, Nat.le_of_ble_eq_true rfl⟩) (zc_preV hbase hK hN hQ hG hS hq1_a88 rfl) rfl rfl hl.1 rfl (lv_room (Nat.le_of_ble_eq_true rfl)) d_An_follow_128 ⟨(by dsimp only; omega), (by dsimp only; omega)⟩) hS (fun r128 G128 H locs hp128 hG hS => ?_)
                      obtain ⟨qs, er128, hxs, hNb⟩ := hp128
                      refine zr_some (a := qs) er128 ?_
                      obtain ⟨roS, hfS, hrS, hNq⟩ := hNb.nr hxs ro8
                      have hES : G128 (E.2.2.2 0) = none := hQ.out hG
                      have hCS := hC8.z hfS hE8 hES
                      have hNS := hN8.fr hfS id
                      have htS : zfr ro zKa G roS G128 := hf8.tr (hfS.w (fun _ z => z.elim))
                      obtain ⟨⟨hz1S, hz2S, hz3S, hz4S, hz5S, soaS, u9S, hz6S, hz7S, hz8S, hz9S, hzAS⟩, ⟨ha1S, ha2S, hs1S, hs2S, hs3S⟩, hT1S⟩ := id hCS
                      obtain ⟨boS, foS, hno1S, hno2S, hno3S, hno4S, hno5S, -⟩ := id hz4S
                      obtain ⟨b_a8S, f_a8S, hq1_a8S, hq2_a8S, hq3_a8S, hq4_a8S, hq5_a8S, -⟩ := id hNS
                      obtain ⟨b_qsS, f_qsS, hq1_qsS, hq2_qsS, hq3_qsS, hq4_qsS, hq5_qsS, -⟩ := id hNq
                      refine lv_astore (lv' := [(7, .ref qs), (6, .int 0), (5, .int (nI dp9)), (4, .ref (oA (oe os ci))), (0, .ref (k 0)), (2, .ref a8), (3, .int (nI n8))]) hx hb d_An_follow_131 hl (by decide) rfl (fun ls hl => ?_)
                      refine lv_aload_n hx hb d_An_follow_133 rfl (lv_at hl 4 rfl) ?_
                      refine zg_get (ci := 1) (C := "ZoneAnswers$Answer") (T := T_An) (N := 6) hx hb hts zi_An hown hK hG ha1S rfl 0 (by decide) (hts _ w_684) (fun _ h9 => h9) rfl d_An_follow_134 ?_
                      refine lv_aload hx hb d_An_follow_137 (lv_at hl 0 rfl) ?_
                      have hGo139 := hG
                      refine zk_q (va_runV (As := [.ref qs]) (rest := []) ⟨hx, hb, hml, hown, hts⟩ (t_Zo_at_t l hz1S hz3S hne hso hq1_qsS hq2_qsS hq3_qsS hq4_qsS hq5_qsS) (zcV 1 hts w_1137 w_880 w_881 w_3 w_882 (by decide +kernel) ⟨Nat.le_of_ble_eq_true rfl, Nat.le_of_ble_eq_true rfl⟩) (zc_preV hbase hK hN hQ hG hS hz1S rfl) rfl rfl hl.1 rfl (lv_room (Nat.le_of_ble_eq_true rfl)) d_An_follow_139 ⟨(by dsimp only; omega), (by dsimp only; omega)⟩) hS (fun r139 G139 H locs hp139 hG hS => ?_)
                      rcases hp139 with ⟨⟨oi, hoi, ho2, er139⟩ | ⟨hno, er139⟩, eg139⟩
                      · have hG : zP E G128 H := eg139 ▸ hG
                        refine zr_some (a := oA (oe os oi)) er139 ?_
                        have how9 := hz3S.2 _ (oe_mem hoi)
                        have hvD : vD (zV os) (vfd (zV os) ls8) := by rw [hfd, ← ho2]; exact vD_of hGZ.1 hoi
                        refine lv_astore (lv' := [(8, .ref (oA (oe os oi))), (7, .ref qs), (6, .int 0), (5, .int (nI dp9)), (4, .ref (oA (oe os ci))), (0, .ref (k 0)), (2, .ref a8), (3, .int (nI n8))]) hx hb d_An_follow_142 hl (by decide) rfl (fun ls hl => ?_)
                        refine lv_iload hx hb d_An_follow_144 (lv_at hl 2 rfl) ?_
                        refine lv_if_ne (tgt := 163) hx hb d_An_follow_146 (by decide) (fun c146 => ?_) (fun c146 => ?_)
                        · have b146 : ¬ 0 = 0 := fun q => c146 ((nI_eq (a := 0) (b := 0) (by omega) (by omega)).mpr q)
                          exact absurd rfl b146
                        · have b146 : 0 = 0 := (nI_eq (a := 0) (b := 0) (by omega) (by omega)).mp c146
                          refine lv_aload hx hb d_An_follow_149 (lv_at hl 0 rfl) ?_
                          refine lv_ifnonnull (tgt := 163) hx hb d_An_follow_151 (by decide) ?_
                          refine lv_aload hx hb d_An_follow_163 (lv_at hl 0 rfl) ?_
                          refine lv_ifnull hx hb d_An_follow_165 ?_
                          refine lv_aload_n hx hb d_An_follow_168 rfl (lv_at hl 5 rfl) ?_
                          refine zg_get (ci := 1) (C := "ZoneAnswers$Answer") (T := T_An) (N := 6) hx hb hts zi_An hown hK hG ha1S rfl 4 (by decide) (hts _ w_688) (fun _ h9 => h9) rfl d_An_follow_169 ?_
                          refine lv_iconst (v := 5) hx hb d_An_follow_172 (by decide) ?_
                          refine lv_icmp_eq (tgt := 186) hx hb d_An_follow_173 (by decide) (fun c173 => ?_) (fun c173 => ?_)
                          · refine lv_null hx hb d_An_follow_186 ?_
                            refine lv_goto (tgt := 196) hx hb d_An_follow_187 (by decide) ?_
                            refine lv_astoreN (lv' := [(9, .null), (8, .ref (oA (oe os oi))), (7, .ref qs), (6, .int 0), (5, .int (nI dp9)), (4, .ref (oA (oe os ci))), (0, .ref (k 0)), (2, .ref a8), (3, .int (nI n8))]) hx hb d_An_follow_196 hl (by decide) rfl (fun ls hl => ?_)
                            refine lv_aloadN hx hb d_An_follow_198 (lv_at hl 0 rfl) ?_
                            refine lv_ifnonnullN hx hb d_An_follow_200 ?_
                            refine lv_aload_n hx hb d_An_follow_203 rfl (lv_at hl 6 rfl) ?_
                            refine lv_aload_n hx hb d_An_follow_204 rfl (lv_at hl 7 rfl) ?_
                            refine lv_aload hx hb d_An_follow_205 (lv_at hl 2 rfl) ?_
                            refine lv_aload hx hb d_An_follow_207 (lv_at hl 1 rfl) ?_
                            have htl := vfo_tell (V := (zV os)) (top := top) (sec := (zscu se)) (t := ty) (n := m9) (W := zWt t18 t28 t38) hx8 hvn (Or.inr hvD) (Or.inl c173)
                            rw [hrem, hfd] at htl
                            have hlr := vtl_le (zV os) top (zscu se) (zWt t18 t28 t38) ls8 ([42] :: ls8.drop (ls8.length - dp9)) ty
                            have hpar := zPh_le (os := os) (k := k) hlr
                            have hpdr := zPc_le hlr
                            have hphr : zPh os k (vfo (zV os) top (zscu se) ty 9 (zWt t1 t2 t3) ls1).2 = zPh os k (vtl (zV os) top (zscu se) (zWt t18 t28 t38) ls8 ([42] :: ls8.drop (ls8.length - dp9)) ty) := by rw [htl]
                            have hpcr : zPc (vfo (zV os) top (zscu se) ty 9 (zWt t1 t2 t3) ls1).2 = zPc (vtl (zV os) top (zscu se) (zWt t18 t28 t38) ls8 ([42] :: ls8.drop (ls8.length - dp9)) ty) := by rw [htl]
                            have hq209 := t_An_tell l E G128 k roS rc ty se os top d18 d28 d38 t18 t28 t38 hCS hGZ hdw hzn a8 ls8 hNS qs ([42] :: ls8.drop (ls8.length - dp9)) hNq (fun _ => hGZ.lx hx8 hth) oi hoi ho2 (by have q := hB9; rw [htl] at q; exact q)
                            have hGo209 := hG
                            refine zk_v (va_runV (As := [.ref a8, .ref qs, .ref (oA (oe os oi))]) (rest := []) ⟨hx, hb, hml, hown, hts⟩ (hq209) (zcV 3 hts w_1173 w_1175 wp_23 w_28 w_1176 (by decide +kernel) ⟨Nat.le_of_ble_eq_true rfl, Nat.le_of_ble_eq_true rfl⟩) (zc_preV hbase hK hN hQ hG hS ha1S rfl) rfl rfl hl.1 rfl (lv_room (Nat.le_of_ble_eq_true rfl)) d_An_follow_209 ⟨(by dsimp only; omega), (by dsimp only; omega)⟩) hS (fun G209 H locs hp209 hG hS => ?_)
                            obtain ⟨ro_209, d1_209, d2_209, d3_209, t1_209, t2_209, t3_209, hC_209, hf0_209, hW0_209⟩ := hp209
                            have hf_209 : zfr roS zKa G128 ro_209 G209 := (zfr.rf (r := roS) (G := G128)).tr hf0_209
                            have hW_209 : zWt t1_209 t2_209 t3_209 = vtl (zV os) top (zscu se) (zWt t18 t28 t38) ls8 ([42] :: ls8.drop (ls8.length - dp9)) ty := hW0_209
                            have hE_209 : G209 (E.2.2.2 0) = none := hQ.out hG
                            obtain ⟨⟨hz1_209, hz2_209, hz3_209, hz4_209, hz5_209, soa_209, u9_209, hz6_209, hz7_209, hz8_209, hz9_209, hzA_209⟩, ⟨ha1_209, ha2_209, hs1_209, hs2_209, hs3_209⟩, hT1_209⟩ := id hC_209
                            obtain ⟨bo_209, fo_209, hno1_209, hno2_209, hno3_209, hno4_209, hno5_209, -⟩ := id hz4_209
                            have hN_a8_209 : zNR E G209 ro_209 a8 ls8 := hNS.fr hf_209 zKa_0
                            obtain ⟨b_a8_209, f_a8_209, hq1_a8_209, hq2_a8_209, hq3_a8_209, hq4_a8_209, hq5_a8_209, -⟩ := id hN_a8_209
                            have hN_qs_209 : zNR E G209 ro_209 qs ([42] :: ls8.drop (ls8.length - dp9)) := hNq.fr hf_209 zKa_0
                            obtain ⟨b_qs_209, f_qs_209, hq1_qs_209, hq2_qs_209, hq3_qs_209, hq4_qs_209, hq5_qs_209, -⟩ := id hN_qs_209
                            have hl_209 := zWt_l t1_209 t2_209 t3_209
                            refine lv_iconst (v := 0) hx hb d_An_follow_212 (by decide) ?_
                            exact hret _ _ _ _ _ _ _ _ _ hr (rfl) (⟨ro_209, d1_209, d2_209, d3_209, t1_209, t2_209, t3_209, hC_209, (htS.tr hf_209), Or.inr ⟨hxt, (congrArg Prod.fst (htl)).symm, hW_209.trans (congrArg Prod.snd (htl)).symm⟩⟩) hG hS (by dsimp only; omega) (by dsimp only; omega) d_An_follow_213
                          · refine lv_aload_n hx hb d_An_follow_176 rfl (lv_at hl 5 rfl) ?_
                            refine zg_get (ci := 1) (C := "ZoneAnswers$Answer") (T := T_An) (N := 6) hx hb hts zi_An hown hK hG ha1S rfl 4 (by decide) (hts _ w_688) (fun _ h9 => h9) rfl d_An_follow_177 ?_
                            refine lv_sipush (v := 255) hx hb d_An_follow_180 (by decide) ?_
                            refine lv_icmp_ne (tgt := 190) hx hb d_An_follow_183 (by decide) (fun c183 => ?_) (fun c183 => ?_)
                            · refine lv_aload hx hb d_An_follow_190 (lv_at hl 0 rfl) ?_
                              refine lv_iconst (v := 5) hx hb d_An_follow_192 (by decide) ?_
                              have hGo193 := hG
                              refine zk_q (va_runV (As := [.int 5]) (rest := []) ⟨hx, hb, hml, hown, hts⟩ (t_Ow_find_t l how9 (hGZ.1.2 oi hoi).2.1 5) (zcV 1 hts w_1032 w_654 w_655 w_12 w_656 (by decide +kernel) ⟨Nat.le_of_ble_eq_true rfl, Nat.le_of_ble_eq_true rfl⟩) (zc_preV hbase hK hN hQ hG hS how9.1 rfl) rfl rfl hl.1 rfl (lv_room (Nat.le_of_ble_eq_true rfl)) d_An_follow_193 ⟨(by dsimp only; omega), (by dsimp only; omega)⟩) hS (fun r193 G193 H locs hp193 hG hS => ?_)
                              rcases hp193 with ⟨⟨j5, hj5, ht5, hj53, er193⟩ | ⟨hj5n, er193⟩, eg193⟩
                              · have hG : zP E G128 H := eg193 ▸ hG
                                refine zr_some (a := sA (oS (oe os oi) j5)) er193 ?_
                                have hsr5 := how9.2.2.2.2 _ (oS_mem hj5)
                                have hvr := vrw_s (x := ls8) hGZ.1 hoi hj5
                                rw [ht5, ho2] at hvr
                                have hd0 := (hGZ.1.2 oi hoi).2.2 j5 hj5
                                obtain ⟨lsd, ed1, ed2, ed3⟩ := hdw _ (oe_mem hoi) _ (oS_mem hj5) _ (sE_mem hd0) (by rw [ht5]; exact Or.inr (Or.inl rfl))
                                rw [ht5] at ed2
                                have etg : vtg 5 (sE (oS (oe os oi) j5) 0).2.1 = lsd := vnm_y ed2 ed3
                                obtain ⟨r5, hV5⟩ : ∃ r5, zV os (vfd (zV os) ls8) 5 = (sU (oS (oe os oi) j5), (sE (oS (oe os oi) j5) 0).2.1) :: r5 := by
                                  rw [hfd, ← ho2, ← ht5, zV_s hGZ.1 hoi hj5]
                                  cases hz : sX (oS (oe os oi) j5) with
                                  | nil => rw [hz] at hd0; exact absurd hd0 (Nat.lt_irrefl _)
                                  | cons y ys => exact ⟨ys.map (fun d => (sU (oS (oe os oi) j5), d.2.1)), by rw [List.map_cons]; unfold sE; rw [hz]; rfl⟩
                                have hnx := vfo_next (V := (zV os)) (top := top) (sec := (zscu se)) (t := ty) (n := m9) (W := zWt t18 t28 t38) hx8 hvn (Or.inr hvD) c173 c183 hV5
                                dsimp only at hnx
                                rw [hrem, etg, hfd] at hnx
                                have hvl : (vrw (zV os) ls8 ([42] :: ls8.drop (ls8.length - dp9)) 5).length = (sX (oS (oe os oi) j5)).length := by rw [hvr, List.length_map]
                                have hleT : zLe (zif (vth (zV os) ls8) (w1 (zWt t18 t28 t38) (vrw (zV os) ls8 ([42] :: ls8.drop (ls8.length - dp9)) 5)) (vpr (zV os) top (zscu se) (w1 (zWt t18 t28 t38) (vrw (zV os) ls8 ([42] :: ls8.drop (ls8.length - dp9)) 5)) (vov (zV os) top ls8))) (vfo (zV os) top (zscu se) ty 9 (zWt t1 t2 t3) ls1).2 := by rw [hnx]; exact vfo_le _ _ _
                                have hpaT := zPh_le (os := os) (k := k) hleT
                                have hpdT := zPc_le hleT
                                have hleU : zLe (w1 (zWt t18 t28 t38) (vrw (zV os) ls8 ([42] :: ls8.drop (ls8.length - dp9)) 5)) (zif (vth (zV os) ls8) (w1 (zWt t18 t28 t38) (vrw (zV os) ls8 ([42] :: ls8.drop (ls8.length - dp9)) 5)) (vpr (zV os) top (zscu se) (w1 (zWt t18 t28 t38) (vrw (zV os) ls8 ([42] :: ls8.drop (ls8.length - dp9)) 5)) (vov (zV os) top ls8))) := zif_le (zLe.rf _) (vpr_le (zV os) top (zscu se) _ _)
                                have hpaU := zPh_le (os := os) (k := k) hleU
                                have hpdU := zPc_le hleU
                                have hph := zPh_1 (os := os) (k := k) (W := zWt t18 t28 t38) hvl
                                have hpc := zPc_1 (W := zWt t18 t28 t38) hvl
                                rw [hl8.1] at hph
                                have hlB : t18.length + (sX (oS (oe os oi) j5)).length < 2000 := by have q := (hB9.le (hleU.tr hleT)).1; unfold w1 at q; dsimp only at q; rw [List.length_append, hl8.1, hvl] at q; exact q
                                obtain ⟨kt5, cap5, ff5, hl51, hd51, h051, hc51, hz51, hf51⟩ := hsr5.2.2.1.1.un2 (by rw [List.length_map]; exact hd0)
                                rw [List.length_map] at hl51 hc51
                                refine lv_astore (lv' := [(9, .ref (sA (oS (oe os oi) j5))), (8, .ref (oA (oe os oi))), (7, .ref qs), (6, .int 0), (5, .int (nI dp9)), (4, .ref (oA (oe os ci))), (0, .ref (k 0)), (2, .ref a8), (3, .int (nI n8))]) hx hb d_An_follow_196 hl (by decide) rfl (fun ls hl => ?_)
                                refine lv_aload hx hb d_An_follow_198 (lv_at hl 0 rfl) ?_
                                refine lv_ifnonnull (tgt := 214) hx hb d_An_follow_200 (by decide) ?_
                                refine lv_aload_n hx hb d_An_follow_214 rfl (lv_at hl 6 rfl) ?_
                                refine zg_get (ci := 1) (C := "ZoneAnswers$Answer") (T := T_An) (N := 6) hx hb hts zi_An hown hK hG ha1S rfl 1 (by decide) (hts _ w_685) (fun _ h9 => h9) rfl d_An_follow_215 ?_
                                refine lv_aload_n hx hb d_An_follow_218 rfl (lv_at hl 7 rfl) ?_
                                refine lv_aload hx hb d_An_follow_219 (lv_at hl 0 rfl) ?_
                                refine lv_aload hx hb d_An_follow_221 (lv_at hl 0 rfl) ?_
                                refine zg_get (ci := 5) (C := "ZoneAnswers$Rrset") (T := T_Rr) (N := 3) hx hb hts zi_Rr hown hK hG hsr5.1 rfl 1 (by decide) (hts _ w_623) (fun _ h9 => h9) rfl d_An_follow_223 ?_
                                have hiA := hoi
                                have hsA := hj5
                                have hsrA := (hz3S.2 _ (oe_mem hiA)).2.2.2.2 _ (oS_mem hsA)
                                have hadA := t_Se_addSet l E G128 (k 2) (k 5) d18 1 (k 8) roS t18 hs1S a8 ls8 hNS (oA (oe os oi)) (oS (oe os oi) j5) hsrA (sU (oS (oe os oi) j5)) hlB
                                have hGo226 := hG
                                refine zk_v (va_runV (As := [.ref a8, .ref (sA (oS (oe os oi) j5)), .int (sU (oS (oe os oi) j5))]) (rest := []) ⟨hx, hb, hml, hown, hts⟩ (hadA) (zcV 3 hts w_1033 w_1034 w_1035 w_29 w_1036 (by decide +kernel) ⟨Nat.le_of_ble_eq_true rfl, Nat.le_of_ble_eq_true rfl⟩) (zc_preV hbase hK hN hQ hG hS hs1S.1.1 rfl) rfl rfl hl.1 rfl (lv_room (Nat.le_of_ble_eq_true rfl)) d_An_follow_226 ⟨(by dsimp only; omega), (by dsimp only; omega)⟩) hS (fun G226 H locs hp226 hG hS => ?_)
                                obtain ⟨ro_226, dd_226, ts_226, hES_226, hf0_226, hR0_226⟩ := hp226
                                have hE_226q : G226 (E.2.2.2 0) = none := hQ.out hG
                                have hC_226 := hCS.s1 (hQ.out hGo226) hE_226q hf0_226 hES_226 (zdt_of hR0_226 (hdw _ (oe_mem hiA) _ (oS_mem hsA)))
                                have hf_226 : zfr roS zKa G128 ro_226 G226 := (zfr.rf (r := roS) (G := G128)).tr (hf0_226.w zKs_a)
                                have hR_226 := tV_of hR0_226
                                have hW_226 : zWt (t18 ++ ts_226) t28 t38 = w1 (zWt t18 t28 t38) (vrw (zV os) ls8 ([42] :: ls8.drop (ls8.length - dp9)) 5) := by rw [zWt_1, hR_226]; rw [hvr, ht5]
                                have hE_226 : G226 (E.2.2.2 0) = none := hQ.out hG
                                obtain ⟨⟨hz1_226, hz2_226, hz3_226, hz4_226, hz5_226, soa_226, u9_226, hz6_226, hz7_226, hz8_226, hz9_226, hzA_226⟩, ⟨ha1_226, ha2_226, hs1_226, hs2_226, hs3_226⟩, hT1_226⟩ := id hC_226
                                obtain ⟨bo_226, fo_226, hno1_226, hno2_226, hno3_226, hno4_226, hno5_226, -⟩ := id hz4_226
                                have hN_a8_226 : zNR E G226 ro_226 a8 ls8 := hNS.fr hf_226 zKa_0
                                obtain ⟨b_a8_226, f_a8_226, hq1_a8_226, hq2_a8_226, hq3_a8_226, hq4_a8_226, hq5_a8_226, -⟩ := id hN_a8_226
                                have hN_qs_226 : zNR E G226 ro_226 qs ([42] :: ls8.drop (ls8.length - dp9)) := hNq.fr hf_226 zKa_0
                                obtain ⟨b_qs_226, f_qs_226, hq1_qs_226, hq2_qs_226, hq3_qs_226, hq4_qs_226, hq5_qs_226, -⟩ := id hN_qs_226
                                have hl_226 := zWt_l (t18 ++ ts_226) t28 t38
                                refine lv_iload hx hb d_An_follow_229 (lv_at hl 3 rfl) ?_
                                refine lv_if_ne (tgt := 246) hx hb d_An_follow_231 (by decide) (fun c231 => ?_) (fun c231 => ?_)
                                · have b231 : ¬ 0 = 0 := fun q => c231 ((nI_eq (a := 0) (b := 0) (by omega) (by omega)).mpr q)
                                  exact absurd rfl b231
                                · have b231 : 0 = 0 := (nI_eq (a := 0) (b := 0) (by omega) (by omega)).mp c231
                                  refine lv_aload_n hx hb d_An_follow_234 rfl (lv_at hl 6 rfl) ?_
                                  refine lv_aload_n hx hb d_An_follow_235 rfl (lv_at hl 6 rfl) ?_
                                  refine zg_get (ci := 1) (C := "ZoneAnswers$Answer") (T := T_An) (N := 6) hx hb hts zi_An hown hK hG ha1_226 rfl 0 (by decide) (hts _ w_684) (fun _ h9 => h9) rfl d_An_follow_236 ?_
                                  refine lv_aload_n hx hb d_An_follow_239 rfl (lv_at hl 7 rfl) ?_
                                  have hGo240 := hG
                                  refine zk_i (va_runV (As := [.ref a8]) (rest := [.ref (k 0)]) ⟨hx, hb, hml, hown, hts⟩ (t_Zo_linkOver l E G226 (k 1) (k 11) (k 12) (k 13) (k 14) rc hz1_226 ro_226 (k 15) os hz3_226 hne hol hso a8 b_a8_226 ls8 f_a8_226 hq1_a8_226 hq2_a8_226 hq3_a8_226 hq4_a8_226 hq5_a8_226 (by rw [hGZ.2.2.2.1]; exact hGZ.lx hx8 hth)) (zcV 1 hts w_1169 w_1170 w_1171 w_3 w_1172 (by decide +kernel) ⟨Nat.le_of_ble_eq_true rfl, Nat.le_of_ble_eq_true rfl⟩) (zc_preV hbase hK hN hQ hG hS hz1_226 rfl) rfl rfl hl.1 rfl (lv_room (Nat.le_of_ble_eq_true rfl)) d_An_follow_240 ⟨(by dsimp only; omega), (by dsimp only; omega)⟩) hS (fun r240 G240 H locs hp240 hG hS => ?_)
                                  obtain ⟨⟨kp240, kp0240, kp1240, kp2240, kp3240, j240, hj1240, hj2240, hj3240, ej240⟩, eg240⟩ := hp240
                                  have hG : zP E G226 H := eg240 ▸ hG
                                  have hov240 : vov (zV os) top ls8 = oM (oe os j240) := hGZ.ov ⟨kp1240, kp2240, kp3240⟩ (by omega) hj2240 (fun i h1 h2 => hj3240 i h1 (by omega))
                                  have hjl240 : j240 < os.length := by omega
                                  refine zi_as (y := nI j240) ej240 ?_
                                  have hzfn := zif_n (a := w1 (zWt t18 t28 t38) (vrw (zV os) ls8 ([42] :: ls8.drop (ls8.length - dp9)) 5)) (b := vpr (zV os) top (zscu se) (w1 (zWt t18 t28 t38) (vrw (zV os) ls8 ([42] :: ls8.drop (ls8.length - dp9)) 5)) (vov (zV os) top ls8)) hth
                                  rw [hzfn] at hpaT hpdT hpaU hpdU
                                  have hq243 := t_An_prove l E G226 k ro_226 rc ty se os top dd_226 d28 d38 (t18 ++ ts_226) t28 t38 hC_226 hGZ hdw hzn j240 hjl240 (by rw [hW_226]; exact by rw [← hov240]; exact (by have q := hB9.le hleT; rw [zif_n hth] at q; exact q))
                                  rw [hW_226] at hq243
                                  rw [← hov240] at hq243
                                  have hGo243 := hG
                                  refine zk_v (va_runV (As := [.int (nI j240)]) (rest := []) ⟨hx, hb, hml, hown, hts⟩ (hq243) (zcV 1 hts w_1077 w_1079 wp_17 w_28 w_1080 (by decide +kernel) ⟨Nat.le_of_ble_eq_true rfl, Nat.le_of_ble_eq_true rfl⟩) (zc_preV hbase hK hN hQ hG hS ha1_226 rfl) rfl rfl hl.1 rfl (lv_room (Nat.le_of_ble_eq_true rfl)) d_An_follow_243 ⟨(by dsimp only; omega), (by dsimp only; omega)⟩) hS (fun G243 H locs hp243 hG hS => ?_)
                                  obtain ⟨ro_243, d1_243, d2_243, d3_243, t1_243, t2_243, t3_243, hC_243, hf0_243, hW0_243⟩ := hp243
                                  have hf_243 : zfr roS zKa G128 ro_243 G243 := hf_226.tr hf0_243
                                  have hW_243 : zWt t1_243 t2_243 t3_243 = vpr (zV os) top (zscu se) (w1 (zWt t18 t28 t38) (vrw (zV os) ls8 ([42] :: ls8.drop (ls8.length - dp9)) 5)) (vov (zV os) top ls8) := hW0_243
                                  have hE_243 : G243 (E.2.2.2 0) = none := hQ.out hG
                                  obtain ⟨⟨hz1_243, hz2_243, hz3_243, hz4_243, hz5_243, soa_243, u9_243, hz6_243, hz7_243, hz8_243, hz9_243, hzA_243⟩, ⟨ha1_243, ha2_243, hs1_243, hs2_243, hs3_243⟩, hT1_243⟩ := id hC_243
                                  obtain ⟨bo_243, fo_243, hno1_243, hno2_243, hno3_243, hno4_243, hno5_243, -⟩ := id hz4_243
                                  have hN_a8_243 : zNR E G243 ro_243 a8 ls8 := hNS.fr hf_243 zKa_0
                                  obtain ⟨b_a8_243, f_a8_243, hq1_a8_243, hq2_a8_243, hq3_a8_243, hq4_a8_243, hq5_a8_243, -⟩ := id hN_a8_243
                                  have hN_qs_243 : zNR E G243 ro_243 qs ([42] :: ls8.drop (ls8.length - dp9)) := hNq.fr hf_243 zKa_0
                                  obtain ⟨b_qs_243, f_qs_243, hq1_qs_243, hq2_qs_243, hq3_qs_243, hq4_qs_243, hq5_qs_243, -⟩ := id hN_qs_243
                                  have hl_243 := zWt_l t1_243 t2_243 t3_243
                                  refine lv_aload hx hb d_An_follow_246 (lv_at hl 0 rfl) ?_
                                  have hsr6 := (hz3_243.2 _ (oe_mem hoi)).2.2.2.2 _ (oS_mem hj5)
                                  obtain ⟨kt6, cap6, ff6, hl61, hd61, h061, hc61, hz61, hf61⟩ := hsr6.2.2.1.1.un2 (by rw [List.length_map]; exact hd0)
                                  rw [List.length_map] at hl61 hc61
                                  obtain ⟨bd6, yt6, hdc6, hNt6⟩ := (hsr6.2.2.2 _ (sE_mem hd0)).tg ed1
                                  refine zk_q (va_runV (As := []) (rest := []) ⟨hx, hb, hml, hown, hts⟩ (t_Rr_firstTarget l E G243 (sA (oS (oe os oi) j5)) (sL (oS (oe os oi) j5)) (sT (oS (oe os oi) j5)) (sU (oS (oe os oi) j5)) hsr6.1 (sD (oS (oe os oi) j5)) (sX (oS (oe os oi) j5)).length cap6 kt6 ff6 hl61 hd61 hc61 (by omega) (sE (oS (oe os oi) j5) 0).1 bd6 (some yt6) hd0 ((hf61 0).trans (sE_at hd0)) hdc6) (zcV 0 hts w_1179 w_1180 w_1181 w_27 w_1182 (by decide +kernel) ⟨Nat.le_of_ble_eq_true rfl, Nat.le_of_ble_eq_true rfl⟩) (zc_preV hbase hK hN hQ hG hS hsr6.1 rfl) rfl rfl hl.1 rfl (lv_room (Nat.le_of_ble_eq_true rfl)) d_An_follow_248 ⟨(by dsimp only; omega), (by dsimp only; omega)⟩) hS (fun r248 G248 H locs hp248 hG hS => ?_)
                                  have hG : zP E G243 H := hp248.2 ▸ hG
                                  refine zr_some (a := yt6) hp248.1 ?_
                                  refine lv_astore_n (lv' := [(2, .ref yt6), (9, .ref (sA (oS (oe os oi) j5))), (8, .ref (oA (oe os oi))), (7, .ref qs), (6, .int 0), (5, .int (nI dp9)), (4, .ref (oA (oe os ci))), (0, .ref (k 0)), (3, .int (nI n8))]) hx hb d_An_follow_251 rfl hl (by decide) rfl (fun ls hl => ?_)
                                  refine lv_iinc (v := nI (n8 + 1)) (lv' := [(3, .int (nI (n8 + 1))), (2, .ref yt6), (9, .ref (sA (oS (oe os oi) j5))), (8, .ref (oA (oe os oi))), (7, .ref qs), (6, .int 0), (5, .int (nI dp9)), (4, .ref (oA (oe os ci))), (0, .ref (k 0))]) hx hb d_An_follow_252 hl (k := 8) rfl (nI_add n8 1) (by decide) rfl (fun ls hl => ?_)
                                  refine lv_goto (tgt := 20) hx hb d_An_follow_255 (by decide) ?_
                                  have hWx := hW_243
                                  rw [zif_n hth, ← hWx] at hnx
                                  have hNx8 : zNR E G243 ro_243 yt6 lsd := hNt6
                                  have hleN : zLe (zWt t1 t2 t3) (zWt t1_243 t2_243 t3_243) := by rw [hWx]; exact hleW.tr ((zLe.w1 _ _).tr (vpr_le (zV os) top (zscu se) _ _))
                                  refine zW_more (cells2 := zPc (zWt t1_243 t2_243 t3_243) - zPc (zWt t1 t2 t3) + 2 * (n8 + 1)) (slots2 := zPh os k (zWt t1_243 t2_243 t3_243) - zPh os k (zWt t1 t2 t3) + 300 * (n8 + 1)) (by rw [hWx]; dsimp only; omega) (by rw [hWx]; dsimp only; omega) ?_
                                  exact ih G243 (n8 + 1) yt6 lsd ro_243 d1_243 d2_243 d3_243 t1_243 t2_243 t3_243 _ _ (by omega) (by omega) (hC_243) ((htS.tr hf_243)) (hNx8) (hleN) (by rw [show 9 - (n8 + 1) = m9 by omega]; exact hnx.symm) hG hS ls (lv_sub hl [8, 1, 0] rfl)
                              · have hG : zP E G128 H := eg193 ▸ hG
                                refine zr_none er193 ?_
                                have hv5 : zV os (vfd (zV os) ls8) 5 = [] := by rw [hfd, ← ho2]; exact zV_fd hGZ.1 hoi hj5n
                                refine lv_astoreN (lv' := [(9, .null), (8, .ref (oA (oe os oi))), (7, .ref qs), (6, .int 0), (5, .int (nI dp9)), (4, .ref (oA (oe os ci))), (0, .ref (k 0)), (2, .ref a8), (3, .int (nI n8))]) hx hb d_An_follow_196 hl (by decide) rfl (fun ls hl => ?_)
                                refine lv_aloadN hx hb d_An_follow_198 (lv_at hl 0 rfl) ?_
                                refine lv_ifnonnullN hx hb d_An_follow_200 ?_
                                refine lv_aload_n hx hb d_An_follow_203 rfl (lv_at hl 6 rfl) ?_
                                refine lv_aload_n hx hb d_An_follow_204 rfl (lv_at hl 7 rfl) ?_
                                refine lv_aload hx hb d_An_follow_205 (lv_at hl 2 rfl) ?_
                                refine lv_aload hx hb d_An_follow_207 (lv_at hl 1 rfl) ?_
                                have htl := vfo_tell (V := (zV os)) (top := top) (sec := (zscu se)) (t := ty) (n := m9) (W := zWt t18 t28 t38) hx8 hvn (Or.inr hvD) (Or.inr (Or.inr hv5))
                                rw [hrem, hfd] at htl
                                have hlr := vtl_le (zV os) top (zscu se) (zWt t18 t28 t38) ls8 ([42] :: ls8.drop (ls8.length - dp9)) ty
                                have hpar := zPh_le (os := os) (k := k) hlr
                                have hpdr := zPc_le hlr
                                have hphr : zPh os k (vfo (zV os) top (zscu se) ty 9 (zWt t1 t2 t3) ls1).2 = zPh os k (vtl (zV os) top (zscu se) (zWt t18 t28 t38) ls8 ([42] :: ls8.drop (ls8.length - dp9)) ty) := by rw [htl]
                                have hpcr : zPc (vfo (zV os) top (zscu se) ty 9 (zWt t1 t2 t3) ls1).2 = zPc (vtl (zV os) top (zscu se) (zWt t18 t28 t38) ls8 ([42] :: ls8.drop (ls8.length - dp9)) ty) := by rw [htl]
                                have hq209 := t_An_tell l E G128 k roS rc ty se os top d18 d28 d38 t18 t28 t38 hCS hGZ hdw hzn a8 ls8 hNS qs ([42] :: ls8.drop (ls8.length - dp9)) hNq (fun _ => hGZ.lx hx8 hth) oi hoi ho2 (by have q := hB9; rw [htl] at q; exact q)
                                have hGo209 := hG
                                refine zk_v (va_runV (As := [.ref a8, .ref qs, .ref (oA (oe os oi))]) (rest := []) ⟨hx, hb, hml, hown, hts⟩ (hq209) (zcV 3 hts w_1173 w_1175 wp_23 w_28 w_1176 (by decide +kernel) ⟨Nat.le_of_ble_eq_true rfl, Nat.le_of_ble_eq_true rfl⟩) (zc_preV hbase hK hN hQ hG hS ha1S rfl) rfl rfl hl.1 rfl (lv_room (Nat.le_of_ble_eq_true rfl)) d_An_follow_209 ⟨(by dsimp only; omega), (by dsimp only; omega)⟩) hS (fun G209 H locs hp209 hG hS => ?_)
                                obtain ⟨ro_209, d1_209, d2_209, d3_209, t1_209, t2_209, t3_209, hC_209, hf0_209, hW0_209⟩ := hp209
                                have hf_209 : zfr roS zKa G128 ro_209 G209 := (zfr.rf (r := roS) (G := G128)).tr hf0_209
                                have hW_209 : zWt t1_209 t2_209 t3_209 = vtl (zV os) top (zscu se) (zWt t18 t28 t38) ls8 ([42] :: ls8.drop (ls8.length - dp9)) ty := hW0_209
                                have hE_209 : G209 (E.2.2.2 0) = none := hQ.out hG
                                obtain ⟨⟨hz1_209, hz2_209, hz3_209, hz4_209, hz5_209, soa_209, u9_209, hz6_209, hz7_209, hz8_209, hz9_209, hzA_209⟩, ⟨ha1_209, ha2_209, hs1_209, hs2_209, hs3_209⟩, hT1_209⟩ := id hC_209
                                obtain ⟨bo_209, fo_209, hno1_209, hno2_209, hno3_209, hno4_209, hno5_209, -⟩ := id hz4_209
                                have hN_a8_209 : zNR E G209 ro_209 a8 ls8 := hNS.fr hf_209 zKa_0
                                obtain ⟨b_a8_209, f_a8_209, hq1_a8_209, hq2_a8_209, hq3_a8_209, hq4_a8_209, hq5_a8_209, -⟩ := id hN_a8_209
                                have hN_qs_209 : zNR E G209 ro_209 qs ([42] :: ls8.drop (ls8.length - dp9)) := hNq.fr hf_209 zKa_0
                                obtain ⟨b_qs_209, f_qs_209, hq1_qs_209, hq2_qs_209, hq3_qs_209, hq4_qs_209, hq5_qs_209, -⟩ := id hN_qs_209
                                have hl_209 := zWt_l t1_209 t2_209 t3_209
                                refine lv_iconst (v := 0) hx hb d_An_follow_212 (by decide) ?_
                                exact hret _ _ _ _ _ _ _ _ _ hr (rfl) (⟨ro_209, d1_209, d2_209, d3_209, t1_209, t2_209, t3_209, hC_209, (htS.tr hf_209), Or.inr ⟨hxt, (congrArg Prod.fst (htl)).symm, hW_209.trans (congrArg Prod.snd (htl)).symm⟩⟩) hG hS (by dsimp only; omega) (by dsimp only; omega) d_An_follow_213
                            · refine lv_null hx hb d_An_follow_186 ?_
                              refine lv_goto (tgt := 196) hx hb d_An_follow_187 (by decide) ?_
                              refine lv_astoreN (lv' := [(9, .null), (8, .ref (oA (oe os oi))), (7, .ref qs), (6, .int 0), (5, .int (nI dp9)), (4, .ref (oA (oe os ci))), (0, .ref (k 0)), (2, .ref a8), (3, .int (nI n8))]) hx hb d_An_follow_196 hl (by decide) rfl (fun ls hl => ?_)
                              refine lv_aloadN hx hb d_An_follow_198 (lv_at hl 0 rfl) ?_
                              refine lv_ifnonnullN hx hb d_An_follow_200 ?_
                              refine lv_aload_n hx hb d_An_follow_203 rfl (lv_at hl 6 rfl) ?_
                              refine lv_aload_n hx hb d_An_follow_204 rfl (lv_at hl 7 rfl) ?_
                              refine lv_aload hx hb d_An_follow_205 (lv_at hl 2 rfl) ?_
                              refine lv_aload hx hb d_An_follow_207 (lv_at hl 1 rfl) ?_
                              have htl := vfo_tell (V := (zV os)) (top := top) (sec := (zscu se)) (t := ty) (n := m9) (W := zWt t18 t28 t38) hx8 hvn (Or.inr hvD) (Or.inr (Or.inl c183))
                              rw [hrem, hfd] at htl
                              have hlr := vtl_le (zV os) top (zscu se) (zWt t18 t28 t38) ls8 ([42] :: ls8.drop (ls8.length - dp9)) ty
                              have hpar := zPh_le (os := os) (k := k) hlr
                              have hpdr := zPc_le hlr
                              have hphr : zPh os k (vfo (zV os) top (zscu se) ty 9 (zWt t1 t2 t3) ls1).2 = zPh os k (vtl (zV os) top (zscu se) (zWt t18 t28 t38) ls8 ([42] :: ls8.drop (ls8.length - dp9)) ty) := by rw [htl]
                              have hpcr : zPc (vfo (zV os) top (zscu se) ty 9 (zWt t1 t2 t3) ls1).2 = zPc (vtl (zV os) top (zscu se) (zWt t18 t28 t38) ls8 ([42] :: ls8.drop (ls8.length - dp9)) ty) := by rw [htl]
                              have hq209 := t_An_tell l E G128 k roS rc ty se os top d18 d28 d38 t18 t28 t38 hCS hGZ hdw hzn a8 ls8 hNS qs ([42] :: ls8.drop (ls8.length - dp9)) hNq (fun _ => hGZ.lx hx8 hth) oi hoi ho2 (by have q := hB9; rw [htl] at q; exact q)
                              have hGo209 := hG
                              refine zk_v (va_runV (As := [.ref a8, .ref qs, .ref (oA (oe os oi))]) (rest := []) ⟨hx, hb, hml, hown, hts⟩ (hq209) (zcV 3 hts w_1173 w_1175 wp_23 w_28 w_1176 (by decide +kernel) ⟨Nat.le_of_ble_eq_true rfl, Nat.le_of_ble_eq_true rfl⟩) (zc_preV hbase hK hN hQ hG hS ha1S rfl) rfl rfl hl.1 rfl (lv_room (Nat.le_of_ble_eq_true rfl)) d_An_follow_209 ⟨(by dsimp only; omega), (by dsimp only; omega)⟩) hS (fun G209 H locs hp209 hG hS => ?_)
                              obtain ⟨ro_209, d1_209, d2_209, d3_209, t1_209, t2_209, t3_209, hC_209, hf0_209, hW0_209⟩ := hp209
                              have hf_209 : zfr roS zKa G128 ro_209 G209 := (zfr.rf (r := roS) (G := G128)).tr hf0_209
                              have hW_209 : zWt t1_209 t2_209 t3_209 = vtl (zV os) top (zscu se) (zWt t18 t28 t38) ls8 ([42] :: ls8.drop (ls8.length - dp9)) ty := hW0_209
                              have hE_209 : G209 (E.2.2.2 0) = none := hQ.out hG
                              obtain ⟨⟨hz1_209, hz2_209, hz3_209, hz4_209, hz5_209, soa_209, u9_209, hz6_209, hz7_209, hz8_209, hz9_209, hzA_209⟩, ⟨ha1_209, ha2_209, hs1_209, hs2_209, hs3_209⟩, hT1_209⟩ := id hC_209
                              obtain ⟨bo_209, fo_209, hno1_209, hno2_209, hno3_209, hno4_209, hno5_209, -⟩ := id hz4_209
                              have hN_a8_209 : zNR E G209 ro_209 a8 ls8 := hNS.fr hf_209 zKa_0
                              obtain ⟨b_a8_209, f_a8_209, hq1_a8_209, hq2_a8_209, hq3_a8_209, hq4_a8_209, hq5_a8_209, -⟩ := id hN_a8_209
                              have hN_qs_209 : zNR E G209 ro_209 qs ([42] :: ls8.drop (ls8.length - dp9)) := hNq.fr hf_209 zKa_0
                              obtain ⟨b_qs_209, f_qs_209, hq1_qs_209, hq2_qs_209, hq3_qs_209, hq4_qs_209, hq5_qs_209, -⟩ := id hN_qs_209
                              have hl_209 := zWt_l t1_209 t2_209 t3_209
                              refine lv_iconst (v := 0) hx hb d_An_follow_212 (by decide) ?_
                              exact hret _ _ _ _ _ _ _ _ _ hr (rfl) (⟨ro_209, d1_209, d2_209, d3_209, t1_209, t2_209, t3_209, hC_209, (htS.tr hf_209), Or.inr ⟨hxt, (congrArg Prod.fst (htl)).symm, hW_209.trans (congrArg Prod.snd (htl)).symm⟩⟩) hG hS (by dsimp only; omega) (by dsimp only; omega) d_An_follow_213
                      · have hG : zP E G128 H := eg139 ▸ hG
                        refine zr_none er139 ?_
                        have hvD : ¬ vD (zV os) (vfd (zV os) ls8) := fun z => by obtain ⟨i, hi, e9⟩ := vD_ix z; exact hno i hi (by rw [e9, hfd])
                        refine lv_astoreN (lv' := [(8, .null), (7, .ref qs), (6, .int 0), (5, .int (nI dp9)), (4, .ref (oA (oe os ci))), (0, .ref (k 0)), (2, .ref a8), (3, .int (nI n8))]) hx hb d_An_follow_142 hl (by decide) rfl (fun ls hl => ?_)
                        refine lv_iload hx hb d_An_follow_144 (lv_at hl 2 rfl) ?_
                        refine lv_if_ne (tgt := 163) hx hb d_An_follow_146 (by decide) (fun c146 => ?_) (fun c146 => ?_)
                        · have b146 : ¬ 0 = 0 := fun q => c146 ((nI_eq (a := 0) (b := 0) (by omega) (by omega)).mpr q)
                          exact absurd rfl b146
                        · have b146 : 0 = 0 := (nI_eq (a := 0) (b := 0) (by omega) (by omega)).mp c146
                          refine lv_aloadN hx hb d_An_follow_149 (lv_at hl 0 rfl) ?_
                          refine lv_ifnonnullN hx hb d_An_follow_151 ?_
                          refine lv_aload_n hx hb d_An_follow_154 rfl (lv_at hl 5 rfl) ?_
                          refine lv_aload_n hx hb d_An_follow_155 rfl (lv_at hl 6 rfl) ?_
                          refine lv_aload hx hb d_An_follow_156 (lv_at hl 1 rfl) ?_
                          have hdn := vfo_deny (V := (zV os)) (top := top) (sec := (zscu se)) (t := ty) (n := m9) (W := zWt t18 t28 t38) hx8 hvn hth hvD
                          rw [hrem] at hdn
                          have hdn2 := hdn
                          rw [hfd] at hdn2
                          have hlr := vdn_le (zV os) top (zscu se) (zWt t18 t28 t38) ls8 ([42] :: ls8.drop (ls8.length - dp9))
                          have hpar := zPh_le (os := os) (k := k) hlr
                          have hpdr := zPc_le hlr
                          have hphr : zPh os k (vfo (zV os) top (zscu se) ty 9 (zWt t1 t2 t3) ls1).2 = zPh os k (vdn (zV os) top (zscu se) (zWt t18 t28 t38) ls8 ([42] :: ls8.drop (ls8.length - dp9))) := by rw [hdn, hfd]
                          have hpcr : zPc (vfo (zV os) top (zscu se) ty 9 (zWt t1 t2 t3) ls1).2 = zPc (vdn (zV os) top (zscu se) (zWt t18 t28 t38) ls8 ([42] :: ls8.drop (ls8.length - dp9))) := by rw [hdn, hfd]
                          have hq158 := t_An_deny l E G128 k roS rc ty se os top d18 d28 d38 t18 t28 t38 hCS hGZ hdw hzn a8 ls8 hNS qs ([42] :: ls8.drop (ls8.length - dp9)) hNq (hGZ.lx hx8 hth) (hGZ.lf hx8 hdp2).2 (by have q := hB9; rw [hdn, hfd] at q; exact q)
                          have hGo158 := hG
                          refine zk_v (va_runV (As := [.ref a8, .ref qs]) (rest := []) ⟨hx, hb, hml, hown, hts⟩ (hq158) (zcV 2 hts w_1157 w_1159 wp_21 w_28 w_1160 (by decide +kernel) ⟨Nat.le_of_ble_eq_true rfl, Nat.le_of_ble_eq_true rfl⟩) (zc_preV hbase hK hN hQ hG hS ha1S rfl) rfl rfl hl.1 rfl (lv_room (Nat.le_of_ble_eq_true rfl)) d_An_follow_158 ⟨(by dsimp only; omega), (by dsimp only; omega)⟩) hS (fun G158 H locs hp158 hG hS => ?_)
                          obtain ⟨ro_158, d1_158, d2_158, d3_158, t1_158, t2_158, t3_158, hC_158, hf0_158, hW0_158⟩ := hp158
                          have hf_158 : zfr roS zKa G128 ro_158 G158 := (zfr.rf (r := roS) (G := G128)).tr hf0_158
                          have hW_158 : zWt t1_158 t2_158 t3_158 = vdn (zV os) top (zscu se) (zWt t18 t28 t38) ls8 ([42] :: ls8.drop (ls8.length - dp9)) := hW0_158
                          have hE_158 : G158 (E.2.2.2 0) = none := hQ.out hG
                          obtain ⟨⟨hz1_158, hz2_158, hz3_158, hz4_158, hz5_158, soa_158, u9_158, hz6_158, hz7_158, hz8_158, hz9_158, hzA_158⟩, ⟨ha1_158, ha2_158, hs1_158, hs2_158, hs3_158⟩, hT1_158⟩ := id hC_158
                          obtain ⟨bo_158, fo_158, hno1_158, hno2_158, hno3_158, hno4_158, hno5_158, -⟩ := id hz4_158
                          have hN_a8_158 : zNR E G158 ro_158 a8 ls8 := hNS.fr hf_158 zKa_0
                          obtain ⟨b_a8_158, f_a8_158, hq1_a8_158, hq2_a8_158, hq3_a8_158, hq4_a8_158, hq5_a8_158, -⟩ := id hN_a8_158
                          have hN_qs_158 : zNR E G158 ro_158 qs ([42] :: ls8.drop (ls8.length - dp9)) := hNq.fr hf_158 zKa_0
                          obtain ⟨b_qs_158, f_qs_158, hq1_qs_158, hq2_qs_158, hq3_qs_158, hq4_qs_158, hq5_qs_158, -⟩ := id hN_qs_158
                          have hl_158 := zWt_l t1_158 t2_158 t3_158
                          refine lv_iconst (v := 3) hx hb d_An_follow_161 (by decide) ?_
                          exact hret _ _ _ _ _ _ _ _ _ hr (rfl) (⟨ro_158, d1_158, d2_158, d3_158, t1_158, t2_158, t3_158, hC_158, (htS.tr hf_158), Or.inr ⟨hxt, (congrArg Prod.fst (hdn2)).symm, hW_158.trans (congrArg Prod.snd (hdn2)).symm⟩⟩) hG hS (by dsimp only; omega) (by dsimp only; omega) d_An_follow_162
                    · have b118 : ¬ 0 = 0 := fun q => c118 ((nI_eq (a := 0) (b := 0) (by omega) (by omega)).mpr q)
                      exact absurd rfl b118
                  · have b106 : dp9 = ls8.length := (nI_eq (a := dp9) (b := ls8.length) (by omega) (by omega)).mp c106
                    have hth : vth (zV os) ls8 := hdp3.mp b106
                    have hfd : vfd (zV os) ls8 = ls8 := zif_y hth
                    refine lv_iconst (v := 1) hx hb d_An_follow_109 (by decide) ?_
                    refine lv_goto (tgt := 114) hx hb d_An_follow_110 (by decide) ?_
                    refine lv_istore (lv' := [(6, .int 1), (5, .int (nI dp9)), (4, .ref (oA (oe os ci))), (0, .ref (k 0)), (2, .ref a8), (3, .int (nI n8))]) hx hb d_An_follow_114 hl (by decide) rfl (fun ls hl => ?_)
                    refine lv_iload hx hb d_An_follow_116 (lv_at hl 0 rfl) ?_
                    refine lv_if_eq (tgt := 125) hx hb d_An_follow_118 (by decide) (fun c118 => ?_) (fun c118 => ?_)
                    · have b118 : 1 = 0 := (nI_eq (a := 1) (b := 0) (by omega) (by omega)).mp c118
                      exact absurd b118 (by decide)
                    · have b118 : ¬ 1 = 0 := fun q => c118 ((nI_eq (a := 1) (b := 0) (by omega) (by omega)).mpr q)
                      refine lv_aload_n hx hb d_An_follow_121 rfl (lv_at hl 4 rfl) ?_
                      refine lv_goto (tgt := 131) hx hb d_An_follow_122 (by decide) ?_
                      refine lv_astore (lv' := [(7, .ref a8), (6, .int 1), (5, .int (nI dp9)), (4, .ref (oA (oe os ci))), (0, .ref (k 0)), (2, .ref a8), (3, .int (nI n8))]) hx hb d_An_follow_131 hl (by decide) rfl (fun ls hl => ?_)
                      refine lv_aload_n hx hb d_An_follow_133 rfl (lv_at hl 4 rfl) ?_
                      refine zg_get (ci := 1) (C := "ZoneAnswers$Answer") (T := T_An) (N := 6) hx hb hts zi_An hown hK hG ha18 rfl 0 (by decide) (hts _ w_684) (fun _ h9 => h9) rfl d_An_follow_134 ?_
                      refine lv_aload hx hb d_An_follow_137 (lv_at hl 0 rfl) ?_
                      have hGo139 := hG
                      refine zk_q (va_runV (As := [.ref a8]) (rest := []) ⟨hx, hb, hml, hown, hts⟩ (t_Zo_at_t l hz18 hz38 hne hso hq1_a88 hq2_a88 hq3_a88 hq4_a88 hq5_a88) (zcV 1 hts w_1137 w_880 w_881 w_3 w_882 (by decide +kernel) ⟨Nat.le_of_ble_eq_true rfl, Nat.le_of_ble_eq_true rfl⟩) (zc_preV hbase hK hN hQ hG hS hz18 rfl) rfl rfl hl.1 rfl (lv_room (Nat.le_of_ble_eq_true rfl)) d_An_follow_139 ⟨(by dsimp only; omega), (by dsimp only; omega)⟩) hS (fun r139 G139 H locs hp139 hG hS => ?_)
                      rcases hp139 with ⟨⟨oi, hoi, ho2, er139⟩ | ⟨hno, er139⟩, eg139⟩
                      · have hG : zP E Gv H := eg139 ▸ hG
                        refine zr_some (a := oA (oe os oi)) er139 ?_
                        have how9 := hz38.2 _ (oe_mem hoi)
                        have hvD : vD (zV os) (vfd (zV os) ls8) := by rw [hfd, ← ho2]; exact vD_of hGZ.1 hoi
                        refine lv_astore (lv' := [(8, .ref (oA (oe os oi))), (7, .ref a8), (6, .int 1), (5, .int (nI dp9)), (4, .ref (oA (oe os ci))), (0, .ref (k 0)), (2, .ref a8), (3, .int (nI n8))]) hx hb d_An_follow_142 hl (by decide) rfl (fun ls hl => ?_)
                        refine lv_iload hx hb d_An_follow_144 (lv_at hl 2 rfl) ?_
                        refine lv_if_ne (tgt := 163) hx hb d_An_follow_146 (by decide) (fun c146 => ?_) (fun c146 => ?_)
                        · have b146 : ¬ 1 = 0 := fun q => c146 ((nI_eq (a := 1) (b := 0) (by omega) (by omega)).mpr q)
                          refine lv_aload hx hb d_An_follow_163 (lv_at hl 0 rfl) ?_
                          refine lv_ifnull hx hb d_An_follow_165 ?_
                          refine lv_aload_n hx hb d_An_follow_168 rfl (lv_at hl 5 rfl) ?_
                          refine zg_get (ci := 1) (C := "ZoneAnswers$Answer") (T := T_An) (N := 6) hx hb hts zi_An hown hK hG ha18 rfl 4 (by decide) (hts _ w_688) (fun _ h9 => h9) rfl d_An_follow_169 ?_
                          refine lv_iconst (v := 5) hx hb d_An_follow_172 (by decide) ?_
                          refine lv_icmp_eq (tgt := 186) hx hb d_An_follow_173 (by decide) (fun c173 => ?_) (fun c173 => ?_)
                          · refine lv_null hx hb d_An_follow_186 ?_
                            refine lv_goto (tgt := 196) hx hb d_An_follow_187 (by decide) ?_
                            refine lv_astoreN (lv' := [(9, .null), (8, .ref (oA (oe os oi))), (7, .ref a8), (6, .int 1), (5, .int (nI dp9)), (4, .ref (oA (oe os ci))), (0, .ref (k 0)), (2, .ref a8), (3, .int (nI n8))]) hx hb d_An_follow_196 hl (by decide) rfl (fun ls hl => ?_)
                            refine lv_aloadN hx hb d_An_follow_198 (lv_at hl 0 rfl) ?_
                            refine lv_ifnonnullN hx hb d_An_follow_200 ?_
                            refine lv_aload_n hx hb d_An_follow_203 rfl (lv_at hl 6 rfl) ?_
                            refine lv_aload_n hx hb d_An_follow_204 rfl (lv_at hl 7 rfl) ?_
                            refine lv_aload hx hb d_An_follow_205 (lv_at hl 2 rfl) ?_
                            refine lv_aload hx hb d_An_follow_207 (lv_at hl 1 rfl) ?_
                            have htl := vfo_tell (V := (zV os)) (top := top) (sec := (zscu se)) (t := ty) (n := m9) (W := zWt t18 t28 t38) hx8 hvn (Or.inr hvD) (Or.inl c173)
                            rw [hrem, hfd] at htl
                            have hlr := vtl_le (zV os) top (zscu se) (zWt t18 t28 t38) ls8 ls8 ty
                            have hpar := zPh_le (os := os) (k := k) hlr
                            have hpdr := zPc_le hlr
                            have hphr : zPh os k (vfo (zV os) top (zscu se) ty 9 (zWt t1 t2 t3) ls1).2 = zPh os k (vtl (zV os) top (zscu se) (zWt t18 t28 t38) ls8 ls8 ty) := by rw [htl]
                            have hpcr : zPc (vfo (zV os) top (zscu se) ty 9 (zWt t1 t2 t3) ls1).2 = zPc (vtl (zV os) top (zscu se) (zWt t18 t28 t38) ls8 ls8 ty) := by rw [htl]
                            have hq209 := t_An_tell l E Gv k ro8 rc ty se os top d18 d28 d38 t18 t28 t38 hC8 hGZ hdw hzn a8 ls8 hN8 a8 ls8 hN8 (fun z => absurd rfl z) oi hoi ho2 (by have q := hB9; rw [htl] at q; exact q)
                            have hGo209 := hG
                            refine zk_v (va_runV (As := [.ref a8, .ref a8, .ref (oA (oe os oi))]) (rest := []) ⟨hx, hb, hml, hown, hts⟩ (hq209) (zcV 3 hts w_1173 w_1175 wp_23 w_28 w_1176 (by decide +kernel) ⟨Nat.le_of_ble_eq_true rfl, Nat.le_of_ble_eq_true rfl⟩) (zc_preV hbase hK hN hQ hG hS ha18 rfl) rfl rfl hl.1 rfl (lv_room (Nat.le_of_ble_eq_true rfl)) d_An_follow_209 ⟨(by dsimp only; omega), (by dsimp only; omega)⟩) hS (fun G209 H locs hp209 hG hS => ?_)
                            obtain ⟨ro_209, d1_209, d2_209, d3_209, t1_209, t2_209, t3_209, hC_209, hf0_209, hW0_209⟩ := hp209
                            have hf_209 : zfr ro8 zKa Gv ro_209 G209 := (zfr.rf (r := ro8) (G := Gv)).tr hf0_209
                            have hW_209 : zWt t1_209 t2_209 t3_209 = vtl (zV os) top (zscu se) (zWt t18 t28 t38) ls8 ls8 ty := hW0_209
                            have hE_209 : G209 (E.2.2.2 0) = none := hQ.out hG
                            obtain ⟨⟨hz1_209, hz2_209, hz3_209, hz4_209, hz5_209, soa_209, u9_209, hz6_209, hz7_209, hz8_209, hz9_209, hzA_209⟩, ⟨ha1_209, ha2_209, hs1_209, hs2_209, hs3_209⟩, hT1_209⟩ := id hC_209
                            obtain ⟨bo_209, fo_209, hno1_209, hno2_209, hno3_209, hno4_209, hno5_209, -⟩ := id hz4_209
                            have hN_a8_209 : zNR E G209 ro_209 a8 ls8 := hN8.fr hf_209 zKa_0
                            obtain ⟨b_a8_209, f_a8_209, hq1_a8_209, hq2_a8_209, hq3_a8_209, hq4_a8_209, hq5_a8_209, -⟩ := id hN_a8_209
                            have hl_209 := zWt_l t1_209 t2_209 t3_209
                            refine lv_iconst (v := 0) hx hb d_An_follow_212 (by decide) ?_
                            exact hret _ _ _ _ _ _ _ _ _ hr (rfl) (⟨ro_209, d1_209, d2_209, d3_209, t1_209, t2_209, t3_209, hC_209, (hf8.tr hf_209), Or.inr ⟨hxt, (congrArg Prod.fst (htl)).symm, hW_209.trans (congrArg Prod.snd (htl)).symm⟩⟩) hG hS (by dsimp only; omega) (by dsimp only; omega) d_An_follow_213
                          · refine lv_aload_n hx hb d_An_follow_176 rfl (lv_at hl 5 rfl) ?_
                            refine zg_get (ci := 1) (C := "ZoneAnswers$Answer") (T := T_An) (N := 6) hx hb hts zi_An hown hK hG ha18 rfl 4 (by decide) (hts _ w_688) (fun _ h9 => h9) rfl d_An_follow_177 ?_
                            refine lv_sipush (v := 255) hx hb d_An_follow_180 (by decide) ?_
                            refine lv_icmp_ne (tgt := 190) hx hb d_An_follow_183 (by decide) (fun c183 => ?_) (fun c183 => ?_)
                            · refine lv_aload hx hb d_An_follow_190 (lv_at hl 0 rfl) ?_
                              refine lv_iconst (v := 5) hx hb d_An_follow_192 (by decide) ?_
                              have hGo193 := hG
                              refine zk_q (va_runV (As := [.int 5]) (rest := []) ⟨hx, hb, hml, hown, hts⟩ (t_Ow_find_t l how9 (hGZ.1.2 oi hoi).2.1 5) (zcV 1 hts w_1032 w_654 w_655 w_12 w_656 (by decide +kernel) ⟨Nat.le_of_ble_eq_true rfl, Nat.le_of_ble_eq_true rfl⟩) (zc_preV hbase hK hN hQ hG hS how9.1 rfl) rfl rfl hl.1 rfl (lv_room (Nat.le_of_ble_eq_true rfl)) d_An_follow_193 ⟨(by dsimp only; omega), (by dsimp only; omega)⟩) hS (fun r193 G193 H locs hp193 hG hS => ?_)
                              rcases hp193 with ⟨⟨j5, hj5, ht5, hj53, er193⟩ | ⟨hj5n, er193⟩, eg193⟩
                              · have hG : zP E Gv H := eg193 ▸ hG
                                refine zr_some (a := sA (oS (oe os oi) j5)) er193 ?_
                                have hsr5 := how9.2.2.2.2 _ (oS_mem hj5)
                                have hvr := vrw_s (x := ls8) hGZ.1 hoi hj5
                                rw [ht5, ho2] at hvr
                                have hd0 := (hGZ.1.2 oi hoi).2.2 j5 hj5
                                obtain ⟨lsd, ed1, ed2, ed3⟩ := hdw _ (oe_mem hoi) _ (oS_mem hj5) _ (sE_mem hd0) (by rw [ht5]; exact Or.inr (Or.inl rfl))
                                rw [ht5] at ed2
                                have etg : vtg 5 (sE (oS (oe os oi) j5) 0).2.1 = lsd := vnm_y ed2 ed3
                                obtain ⟨r5, hV5⟩ : ∃ r5, zV os (vfd (zV os) ls8) 5 = (sU (oS (oe os oi) j5), (sE (oS (oe os oi) j5) 0).2.1) :: r5 := by
                                  rw [hfd, ← ho2, ← ht5, zV_s hGZ.1 hoi hj5]
                                  cases hz : sX (oS (oe os oi) j5) with
                                  | nil => rw [hz] at hd0; exact absurd hd0 (Nat.lt_irrefl _)
                                  | cons y ys => exact ⟨ys.map (fun d => (sU (oS (oe os oi) j5), d.2.1)), by rw [List.map_cons]; unfold sE; rw [hz]; rfl⟩
                                have hnx := vfo_next (V := (zV os)) (top := top) (sec := (zscu se)) (t := ty) (n := m9) (W := zWt t18 t28 t38) hx8 hvn (Or.inr hvD) c173 c183 hV5
                                dsimp only at hnx
                                rw [hrem, etg, hfd] at hnx
                                have hvl : (vrw (zV os) ls8 ls8 5).length = (sX (oS (oe os oi) j5)).length := by rw [hvr, List.length_map]
                                have hleT : zLe (zif (vth (zV os) ls8) (w1 (zWt t18 t28 t38) (vrw (zV os) ls8 ls8 5)) (vpr (zV os) top (zscu se) (w1 (zWt t18 t28 t38) (vrw (zV os) ls8 ls8 5)) (vov (zV os) top ls8))) (vfo (zV os) top (zscu se) ty 9 (zWt t1 t2 t3) ls1).2 := by rw [hnx]; exact vfo_le _ _ _
                                have hpaT := zPh_le (os := os) (k := k) hleT
                                have hpdT := zPc_le hleT
                                have hleU : zLe (w1 (zWt t18 t28 t38) (vrw (zV os) ls8 ls8 5)) (zif (vth (zV os) ls8) (w1 (zWt t18 t28 t38) (vrw (zV os) ls8 ls8 5)) (vpr (zV os) top (zscu se) (w1 (zWt t18 t28 t38) (vrw (zV os) ls8 ls8 5)) (vov (zV os) top ls8))) := zif_le (zLe.rf _) (vpr_le (zV os) top (zscu se) _ _)
                                have hpaU := zPh_le (os := os) (k := k) hleU
                                have hpdU := zPc_le hleU
                                have hph := zPh_1 (os := os) (k := k) (W := zWt t18 t28 t38) hvl
                                have hpc := zPc_1 (W := zWt t18 t28 t38) hvl
                                rw [hl8.1] at hph
                                have hlB : t18.length + (sX (oS (oe os oi) j5)).length < 2000 := by have q := (hB9.le (hleU.tr hleT)).1; unfold w1 at q; dsimp only at q; rw [List.length_append, hl8.1, hvl] at q; exact q
                                obtain ⟨kt5, cap5, ff5, hl51, hd51, h051, hc51, hz51, hf51⟩ := hsr5.2.2.1.1.un2 (by rw [List.length_map]; exact hd0)
                                rw [List.length_map] at hl51 hc51
                                refine lv_astore (lv' := [(9, .ref (sA (oS (oe os oi) j5))), (8, .ref (oA (oe os oi))), (7, .ref a8), (6, .int 1), (5, .int (nI dp9)), (4, .ref (oA (oe os ci))), (0, .ref (k 0)), (2, .ref a8), (3, .int (nI n8))]) hx hb d_An_follow_196 hl (by decide) rfl (fun ls hl => ?_)
                                refine lv_aload hx hb d_An_follow_198 (lv_at hl 0 rfl) ?_
                                refine lv_ifnonnull (tgt := 214) hx hb d_An_follow_200 (by decide) ?_
                                refine lv_aload_n hx hb d_An_follow_214 rfl (lv_at hl 6 rfl) ?_
                                refine zg_get (ci := 1) (C := "ZoneAnswers$Answer") (T := T_An) (N := 6) hx hb hts zi_An hown hK hG ha18 rfl 1 (by decide) (hts _ w_685) (fun _ h9 => h9) rfl d_An_follow_215 ?_
                                refine lv_aload_n hx hb d_An_follow_218 rfl (lv_at hl 7 rfl) ?_
                                refine lv_aload hx hb d_An_follow_219 (lv_at hl 0 rfl) ?_
                                refine lv_aload hx hb d_An_follow_221 (lv_at hl 0 rfl) ?_
                                refine zg_get (ci := 5) (C := "ZoneAnswers$Rrset") (T := T_Rr) (N := 3) hx hb hts zi_Rr hown hK hG hsr5.1 rfl 1 (by decide) (hts _ w_623) (fun _ h9 => h9) rfl d_An_follow_223 ?_
                                have hiA := hoi
                                have hsA := hj5
                                have hsrA := (hz38.2 _ (oe_mem hiA)).2.2.2.2 _ (oS_mem hsA)
                                have hadA := t_Se_addSet l E Gv (k 2) (k 5) d18 1 (k 8) ro8 t18 hs18 a8 ls8 hN8 (oA (oe os oi)) (oS (oe os oi) j5) hsrA (sU (oS (oe os oi) j5)) hlB
                                have hGo226 := hG
                                refine zk_v (va_runV (As := [.ref a8, .ref (sA (oS (oe os oi) j5)), .int (sU (oS (oe os oi) j5))]) (rest := []) ⟨hx, hb, hml, hown, hts⟩ (hadA) (zcV 3 hts w_1033 w_1034 w_1035 w_29 w_1036 (by decide +kernel) ⟨Nat.le_of_ble_eq_true rfl, Nat.le_of_ble_eq_true rfl⟩) (zc_preV hbase hK hN hQ hG hS hs18.1.1 rfl) rfl rfl hl.1 rfl (lv_room (Nat.le_of_ble_eq_true rfl)) d_An_follow_226 ⟨(by dsimp only; omega), (by dsimp only; omega)⟩) hS (fun G226 H locs hp226 hG hS => ?_)
                                obtain ⟨ro_226, dd_226, ts_226, hES_226, hf0_226, hR0_226⟩ := hp226
                                have hE_226q : G226 (E.2.2.2 0) = none := hQ.out hG
                                have hC_226 := hC8.s1 (hQ.out hGo226) hE_226q hf0_226 hES_226 (zdt_of hR0_226 (hdw _ (oe_mem hiA) _ (oS_mem hsA)))
                                have hf_226 : zfr ro8 zKa Gv ro_226 G226 := (zfr.rf (r := ro8) (G := Gv)).tr (hf0_226.w zKs_a)
                                have hR_226 := tV_of hR0_226
                                have hW_226 : zWt (t18 ++ ts_226) t28 t38 = w1 (zWt t18 t28 t38) (vrw (zV os) ls8 ls8 5) := by rw [zWt_1, hR_226]; rw [hvr, ht5]
                                have hE_226 : G226 (E.2.2.2 0) = none := hQ.out hG
                                obtain ⟨⟨hz1_226, hz2_226, hz3_226, hz4_226, hz5_226, soa_226, u9_226, hz6_226, hz7_226, hz8_226, hz9_226, hzA_226⟩, ⟨ha1_226, ha2_226, hs1_226, hs2_226, hs3_226⟩, hT1_226⟩ := id hC_226
                                obtain ⟨bo_226, fo_226, hno1_226, hno2_226, hno3_226, hno4_226, hno5_226, -⟩ := id hz4_226
                                have hN_a8_226 : zNR E G226 ro_226 a8 ls8 := hN8.fr hf_226 zKa_0
                                obtain ⟨b_a8_226, f_a8_226, hq1_a8_226, hq2_a8_226, hq3_a8_226, hq4_a8_226, hq5_a8_226, -⟩ := id hN_a8_226
                                have hl_226 := zWt_l (t18 ++ ts_226) t28 t38
                                refine lv_iload hx hb d_An_follow_229 (lv_at hl 3 rfl) ?_
                                refine lv_if_ne (tgt := 246) hx hb d_An_follow_231 (by decide) (fun c231 => ?_) (fun c231 => ?_)
                                · have b231 : ¬ 1 = 0 := fun q => c231 ((nI_eq (a := 1) (b := 0) (by omega) (by omega)).mpr q)
                                  refine lv_aload hx hb d_An_follow_246 (lv_at hl 0 rfl) ?_
                                  have hsr6 := (hz3_226.2 _ (oe_mem hoi)).2.2.2.2 _ (oS_mem hj5)
                                  obtain ⟨kt6, cap6, ff6, hl61, hd61, h061, hc61, hz61, hf61⟩ := hsr6.2.2.1.1.un2 (by rw [List.length_map]; exact hd0)
                                  rw [List.length_map] at hl61 hc61
                                  obtain ⟨bd6, yt6, hdc6, hNt6⟩ := (hsr6.2.2.2 _ (sE_mem hd0)).tg ed1
                                  refine zk_q (va_runV (As := []) (rest := []) ⟨hx, hb, hml, hown, hts⟩ (t_Rr_firstTarget l E G226 (sA (oS (oe os oi) j5)) (sL (oS (oe os oi) j5)) (sT (oS (oe os oi) j5)) (sU (oS (oe os oi) j5)) hsr6.1 (sD (oS (oe os oi) j5)) (sX (oS (oe os oi) j5)).length cap6 kt6 ff6 hl61 hd61 hc61 (by omega) (sE (oS (oe os oi) j5) 0).1 bd6 (some yt6) hd0 ((hf61 0).trans (sE_at hd0)) hdc6) (zcV 0 hts w_1179 w_1180 w_1181 w_27 w_1182 (by decide +kernel) ⟨Nat.le_of_ble_eq_true rfl, Nat.le_of_ble_eq_true rfl⟩) (zc_preV hbase hK hN hQ hG hS hsr6.1 rfl) rfl rfl hl.1 rfl (lv_room (Nat.le_of_ble_eq_true rfl)) d_An_follow_248 ⟨(by dsimp only; omega), (by dsimp only; omega)⟩) hS (fun r248 G248 H locs hp248 hG hS => ?_)
                                  have hG : zP E G226 H := hp248.2 ▸ hG
                                  refine zr_some (a := yt6) hp248.1 ?_
                                  refine lv_astore_n (lv' := [(2, .ref yt6), (9, .ref (sA (oS (oe os oi) j5))), (8, .ref (oA (oe os oi))), (7, .ref a8), (6, .int 1), (5, .int (nI dp9)), (4, .ref (oA (oe os ci))), (0, .ref (k 0)), (3, .int (nI n8))]) hx hb d_An_follow_251 rfl hl (by decide) rfl (fun ls hl => ?_)
                                  refine lv_iinc (v := nI (n8 + 1)) (lv' := [(3, .int (nI (n8 + 1))), (2, .ref yt6), (9, .ref (sA (oS (oe os oi) j5))), (8, .ref (oA (oe os oi))), (7, .ref a8), (6, .int 1), (5, .int (nI dp9)), (4, .ref (oA (oe os ci))), (0, .ref (k 0))]) hx hb d_An_follow_252 hl (k := 8) rfl (nI_add n8 1) (by decide) rfl (fun ls hl => ?_)
                                  refine lv_goto (tgt := 20) hx hb d_An_follow_255 (by decide) ?_
                                  have hWx := hW_226
                                  rw [zif_y hth, ← hWx] at hnx
                                  have hNx8 : zNR E G226 ro_226 yt6 lsd := hNt6
                                  have hleN : zLe (zWt t1 t2 t3) (zWt (t18 ++ ts_226) t28 t38) := by rw [hWx]; exact hleW.tr (zLe.w1 _ _)
                                  refine zW_more (cells2 := zPc (zWt (t18 ++ ts_226) t28 t38) - zPc (zWt t1 t2 t3) + 2 * (n8 + 1)) (slots2 := zPh os k (zWt (t18 ++ ts_226) t28 t38) - zPh os k (zWt t1 t2 t3) + 300 * (n8 + 1)) (by rw [hWx]; dsimp only; omega) (by rw [hWx]; dsimp only; omega) ?_
                                  exact ih G226 (n8 + 1) yt6 lsd ro_226 dd_226 d28 d38 (t18 ++ ts_226) t28 t38 _ _ (by omega) (by omega) (hC_226) ((hf8.tr hf_226)) (hNx8) (hleN) (by rw [show 9 - (n8 + 1) = m9 by omega]; exact hnx.symm) hG hS ls (lv_sub hl [8, 1, 0] rfl)
                                · have b231 : 1 = 0 := (nI_eq (a := 1) (b := 0) (by omega) (by omega)).mp c231
                                  exact absurd b231 (by decide)
                              · have hG : zP E Gv H := eg193 ▸ hG
                                refine zr_none er193 ?_
                                have hv5 : zV os (vfd (zV os) ls8) 5 = [] := by rw [hfd, ← ho2]; exact zV_fd hGZ.1 hoi hj5n
                                refine lv_astoreN (lv' := [(9, .null), (8, .ref (oA (oe os oi))), (7, .ref a8), (6, .int 1), (5, .int (nI dp9)), (4, .ref (oA (oe os ci))), (0, .ref (k 0)), (2, .ref a8), (3, .int (nI n8))]) hx hb d_An_follow_196 hl (by decide) rfl (fun ls hl => ?_)
                                refine lv_aloadN hx hb d_An_follow_198 (lv_at hl 0 rfl) ?_
                                refine lv_ifnonnullN hx hb d_An_follow_200 ?_
                                refine lv_aload_n hx hb d_An_follow_203 rfl (lv_at hl 6 rfl) ?_
                                refine lv_aload_n hx hb d_An_follow_204 rfl (lv_at hl 7 rfl) ?_
                                refine lv_aload hx hb d_An_follow_205 (lv_at hl 2 rfl) ?_
                                refine lv_aload hx hb d_An_follow_207 (lv_at hl 1 rfl) ?_
                                have htl := vfo_tell (V := (zV os)) (top := top) (sec := (zscu se)) (t := ty) (n := m9) (W := zWt t18 t28 t38) hx8 hvn (Or.inr hvD) (Or.inr (Or.inr hv5))
                                rw [hrem, hfd] at htl
                                have hlr := vtl_le (zV os) top (zscu se) (zWt t18 t28 t38) ls8 ls8 ty
                                have hpar := zPh_le (os := os) (k := k) hlr
                                have hpdr := zPc_le hlr
                                have hphr : zPh os k (vfo (zV os) top (zscu se) ty 9 (zWt t1 t2 t3) ls1).2 = zPh os k (vtl (zV os) top (zscu se) (zWt t18 t28 t38) ls8 ls8 ty) := by rw [htl]
                                have hpcr : zPc (vfo (zV os) top (zscu se) ty 9 (zWt t1 t2 t3) ls1).2 = zPc (vtl (zV os) top (zscu se) (zWt t18 t28 t38) ls8 ls8 ty) := by rw [htl]
                                have hq209 := t_An_tell l E Gv k ro8 rc ty se os top d18 d28 d38 t18 t28 t38 hC8 hGZ hdw hzn a8 ls8 hN8 a8 ls8 hN8 (fun z => absurd rfl z) oi hoi ho2 (by have q := hB9; rw [htl] at q; exact q)
                                have hGo209 := hG
                                refine zk_v (va_runV (As := [.ref a8, .ref a8, .ref (oA (oe os oi))]) (rest := []) ⟨hx, hb, hml, hown, hts⟩ (hq209) (zcV 3 hts w_1173 w_1175 wp_23 w_28 w_1176 (by decide +kernel) ⟨Nat.le_of_ble_eq_true rfl, Nat.le_of_ble_eq_true rfl⟩) (zc_preV hbase hK hN hQ hG hS ha18 rfl) rfl rfl hl.1 rfl (lv_room (Nat.le_of_ble_eq_true rfl)) d_An_follow_209 ⟨(by dsimp only; omega), (by dsimp only; omega)⟩) hS (fun G209 H locs hp209 hG hS => ?_)
                                obtain ⟨ro_209, d1_209, d2_209, d3_209, t1_209, t2_209, t3_209, hC_209, hf0_209, hW0_209⟩ := hp209
                                have hf_209 : zfr ro8 zKa Gv ro_209 G209 := (zfr.rf (r := ro8) (G := Gv)).tr hf0_209
                                have hW_209 : zWt t1_209 t2_209 t3_209 = vtl (zV os) top (zscu se) (zWt t18 t28 t38) ls8 ls8 ty := hW0_209
                                have hE_209 : G209 (E.2.2.2 0) = none := hQ.out hG
                                obtain ⟨⟨hz1_209, hz2_209, hz3_209, hz4_209, hz5_209, soa_209, u9_209, hz6_209, hz7_209, hz8_209, hz9_209, hzA_209⟩, ⟨ha1_209, ha2_209, hs1_209, hs2_209, hs3_209⟩, hT1_209⟩ := id hC_209
                                obtain ⟨bo_209, fo_209, hno1_209, hno2_209, hno3_209, hno4_209, hno5_209, -⟩ := id hz4_209
                                have hN_a8_209 : zNR E G209 ro_209 a8 ls8 := hN8.fr hf_209 zKa_0
                                obtain ⟨b_a8_209, f_a8_209, hq1_a8_209, hq2_a8_209, hq3_a8_209, hq4_a8_209, hq5_a8_209, -⟩ := id hN_a8_209
                                have hl_209 := zWt_l t1_209 t2_209 t3_209
                                refine lv_iconst (v := 0) hx hb d_An_follow_212 (by decide) ?_
                                exact hret _ _ _ _ _ _ _ _ _ hr (rfl) (⟨ro_209, d1_209, d2_209, d3_209, t1_209, t2_209, t3_209, hC_209, (hf8.tr hf_209), Or.inr ⟨hxt, (congrArg Prod.fst (htl)).symm, hW_209.trans (congrArg Prod.snd (htl)).symm⟩⟩) hG hS (by dsimp only; omega) (by dsimp only; omega) d_An_follow_213
                            · refine lv_null hx hb d_An_follow_186 ?_
                              refine lv_goto (tgt := 196) hx hb d_An_follow_187 (by decide) ?_
                              refine lv_astoreN (lv' := [(9, .null), (8, .ref (oA (oe os oi))), (7, .ref a8), (6, .int 1), (5, .int (nI dp9)), (4, .ref (oA (oe os ci))), (0, .ref (k 0)), (2, .ref a8), (3, .int (nI n8))]) hx hb d_An_follow_196 hl (by decide) rfl (fun ls hl => ?_)
                              refine lv_aloadN hx hb d_An_follow_198 (lv_at hl 0 rfl) ?_
                              refine lv_ifnonnullN hx hb d_An_follow_200 ?_
                              refine lv_aload_n hx hb d_An_follow_203 rfl (lv_at hl 6 rfl) ?_
                              refine lv_aload_n hx hb d_An_follow_204 rfl (lv_at hl 7 rfl) ?_
                              refine lv_aload hx hb d_An_follow_205 (lv_at hl 2 rfl) ?_
                              refine lv_aload hx hb d_An_follow_207 (lv_at hl 1 rfl) ?_
                              have htl := vfo_tell (V := (zV os)) (top := top) (sec := (zscu se)) (t := ty) (n := m9) (W := zWt t18 t28 t38) hx8 hvn (Or.inr hvD) (Or.inr (Or.inl c183))
                              rw [hrem, hfd] at htl
                              have hlr := vtl_le (zV os) top (zscu se) (zWt t18 t28 t38) ls8 ls8 ty
                              have hpar := zPh_le (os := os) (k := k) hlr
                              have hpdr := zPc_le hlr
                              have hphr : zPh os k (vfo (zV os) top (zscu se) ty 9 (zWt t1 t2 t3) ls1).2 = zPh os k (vtl (zV os) top (zscu se) (zWt t18 t28 t38) ls8 ls8 ty) := by rw [htl]
                              have hpcr : zPc (vfo (zV os) top (zscu se) ty 9 (zWt t1 t2 t3) ls1).2 = zPc (vtl (zV os) top (zscu se) (zWt t18 t28 t38) ls8 ls8 ty) := by rw [htl]
                              have hq209 := t_An_tell l E Gv k ro8 rc ty se os top d18 d28 d38 t18 t28 t38 hC8 hGZ hdw hzn a8 ls8 hN8 a8 ls8 hN8 (fun z => absurd rfl z) oi hoi ho2 (by have q := hB9; rw [htl] at q; exact q)
                              have hGo209 := hG
                              refine zk_v (va_runV (As := [.ref a8, .ref a8, .ref (oA (oe os oi))]) (rest := []) ⟨hx, hb, hml, hown, hts⟩ (hq209) (zcV 3 hts w_1173 w_1175 wp_23 w_28 w_1176 (by decide +kernel) ⟨Nat.le_of_ble_eq_true rfl, Nat.le_of_ble_eq_true rfl⟩) (zc_preV hbase hK hN hQ hG hS ha18 rfl) rfl rfl hl.1 rfl (lv_room (Nat.le_of_ble_eq_true rfl)) d_An_follow_209 ⟨(by dsimp only; omega), (by dsimp only; omega)⟩) hS (fun G209 H locs hp209 hG hS => ?_)
                              obtain ⟨ro_209, d1_209, d2_209, d3_209, t1_209, t2_209, t3_209, hC_209, hf0_209, hW0_209⟩ := hp209
                              have hf_209 : zfr ro8 zKa Gv ro_209 G209 := (zfr.rf (r := ro8) (G := Gv)).tr hf0_209
                              have hW_209 : zWt t1_209 t2_209 t3_209 = vtl (zV os) top (zscu se) (zWt t18 t28 t38) ls8 ls8 ty := hW0_209
                              have hE_209 : G209 (E.2.2.2 0) = none := hQ.out hG
                              obtain ⟨⟨hz1_209, hz2_209, hz3_209, hz4_209, hz5_209, soa_209, u9_209, hz6_209, hz7_209, hz8_209, hz9_209, hzA_209⟩, ⟨ha1_209, ha2_209, hs1_209, hs2_209, hs3_209⟩, hT1_209⟩ := id hC_209
                              obtain ⟨bo_209, fo_209, hno1_209, hno2_209, hno3_209, hno4_209, hno5_209, -⟩ := id hz4_209
                              have hN_a8_209 : zNR E G209 ro_209 a8 ls8 := hN8.fr hf_209 zKa_0
                              obtain ⟨b_a8_209, f_a8_209, hq1_a8_209, hq2_a8_209, hq3_a8_209, hq4_a8_209, hq5_a8_209, -⟩ := id hN_a8_209
                              have hl_209 := zWt_l t1_209 t2_209 t3_209
                              refine lv_iconst (v := 0) hx hb d_An_follow_212 (by decide) ?_
                              exact hret _ _ _ _ _ _ _ _ _ hr (rfl) (⟨ro_209, d1_209, d2_209, d3_209, t1_209, t2_209, t3_209, hC_209, (hf8.tr hf_209), Or.inr ⟨hxt, (congrArg Prod.fst (htl)).symm, hW_209.trans (congrArg Prod.snd (htl)).symm⟩⟩) hG hS (by dsimp only; omega) (by dsimp only; omega) d_An_follow_213
                        · have b146 : 1 = 0 := (nI_eq (a := 1) (b := 0) (by omega) (by omega)).mp c146
                          exact absurd b146 (by decide)
                      · have hG : zP E Gv H := eg139 ▸ hG
                        refine zr_none er139 ?_
                        have hvD : ¬ vD (zV os) (vfd (zV os) ls8) := fun z => by obtain ⟨i, hi, e9⟩ := vD_ix z; exact hno i hi (by rw [e9, hfd])
                        refine lv_astoreN (lv' := [(8, .null), (7, .ref a8), (6, .int 1), (5, .int (nI dp9)), (4, .ref (oA (oe os ci))), (0, .ref (k 0)), (2, .ref a8), (3, .int (nI n8))]) hx hb d_An_follow_142 hl (by decide) rfl (fun ls hl => ?_)
                        refine lv_iload hx hb d_An_follow_144 (lv_at hl 2 rfl) ?_
                        refine lv_if_ne (tgt := 163) hx hb d_An_follow_146 (by decide) (fun c146 => ?_) (fun c146 => ?_)
                        · have b146 : ¬ 1 = 0 := fun q => c146 ((nI_eq (a := 1) (b := 0) (by omega) (by omega)).mpr q)
                          refine lv_aloadN hx hb d_An_follow_163 (lv_at hl 0 rfl) ?_
                          refine lv_ifnullN (tgt := 186) hx hb d_An_follow_165 (by decide) ?_
                          refine lv_null hx hb d_An_follow_186 ?_
                          refine lv_goto (tgt := 196) hx hb d_An_follow_187 (by decide) ?_
                          refine lv_astoreN (lv' := [(9, .null), (8, .null), (7, .ref a8), (6, .int 1), (5, .int (nI dp9)), (4, .ref (oA (oe os ci))), (0, .ref (k 0)), (2, .ref a8), (3, .int (nI n8))]) hx hb d_An_follow_196 hl (by decide) rfl (fun ls hl => ?_)
                          refine lv_aloadN hx hb d_An_follow_198 (lv_at hl 0 rfl) ?_
                          refine lv_ifnonnullN hx hb d_An_follow_200 ?_
                          refine lv_aload_n hx hb d_An_follow_203 rfl (lv_at hl 6 rfl) ?_
                          refine lv_aload_n hx hb d_An_follow_204 rfl (lv_at hl 7 rfl) ?_
                          refine lv_aload hx hb d_An_follow_205 (lv_at hl 2 rfl) ?_
                          refine lv_aloadN hx hb d_An_follow_207 (lv_at hl 1 rfl) ?_
                          have htl := vfo_tell (V := (zV os)) (top := top) (sec := (zscu se)) (t := ty) (n := m9) (W := zWt t18 t28 t38) hx8 hvn (Or.inl hth) (Or.inr (Or.inr (Classical.byContradiction (fun z => hvD ⟨5, z⟩))))
                          rw [hrem, hfd] at htl
                          have hlr := vtl_le (zV os) top (zscu se) (zWt t18 t28 t38) ls8 ls8 ty
                          have hpar := zPh_le (os := os) (k := k) hlr
                          have hpdr := zPc_le hlr
                          have hphr : zPh os k (vfo (zV os) top (zscu se) ty 9 (zWt t1 t2 t3) ls1).2 = zPh os k (vtl (zV os) top (zscu se) (zWt t18 t28 t38) ls8 ls8 ty) := by rw [htl]
                          have hpcr : zPc (vfo (zV os) top (zscu se) ty 9 (zWt t1 t2 t3) ls1).2 = zPc (vtl (zV os) top (zscu se) (zWt t18 t28 t38) ls8 ls8 ty) := by rw [htl]
                          have hq209 := t_An_tell_n l E Gv k ro8 rc ty se os top d18 d28 d38 t18 t28 t38 hC8 hGZ hdw hzn a8 ls8 hN8 a8 ls8 hN8 (fun z => absurd rfl z) (by rw [hfd] at hvD; exact hvD) (hGZ.fx hx8) (by have q := hB9; rw [htl] at q; exact q)
                          have hGo209 := hG
                          refine zk_v (va_runV (As := [.ref a8, .ref a8, .null]) (rest := []) ⟨hx, hb, hml, hown, hts⟩ (hq209) (zcV 3 hts w_1173 w_1175 wp_23 w_28 w_1176 (by decide +kernel) ⟨Nat.le_of_ble_eq_true rfl, Nat.le_of_ble_eq_true rfl⟩) (zc_preV hbase hK hN hQ hG hS ha18 rfl) rfl rfl hl.1 rfl (lv_room (Nat.le_of_ble_eq_true rfl)) d_An_follow_209 ⟨(by dsimp only; omega), (by dsimp only; omega)⟩) hS (fun G209 H locs hp209 hG hS => ?_)
                          obtain ⟨ro_209, d1_209, d2_209, d3_209, t1_209, t2_209, t3_209, hC_209, hf0_209, hW0_209⟩ := hp209
                          have hf_209 : zfr ro8 zKa Gv ro_209 G209 := (zfr.rf (r := ro8) (G := Gv)).tr hf0_209
                          have hW_209 : zWt t1_209 t2_209 t3_209 = vtl (zV os) top (zscu se) (zWt t18 t28 t38) ls8 ls8 ty := hW0_209
                          have hE_209 : G209 (E.2.2.2 0) = none := hQ.out hG
                          obtain ⟨⟨hz1_209, hz2_209, hz3_209, hz4_209, hz5_209, soa_209, u9_209, hz6_209, hz7_209, hz8_209, hz9_209, hzA_209⟩, ⟨ha1_209, ha2_209, hs1_209, hs2_209, hs3_209⟩, hT1_209⟩ := id hC_209
                          obtain ⟨bo_209, fo_209, hno1_209, hno2_209, hno3_209, hno4_209, hno5_209, -⟩ := id hz4_209
                          have hN_a8_209 : zNR E G209 ro_209 a8 ls8 := hN8.fr hf_209 zKa_0
                          obtain ⟨b_a8_209, f_a8_209, hq1_a8_209, hq2_a8_209, hq3_a8_209, hq4_a8_209, hq5_a8_209, -⟩ := id hN_a8_209
                          have hl_209 := zWt_l t1_209 t2_209 t3_209
                          refine lv_iconst (v := 0) hx hb d_An_follow_212 (by decide) ?_
                          exact hret _ _ _ _ _ _ _ _ _ hr (rfl) (⟨ro_209, d1_209, d2_209, d3_209, t1_209, t2_209, t3_209, hC_209, (hf8.tr hf_209), Or.inr ⟨hxt, (congrArg Prod.fst (htl)).symm, hW_209.trans (congrArg Prod.snd (htl)).symm⟩⟩) hG hS (by dsimp only; omega) (by dsimp only; omega) d_An_follow_213
                        · have b146 : 1 = 0 := (nI_eq (a := 1) (b := 0) (by omega) (by omega)).mp c146
                          exact absurd b146 (by decide)
                · refine lv_aload_n hx hb d_An_follow_82 rfl (lv_at hl 1 rfl) ?_
                  refine lv_aload hx hb d_An_follow_83 (lv_at hl 0 rfl) ?_
                  have hrf := vfo_ref (V := (zV os)) (top := top) (sec := (zscu se)) (t := ty) (n := m9) (W := zWt t18 t28 t38) hx8 hvc (fun z => hp76.1.z c79 z.2)
                  rw [hrem] at hrf
                  obtain ⟨ck, hck, eck, hct, hcch⟩ := hGZ.cc hvc
                  have eck2 := hGZ.ix hck hci eck
                  rw [eck2] at hct
                  have hlr := vrf_le (zV os) top (zscu se) (zWt t18 t28 t38) (oM (oe os ci))
                  have hpar := zPh_le (os := os) (k := k) hlr
                  have hpdr := zPc_le hlr
                  have hphr : zPh os k (vfo (zV os) top (zscu se) ty 9 (zWt t1 t2 t3) ls1).2 = zPh os k (vrf (zV os) top (zscu se) (zWt t18 t28 t38) (oM (oe os ci))) := by rw [hrf]
                  have hpcr : zPc (vfo (zV os) top (zscu se) ty 9 (zWt t1 t2 t3) ls1).2 = zPc (vrf (zV os) top (zscu se) (zWt t18 t28 t38) (oM (oe os ci))) := by rw [hrf]
                  have hq85 := t_An_refer l E Gv k ro8 rc ty se os top d18 d28 d38 t18 t28 t38 hC8 hGZ hdw hzn ci hci hct hcch (by have q := hB9; rw [hrf] at q; exact q)
                  have hGo85 := hG
                  refine zk_v (va_runV (As := [.ref (oA (oe os ci))]) (rest := []) ⟨hx, hb, hml, hown, hts⟩ (hq85) (zcV 1 hts w_1028 w_1030 wp_15 w_28 w_1031 (by decide +kernel) ⟨Nat.le_of_ble_eq_true rfl, Nat.le_of_ble_eq_true rfl⟩) (zc_preV hbase hK hN hQ hG hS ha18 rfl) rfl rfl hl.1 rfl (lv_room (Nat.le_of_ble_eq_true rfl)) d_An_follow_85 ⟨(by dsimp only; omega), (by dsimp only; omega)⟩) hS (fun G85 H locs hp85 hG hS => ?_)
                  obtain ⟨ro_85, d1_85, d2_85, d3_85, t1_85, t2_85, t3_85, hC_85, hf0_85, hW0_85⟩ := hp85
                  have hf_85 : zfr ro8 zKa Gv ro_85 G85 := (zfr.rf (r := ro8) (G := Gv)).tr hf0_85
                  have hW_85 : zWt t1_85 t2_85 t3_85 = vrf (zV os) top (zscu se) (zWt t18 t28 t38) (oM (oe os ci)) := hW0_85
                  have hE_85 : G85 (E.2.2.2 0) = none := hQ.out hG
                  obtain ⟨⟨hz1_85, hz2_85, hz3_85, hz4_85, hz5_85, soa_85, u9_85, hz6_85, hz7_85, hz8_85, hz9_85, hzA_85⟩, ⟨ha1_85, ha2_85, hs1_85, hs2_85, hs3_85⟩, hT1_85⟩ := id hC_85
                  obtain ⟨bo_85, fo_85, hno1_85, hno2_85, hno3_85, hno4_85, hno5_85, -⟩ := id hz4_85
                  have hN_a8_85 : zNR E G85 ro_85 a8 ls8 := hN8.fr hf_85 zKa_0
                  obtain ⟨b_a8_85, f_a8_85, hq1_a8_85, hq2_a8_85, hq3_a8_85, hq4_a8_85, hq5_a8_85, -⟩ := id hN_a8_85
                  have hl_85 := zWt_l t1_85 t2_85 t3_85
                  refine lv_iconst (v := 0) hx hb d_An_follow_88 (by decide) ?_
                  exact hret _ _ _ _ _ _ _ _ _ hr (rfl) (⟨ro_85, d1_85, d2_85, d3_85, t1_85, t2_85, t3_85, hC_85, (hf8.tr hf_85), Or.inr ⟨hxt, (congrArg Prod.fst (hrf)).symm, hW_85.trans (congrArg Prod.snd (hrf)).symm⟩⟩) hG hS (by dsimp only; omega) (by dsimp only; omega) d_An_follow_89
            · have hG : zP E Gv H := eg51 ▸ hG
              refine zr_none er51 ?_
              have hvn : vnc (zV os) top ty ls8 := fun c e9 => by rw [hvc] at e9; cases e9
              refine lv_astoreN (lv' := [(4, .null), (0, .ref (k 0)), (2, .ref a8), (3, .int (nI n8))]) hx hb d_An_follow_54 hl (by decide) rfl (fun ls hl => ?_)
              refine lv_aloadN hx hb d_An_follow_56 (lv_at hl 0 rfl) ?_
              refine lv_ifnullN (tgt := 90) hx hb d_An_follow_58 (by decide) ?_
              refine lv_aload_n hx hb d_An_follow_90 rfl (lv_at hl 1 rfl) ?_
              refine zg_get (ci := 1) (C := "ZoneAnswers$Answer") (T := T_An) (N := 6) hx hb hts zi_An hown hK hG ha18 rfl 0 (by decide) (hts _ w_684) (fun _ h9 => h9) rfl d_An_follow_91 ?_
              refine lv_aload_n hx hb d_An_follow_94 rfl (lv_at hl 2 rfl) ?_
              have hGo95 := hG
              refine zk_i (va_runV (As := [.ref a8]) (rest := []) ⟨hx, hb, hml, hown, hts⟩ ((t_Zo_depth l E Gv (k 1) (k 11) (k 12) (k 13) (k 14) rc hz18 ro8 (k 15) os hz38 hne hol hso a8 b_a88 ls8 f_a88 hq1_a88 hq2_a88 hq3_a88 hq4_a88 hq5_a88).imp (p2 := fun r9 G9 => (∃ d, d ≤ ls8.length ∧ isCl (zV os) ls8 (ls8.drop (ls8.length - d)) ∧ (d = ls8.length ↔ vth (zV os) ls8) ∧ r9 = nI d) ∧ G9 = Gv) (fun r9 G9 q9 => ⟨hGZ.dpO hfn8 q9.1, q9.2⟩)) (zcV 1 hts w_1146 w_1147 w_1148 w_3 w_1149 (by decide +kernel) ⟨Nat.le_of_ble_eq_true rfl, Nat.le_of_ble_eq_true rfl⟩) (zc_preV hbase hK hN hQ hG hS hz18 rfl) rfl rfl hl.1 rfl (lv_room (Nat.le_of_ble_eq_true rfl)) d_An_follow_95 ⟨(by dsimp only; omega), (by dsimp only; omega)⟩) hS (fun r95 G95 H locs hp95 hG hS => ?_)
              obtain ⟨⟨dp9, hdp1, hdp2, hdp3, er95⟩, eg95⟩ := hp95
              have hG : zP E Gv H := eg95 ▸ hG
              refine zi_as (y := nI dp9) er95 ?_
              refine lv_istore (lv' := [(5, .int (nI dp9)), (4, .null), (0, .ref (k 0)), (2, .ref a8), (3, .int (nI n8))]) hx hb d_An_follow_98 hl (by decide) rfl (fun ls hl => ?_)
              refine lv_iload hx hb d_An_follow_100 (lv_at hl 0 rfl) ?_
              refine lv_aload_n hx hb d_An_follow_102 rfl (lv_at hl 3 rfl) ?_
              refine zg_get (ci := 3) (C := "ZoneAnswers$Name") (T := T_Na) (N := 2) hx hb hts zi_Na hown hK hG hq1_a88 rfl 1 (by decide) (hts _ w_117) (fun _ h9 => h9) rfl d_An_follow_103 ?_
              refine lv_icmp_ne (tgt := 113) hx hb d_An_follow_106 (by decide) (fun c106 => ?_) (fun c106 => ?_)
              · have b106 : ¬ dp9 = ls8.length := fun q => c106 ((nI_eq (a := dp9) (b := ls8.length) (by omega) (by omega)).mpr q)
                have hth : ¬ vth (zV os) ls8 := fun z => b106 (hdp3.mpr z)
                have hfd : vfd (zV os) ls8 = [42] :: ls8.drop (ls8.length - dp9) := by unfold vfd; rw [zif_n hth, vcl_y hdp2]
                have hdl : dp9 < ls8.length := by omega
                refine lv_iconst (v := 0) hx hb d_An_follow_113 (by decide) ?_
                refine lv_istore (lv' := [(6, .int 0), (5, .int (nI dp9)), (4, .null), (0, .ref (k 0)), (2, .ref a8), (3, .int (nI n8))]) hx hb d_An_follow_114 hl (by decide) rfl (fun ls hl => ?_)
                refine lv_iload hx hb d_An_follow_116 (lv_at hl 0 rfl) ?_
                refine lv_if_eq (tgt := 125) hx hb d_An_follow_118 (by decide) (fun c118 => ?_) (fun c118 => ?_)
                · have b118 : 0 = 0 := (nI_eq (a := 0) (b := 0) (by omega) (by omega)).mp c118
                  refine lv_aload_n hx hb d_An_follow_125 rfl (lv_at hl 4 rfl) ?_
                  refine lv_iload hx hb d_An_follow_126 (lv_at hl 1 rfl) ?_
                  have hGo128 := hG
                  refine zk_q (va_runV (As := [.int (nI dp9)]) (rest := []) ⟨hx, hb, hml, hown, hts⟩ (t_Na_star_b l E Gv a8 b_a88 ls8 f_a88 hq1_a88 hq2_a88 hq3_a88 hq4_a88 hq5_a88 dp9 hdp1 (np_star_g hq4_a88 hdl) 300 (by decide)) (zcV 1 hts w_1150 w_1151 w_1152 w_7 w_1153 (by decide +kernel) ⟨Nat.le_of_ble_eq_true rfl, Nat.le_of_ble_eq_true rfl⟩) (zc_preV hbase hK hN hQ hG hS hq1_a88 rfl) rfl rfl hl.1 rfl (lv_room (Nat.le_of_ble_eq_true rfl)) d_An_follow_128 ⟨(by dsimp only; omega), (by dsimp only; omega)⟩) hS (fun r128 G128 H locs hp128 hG hS => ?_)
                  obtain ⟨qs, er128, hxs, hNb⟩ := hp128
                  refine zr_some (a := qs) er128 ?_
                  obtain ⟨roS, hfS, hrS, hNq⟩ := hNb.nr hxs ro8
                  have hES : G128 (E.2.2.2 0) = none := hQ.out hG
                  have hCS := hC8.z hfS hE8 hES
                  have hNS := hN8.fr hfS id
                  have htS : zfr ro zKa G roS G128 := hf8.tr (hfS.w (fun _ z => z.elim))
                  obtain ⟨⟨hz1S, hz2S, hz3S, hz4S, hz5S, soaS, u9S, hz6S, hz7S, hz8S, hz9S, hzAS⟩, ⟨ha1S, ha2S, hs1S, hs2S, hs3S⟩, hT1S⟩ := id hCS
                  obtain ⟨boS, foS, hno1S, hno2S, hno3S, hno4S, hno5S, -⟩ := id hz4S
                  obtain ⟨b_a8S, f_a8S, hq1_a8S, hq2_a8S, hq3_a8S, hq4_a8S, hq5_a8S, -⟩ := id hNS
                  obtain ⟨b_qsS, f_qsS, hq1_qsS, hq2_qsS, hq3_qsS, hq4_qsS, hq5_qsS, -⟩ := id hNq
                  refine lv_astore (lv' := [(7, .ref qs), (6, .int 0), (5, .int (nI dp9)), (4, .null), (0, .ref (k 0)), (2, .ref a8), (3, .int (nI n8))]) hx hb d_An_follow_131 hl (by decide) rfl (fun ls hl => ?_)
                  refine lv_aload_n hx hb d_An_follow_133 rfl (lv_at hl 4 rfl) ?_
                  refine zg_get (ci := 1) (C := "ZoneAnswers$Answer") (T := T_An) (N := 6) hx hb hts zi_An hown hK hG ha1S rfl 0 (by decide) (hts _ w_684) (fun _ h9 => h9) rfl d_An_follow_134 ?_
                  refine lv_aload hx hb d_An_follow_137 (lv_at hl 0 rfl) ?_
                  have hGo139 := hG
                  refine zk_q (va_runV (As := [.ref qs]) (rest := []) ⟨hx, hb, hml, hown, hts⟩ (t_Zo_at_t l hz1S hz3S hne hso hq1_qsS hq2_qsS hq3_qsS hq4_qsS hq5_qsS) (zcV 1 hts w_1137 w_880 w_881 w_3 w_882 (by decide +kernel) ⟨Nat.le_of_ble_eq_true rfl, Nat.le_of_ble_eq_true rfl⟩) (zc_preV hbase hK hN hQ hG hS hz1S rfl) rfl rfl hl.1 rfl (lv_room (Nat.le_of_ble_eq_true rfl)) d_An_follow_139 ⟨(by dsimp only; omega), (by dsimp only; omega)⟩) hS (fun r139 G139 H locs hp139 hG hS => ?_)
                  rcases hp139 with ⟨⟨oi, hoi, ho2, er139⟩ | ⟨hno, er139⟩, eg139⟩
                  · have hG : zP E G128 H := eg139 ▸ hG
                    refine zr_some (a := oA (oe os oi)) er139 ?_
                    have how9 := hz3S.2 _ (oe_mem hoi)
                    have hvD : vD (zV os) (vfd (zV os) ls8) := by rw [hfd, ← ho2]; exact vD_of hGZ.1 hoi
                    refine lv_astore (lv' := [(8, .ref (oA (oe os oi))), (7, .ref qs), (6, .int 0), (5, .int (nI dp9)), (4, .null), (0, .ref (k 0)), (2, .ref a8), (3, .int (nI n8))]) hx hb d_An_follow_142 hl (by decide) rfl (fun ls hl => ?_)
                    refine lv_iload hx hb d_An_follow_144 (lv_at hl 2 rfl) ?_
                    refine lv_if_ne (tgt := 163) hx hb d_An_follow_146 (by decide) (fun c146 => ?_) (fun c146 => ?_)
                    · have b146 : ¬ 0 = 0 := fun q => c146 ((nI_eq (a := 0) (b := 0) (by omega) (by omega)).mpr q)
                      exact absurd rfl b146
                    · have b146 : 0 = 0 := (nI_eq (a := 0) (b := 0) (by omega) (by omega)).mp c146
                      refine lv_aload hx hb d_An_follow_149 (lv_at hl 0 rfl) ?_
                      refine lv_ifnonnull (tgt := 163) hx hb d_An_follow_151 (by decide) ?_
                      refine lv_aload hx hb d_An_follow_163 (lv_at hl 0 rfl) ?_
                      refine lv_ifnull hx hb d_An_follow_165 ?_
                      refine lv_aload_n hx hb d_An_follow_168 rfl (lv_at hl 5 rfl) ?_
                      refine zg_get (ci := 1) (C := "ZoneAnswers$Answer") (T := T_An) (N := 6) hx hb hts zi_An hown hK hG ha1S rfl 4 (by decide) (hts _ w_688) (fun _ h9 => h9) rfl d_An_follow_169 ?_
                      refine lv_iconst (v := 5) hx hb d_An_follow_172 (by decide) ?_
                      refine lv_icmp_eq (tgt := 186) hx hb d_An_follow_173 (by decide) (fun c173 => ?_) (fun c173 => ?_)
                      · refine lv_null hx hb d_An_follow_186 ?_
                        refine lv_goto (tgt := 196) hx hb d_An_follow_187 (by decide) ?_
                        refine lv_astoreN (lv' := [(9, .null), (8, .ref (oA (oe os oi))), (7, .ref qs), (6, .int 0), (5, .int (nI dp9)), (4, .null), (0, .ref (k 0)), (2, .ref a8), (3, .int (nI n8))]) hx hb d_An_follow_196 hl (by decide) rfl (fun ls hl => ?_)
                        refine lv_aloadN hx hb d_An_follow_198 (lv_at hl 0 rfl) ?_
                        refine lv_ifnonnullN hx hb d_An_follow_200 ?_
                        refine lv_aload_n hx hb d_An_follow_203 rfl (lv_at hl 6 rfl) ?_
                        refine lv_aload_n hx hb d_An_follow_204 rfl (lv_at hl 7 rfl) ?_
                        refine lv_aload hx hb d_An_follow_205 (lv_at hl 2 rfl) ?_
                        refine lv_aload hx hb d_An_follow_207 (lv_at hl 1 rfl) ?_
                        have htl := vfo_tell (V := (zV os)) (top := top) (sec := (zscu se)) (t := ty) (n := m9) (W := zWt t18 t28 t38) hx8 hvn (Or.inr hvD) (Or.inl c173)
                        rw [hrem, hfd] at htl
                        have hlr := vtl_le (zV os) top (zscu se) (zWt t18 t28 t38) ls8 ([42] :: ls8.drop (ls8.length - dp9)) ty
                        have hpar := zPh_le (os := os) (k := k) hlr
                        have hpdr := zPc_le hlr
                        have hphr : zPh os k (vfo (zV os) top (zscu se) ty 9 (zWt t1 t2 t3) ls1).2 = zPh os k (vtl (zV os) top (zscu se) (zWt t18 t28 t38) ls8 ([42] :: ls8.drop (ls8.length - dp9)) ty) := by rw [htl]
                        have hpcr : zPc (vfo (zV os) top (zscu se) ty 9 (zWt t1 t2 t3) ls1).2 = zPc (vtl (zV os) top (zscu se) (zWt t18 t28 t38) ls8 ([42] :: ls8.drop (ls8.length - dp9)) ty) := by rw [htl]
                        have hq209 := t_An_tell l E G128 k roS rc ty se os top d18 d28 d38 t18 t28 t38 hCS hGZ hdw hzn a8 ls8 hNS qs ([42] :: ls8.drop (ls8.length - dp9)) hNq (fun _ => hGZ.lx hx8 hth) oi hoi ho2 (by have q := hB9; rw [htl] at q; exact q)
                        have hGo209 := hG
                        refine zk_v (va_runV (As := [.ref a8, .ref qs, .ref (oA (oe os oi))]) (rest := []) ⟨hx, hb, hml, hown, hts⟩ (hq209) (zcV 3 hts w_1173 w_1175 wp_23 w_28 w_1176 (by decide +kernel) ⟨Nat.le_of_ble_eq_true rfl, Nat.le_of_ble_eq_true rfl⟩) (zc_preV hbase hK hN hQ hG hS ha1S rfl) rfl rfl hl.1 rfl (lv_room (Nat.le_of_ble_eq_true rfl)) d_An_follow_209 ⟨(by dsimp only; omega), (by dsimp only; omega)⟩) hS (fun G209 H locs hp209 hG hS => ?_)
                        obtain ⟨ro_209, d1_209, d2_209, d3_209, t1_209, t2_209, t3_209, hC_209, hf0_209, hW0_209⟩ := hp209
                        have hf_209 : zfr roS zKa G128 ro_209 G209 := (zfr.rf (r := roS) (G := G128)).tr hf0_209
                        have hW_209 : zWt t1_209 t2_209 t3_209 = vtl (zV os) top (zscu se) (zWt t18 t28 t38) ls8 ([42] :: ls8.drop (ls8.length - dp9)) ty := hW0_209
                        have hE_209 : G209 (E.2.2.2 0) = none := hQ.out hG
                        obtain ⟨⟨hz1_209, hz2_209, hz3_209, hz4_209, hz5_209, soa_209, u9_209, hz6_209, hz7_209, hz8_209, hz9_209, hzA_209⟩, ⟨ha1_209, ha2_209, hs1_209, hs2_209, hs3_209⟩, hT1_209⟩ := id hC_209
                        obtain ⟨bo_209, fo_209, hno1_209, hno2_209, hno3_209, hno4_209, hno5_209, -⟩ := id hz4_209
                        have hN_a8_209 : zNR E G209 ro_209 a8 ls8 := hNS.fr hf_209 zKa_0
                        obtain ⟨b_a8_209, f_a8_209, hq1_a8_209, hq2_a8_209, hq3_a8_209, hq4_a8_209, hq5_a8_209, -⟩ := id hN_a8_209
                        have hN_qs_209 : zNR E G209 ro_209 qs ([42] :: ls8.drop (ls8.length - dp9)) := hNq.fr hf_209 zKa_0
                        obtain ⟨b_qs_209, f_qs_209, hq1_qs_209, hq2_qs_209, hq3_qs_209, hq4_qs_209, hq5_qs_209, -⟩ := id hN_qs_209
                        have hl_209 := zWt_l t1_209 t2_209 t3_209
                        refine lv_iconst (v := 0) hx hb d_An_follow_212 (by decide) ?_
                        exact hret _ _ _ _ _ _ _ _ _ hr (rfl) (⟨ro_209, d1_209, d2_209, d3_209, t1_209, t2_209, t3_209, hC_209, (htS.tr hf_209), Or.inr ⟨hxt, (congrArg Prod.fst (htl)).symm, hW_209.trans (congrArg Prod.snd (htl)).symm⟩⟩) hG hS (by dsimp only; omega) (by dsimp only; omega) d_An_follow_213
                      · refine lv_aload_n hx hb d_An_follow_176 rfl (lv_at hl 5 rfl) ?_
                        refine zg_get (ci := 1) (C := "ZoneAnswers$Answer") (T := T_An) (N := 6) hx hb hts zi_An hown hK hG ha1S rfl 4 (by decide) (hts _ w_688) (fun _ h9 => h9) rfl d_An_follow_177 ?_
                        refine lv_sipush (v := 255) hx hb d_An_follow_180 (by decide) ?_
                        refine lv_icmp_ne (tgt := 190) hx hb d_An_follow_183 (by decide) (fun c183 => ?_) (fun c183 => ?_)
                        · refine lv_aload hx hb d_An_follow_190 (lv_at hl 0 rfl) ?_
                          refine lv_iconst (v := 5) hx hb d_An_follow_192 (by decide) ?_
                          have hGo193 := hG
                          refine zk_q (va_runV (As := [.int 5]) (rest := []) ⟨hx, hb, hml, hown, hts⟩ (t_Ow_find_t l how9 (hGZ.1.2 oi hoi).2.1 5) (zcV 1 hts w_1032 w_654 w_655 w_12 w_656 (by decide +kernel) ⟨Nat.le_of_ble_eq_true rfl, Nat.le_of_ble_eq_true rfl⟩) (zc_preV hbase hK hN hQ hG hS how9.1 rfl) rfl rfl hl.1 rfl (lv_room (Nat.le_of_ble_eq_true rfl)) d_An_follow_193 ⟨(by dsimp only; omega), (by dsimp only; omega)⟩) hS (fun r193 G193 H locs hp193 hG hS => ?_)
                          rcases hp193 with ⟨⟨j5, hj5, ht5, hj53, er193⟩ | ⟨hj5n, er193⟩, eg193⟩
                          · have hG : zP E G128 H := eg193 ▸ hG
                            refine zr_some (a := sA (oS (oe os oi) j5)) er193 ?_
                            have hsr5 := how9.2.2.2.2 _ (oS_mem hj5)
                            have hvr := vrw_s (x := ls8) hGZ.1 hoi hj5
                            rw [ht5, ho2] at hvr
                            have hd0 := (hGZ.1.2 oi hoi).2.2 j5 hj5
                            obtain ⟨lsd, ed1, ed2, ed3⟩ := hdw _ (oe_mem hoi) _ (oS_mem hj5) _ (sE_mem hd0) (by rw [ht5]; exact Or.inr (Or.inl rfl))
                            rw [ht5] at ed2
                            have etg : vtg 5 (sE (oS (oe os oi) j5) 0).2.1 = lsd := vnm_y ed2 ed3
                            obtain ⟨r5, hV5⟩ : ∃ r5, zV os (vfd (zV os) ls8) 5 = (sU (oS (oe os oi) j5), (sE (oS (oe os oi) j5) 0).2.1) :: r5 := by
                              rw [hfd, ← ho2, ← ht5, zV_s hGZ.1 hoi hj5]
                              cases hz : sX (oS (oe os oi) j5) with
                              | nil => rw [hz] at hd0; exact absurd hd0 (Nat.lt_irrefl _)
                              | cons y ys => exact ⟨ys.map (fun d => (sU (oS (oe os oi) j5), d.2.1)), by rw [List.map_cons]; unfold sE; rw [hz]; rfl⟩
                            have hnx := vfo_next (V := (zV os)) (top := top) (sec := (zscu se)) (t := ty) (n := m9) (W := zWt t18 t28 t38) hx8 hvn (Or.inr hvD) c173 c183 hV5
                            dsimp only at hnx
                            rw [hrem, etg, hfd] at hnx
                            have hvl : (vrw (zV os) ls8 ([42] :: ls8.drop (ls8.length - dp9)) 5).length = (sX (oS (oe os oi) j5)).length := by rw [hvr, List.length_map]
                            have hleT : zLe (zif (vth (zV os) ls8) (w1 (zWt t18 t28 t38) (vrw (zV os) ls8 ([42] :: ls8.drop (ls8.length - dp9)) 5)) (vpr (zV os) top (zscu se) (w1 (zWt t18 t28 t38) (vrw (zV os) ls8 ([42] :: ls8.drop (ls8.length - dp9)) 5)) (vov (zV os) top ls8))) (vfo (zV os) top (zscu se) ty 9 (zWt t1 t2 t3) ls1).2 := by rw [hnx]; exact vfo_le _ _ _
                            have hpaT := zPh_le (os := os) (k := k) hleT
                            have hpdT := zPc_le hleT
                            have hleU : zLe (w1 (zWt t18 t28 t38) (vrw (zV os) ls8 ([42] :: ls8.drop (ls8.length - dp9)) 5)) (zif (vth (zV os) ls8) (w1 (zWt t18 t28 t38) (vrw (zV os) ls8 ([42] :: ls8.drop (ls8.length - dp9)) 5)) (vpr (zV os) top (zscu se) (w1 (zWt t18 t28 t38) (vrw (zV os) ls8 ([42] :: ls8.drop (ls8.length - dp9)) 5)) (vov (zV os) top ls8))) := zif_le (zLe.rf _) (vpr_le (zV os) top (zscu se) _ _)
                            have hpaU := zPh_le (os := os) (k := k) hleU
                            have hpdU := zPc_le hleU
                            have hph := zPh_1 (os := os) (k := k) (W := zWt t18 t28 t38) hvl
                            have hpc := zPc_1 (W := zWt t18 t28 t38) hvl
                            rw [hl8.1] at hph
                            have hlB : t18.length + (sX (oS (oe os oi) j5)).length < 2000 := by have q := (hB9.le (hleU.tr hleT)).1; unfold w1 at q; dsimp only at q; rw [List.length_append, hl8.1, hvl] at q; exact q
                            obtain ⟨kt5, cap5, ff5, hl51, hd51, h051, hc51, hz51, hf51⟩ := hsr5.2.2.1.1.un2 (by rw [List.length_map]; exact hd0)
                            rw [List.length_map] at hl51 hc51
                            refine lv_astore (lv' := [(9, .ref (sA (oS (oe os oi) j5))), (8, .ref (oA (oe os oi))), (7, .ref qs), (6, .int 0), (5, .int (nI dp9)), (4, .null), (0, .ref (k 0)), (2, .ref a8), (3, .int (nI n8))]) hx hb d_An_follow_196 hl (by decide) rfl (fun ls hl => ?_)
                            refine lv_aload hx hb d_An_follow_198 (lv_at hl 0 rfl) ?_
                            refine lv_ifnonnull (tgt := 214) hx hb d_An_follow_200 (by decide) ?_
                            refine lv_aload_n hx hb d_An_follow_214 rfl (lv_at hl 6 rfl) ?_
                            refine zg_get (ci := 1) (C := "ZoneAnswers$Answer") (T := T_An) (N := 6) hx hb hts zi_An hown hK hG ha1S rfl 1 (by decide) (hts _ w_685) (fun _ h9 => h9) rfl d_An_follow_215 ?_
                            refine lv_aload_n hx hb d_An_follow_218 rfl (lv_at hl 7 rfl) ?_
                            refine lv_aload hx hb d_An_follow_219 (lv_at hl 0 rfl) ?_
                            refine lv_aload hx hb d_An_follow_221 (lv_at hl 0 rfl) ?_
                            refine zg_get (ci := 5) (C := "ZoneAnswers$Rrset") (T := T_Rr) (N := 3) hx hb hts zi_Rr hown hK hG hsr5.1 rfl 1 (by decide) (hts _ w_623) (fun _ h9 => h9) rfl d_An_follow_223 ?_
                            have hiA := hoi
                            have hsA := hj5
                            have hsrA := (hz3S.2 _ (oe_mem hiA)).2.2.2.2 _ (oS_mem hsA)
                            have hadA := t_Se_addSet l E G128 (k 2) (k 5) d18 1 (k 8) roS t18 hs1S a8 ls8 hNS (oA (oe os oi)) (oS (oe os oi) j5) hsrA (sU (oS (oe os oi) j5)) hlB
                            have hGo226 := hG
                            refine zk_v (va_runV (As := [.ref a8, .ref (sA (oS (oe os oi) j5)), .int (sU (oS (oe os oi) j5))]) (rest := []) ⟨hx, hb, hml, hown, hts⟩ (hadA) (zcV 3 hts w_1033 w_1034 w_1035 w_29 w_1036 (by decide +kernel) ⟨Nat.le_of_ble_eq_true rfl, Nat.le_of_ble_eq_true rfl⟩) (zc_preV hbase hK hN hQ hG hS hs1S.1.1 rfl) rfl rfl hl.1 rfl (lv_room (Nat.le_of_ble_eq_true rfl)) d_An_follow_226 ⟨(by dsimp only; omega), (by dsimp only; omega)⟩) hS (fun G226 H locs hp226 hG hS => ?_)
                            obtain ⟨ro_226, dd_226, ts_226, hES_226, hf0_226, hR0_226⟩ := hp226
                            have hE_226q : G226 (E.2.2.2 0) = none := hQ.out hG
                            have hC_226 := hCS.s1 (hQ.out hGo226) hE_226q hf0_226 hES_226 (zdt_of hR0_226 (hdw _ (oe_mem hiA) _ (oS_mem hsA)))
                            have hf_226 : zfr roS zKa G128 ro_226 G226 := (zfr.rf (r := roS) (G := G128)).tr (hf0_226.w zKs_a)
                            have hR_226 := tV_of hR0_226
                            have hW_226 : zWt (t18 ++ ts_226) t28 t38 = w1 (zWt t18 t28 t38) (vrw (zV os) ls8 ([42] :: ls8.drop (ls8.length - dp9)) 5) := by rw [zWt_1, hR_226]; rw [hvr, ht5]
                            have hE_226 : G226 (E.2.2.2 0) = none := hQ.out hG
                            obtain ⟨⟨hz1_226, hz2_226, hz3_226, hz4_226, hz5_226, soa_226, u9_226, hz6_226, hz7_226, hz8_226, hz9_226, hzA_226⟩, ⟨ha1_226, ha2_226, hs1_226, hs2_226, hs3_226⟩, hT1_226⟩ := id hC_226
                            obtain ⟨bo_226, fo_226, hno1_226, hno2_226, hno3_226, hno4_226, hno5_226, -⟩ := id hz4_226
                            have hN_a8_226 : zNR E G226 ro_226 a8 ls8 := hNS.fr hf_226 zKa_0
                            obtain ⟨b_a8_226, f_a8_226, hq1_a8_226, hq2_a8_226, hq3_a8_226, hq4_a8_226, hq5_a8_226, -⟩ := id hN_a8_226
                            have hN_qs_226 : zNR E G226 ro_226 qs ([42] :: ls8.drop (ls8.length - dp9)) := hNq.fr hf_226 zKa_0
                            obtain ⟨b_qs_226, f_qs_226, hq1_qs_226, hq2_qs_226, hq3_qs_226, hq4_qs_226, hq5_qs_226, -⟩ := id hN_qs_226
                            have hl_226 := zWt_l (t18 ++ ts_226) t28 t38
                            refine lv_iload hx hb d_An_follow_229 (lv_at hl 3 rfl) ?_
                            refine lv_if_ne (tgt := 246) hx hb d_An_follow_231 (by decide) (fun c231 => ?_) (fun c231 => ?_)
                            · have b231 : ¬ 0 = 0 := fun q => c231 ((nI_eq (a := 0) (b := 0) (by omega) (by omega)).mpr q)
                              exact absurd rfl b231
                            · have b231 : 0 = 0 := (nI_eq (a := 0) (b := 0) (by omega) (by omega)).mp c231
                              refine lv_aload_n hx hb d_An_follow_234 rfl (lv_at hl 6 rfl) ?_
                              refine lv_aload_n hx hb d_An_follow_235 rfl (lv_at hl 6 rfl) ?_
                              refine zg_get (ci := 1) (C := "ZoneAnswers$Answer") (T := T_An) (N := 6) hx hb hts zi_An hown hK hG ha1_226 rfl 0 (by decide) (hts _ w_684) (fun _ h9 => h9) rfl d_An_follow_236 ?_
                              refine lv_aload_n hx hb d_An_follow_239 rfl (lv_at hl 7 rfl) ?_
                              have hGo240 := hG
                              refine zk_i (va_runV (As := [.ref a8]) (rest := [.ref (k 0)]) ⟨hx, hb, hml, hown, hts⟩ (t_Zo_linkOver l E G226 (k 1) (k 11) (k 12) (k 13) (k 14) rc hz1_226 ro_226 (k 15) os hz3_226 hne hol hso a8 b_a8_226 ls8 f_a8_226 hq1_a8_226 hq2_a8_226 hq3_a8_226 hq4_a8_226 hq5_a8_226 (by rw [hGZ.2.2.2.1]; exact hGZ.lx hx8 hth)) (zcV 1 hts w_1169 w_1170 w_1171 w_3 w_1172 (by decide +kernel) ⟨Nat.le_of_ble_eq_true rfl, Nat.le_of_ble_eq_true rfl⟩) (zc_preV hbase hK hN hQ hG hS hz1_226 rfl) rfl rfl hl.1 rfl (lv_room (Nat.le_of_ble_eq_true rfl)) d_An_follow_240 ⟨(by dsimp only; omega), (by dsimp only; omega)⟩) hS (fun r240 G240 H locs hp240 hG hS => ?_)
                              obtain ⟨⟨kp240, kp0240, kp1240, kp2240, kp3240, j240, hj1240, hj2240, hj3240, ej240⟩, eg240⟩ := hp240
                              have hG : zP E G226 H := eg240 ▸ hG
                              have hov240 : vov (zV os) top ls8 = oM (oe os j240) := hGZ.ov ⟨kp1240, kp2240, kp3240⟩ (by omega) hj2240 (fun i h1 h2 => hj3240 i h1 (by omega))
                              have hjl240 : j240 < os.length := by omega
                              refine zi_as (y := nI j240) ej240 ?_
                              have hzfn := zif_n (a := w1 (zWt t18 t28 t38) (vrw (zV os) ls8 ([42] :: ls8.drop (ls8.length - dp9)) 5)) (b := vpr (zV os) top (zscu se) (w1 (zWt t18 t28 t38) (vrw (zV os) ls8 ([42] :: ls8.drop (ls8.length - dp9)) 5)) (vov (zV os) top ls8)) hth
                              rw [hzfn] at hpaT hpdT hpaU hpdU
                              have hq243 := t_An_prove l E G226 k ro_226 rc ty se os top dd_226 d28 d38 (t18 ++ ts_226) t28 t38 hC_226 hGZ hdw hzn j240 hjl240 (by rw [hW_226]; exact by rw [← hov240]; exact (by have q := hB9.le hleT; rw [zif_n hth] at q; exact q))
                              rw [hW_226] at hq243
                              rw [← hov240] at hq243
                              have hGo243 := hG
                              refine zk_v (va_runV (As := [.int (nI j240)]) (rest := []) ⟨hx, hb, hml, hown, hts⟩ (hq243) (zcV 1 hts w_1077 w_1079 wp_17 w_28 w_1080 (by decide +kernel) ⟨Nat.le_of_ble_eq_true rfl, Nat.le_of_ble_eq_true rfl⟩) (zc_preV hbase hK hN hQ hG hS ha1_226 rfl) rfl rfl hl.1 rfl (lv_room (Nat.le_of_ble_eq_true rfl)) d_An_follow_243 ⟨(by dsimp only; omega), (by dsimp only; omega)⟩) hS (fun G243 H locs hp243 hG hS => ?_)
                              obtain ⟨ro_243, d1_243, d2_243, d3_243, t1_243, t2_243, t3_243, hC_243, hf0_243, hW0_243⟩ := hp243
                              have hf_243 : zfr roS zKa G128 ro_243 G243 := hf_226.tr hf0_243
                              have hW_243 : zWt t1_243 t2_243 t3_243 = vpr (zV os) top (zscu se) (w1 (zWt t18 t28 t38) (vrw (zV os) ls8 ([42] :: ls8.drop (ls8.length - dp9)) 5)) (vov (zV os) top ls8) := hW0_243
                              have hE_243 : G243 (E.2.2.2 0) = none := hQ.out hG
                              obtain ⟨⟨hz1_243, hz2_243, hz3_243, hz4_243, hz5_243, soa_243, u9_243, hz6_243, hz7_243, hz8_243, hz9_243, hzA_243⟩, ⟨ha1_243, ha2_243, hs1_243, hs2_243, hs3_243⟩, hT1_243⟩ := id hC_243
                              obtain ⟨bo_243, fo_243, hno1_243, hno2_243, hno3_243, hno4_243, hno5_243, -⟩ := id hz4_243
                              have hN_a8_243 : zNR E G243 ro_243 a8 ls8 := hNS.fr hf_243 zKa_0
                              obtain ⟨b_a8_243, f_a8_243, hq1_a8_243, hq2_a8_243, hq3_a8_243, hq4_a8_243, hq5_a8_243, -⟩ := id hN_a8_243
                              have hN_qs_243 : zNR E G243 ro_243 qs ([42] :: ls8.drop (ls8.length - dp9)) := hNq.fr hf_243 zKa_0
                              obtain ⟨b_qs_243, f_qs_243, hq1_qs_243, hq2_qs_243, hq3_qs_243, hq4_qs_243, hq5_qs_243, -⟩ := id hN_qs_243
                              have hl_243 := zWt_l t1_243 t2_243 t3_243
                              refine lv_aload hx hb d_An_follow_246 (lv_at hl 0 rfl) ?_
                              have hsr6 := (hz3_243.2 _ (oe_mem hoi)).2.2.2.2 _ (oS_mem hj5)
                              obtain ⟨kt6, cap6, ff6, hl61, hd61, h061, hc61, hz61, hf61⟩ := hsr6.2.2.1.1.un2 (by rw [List.length_map]; exact hd0)
                              rw [List.length_map] at hl61 hc61
                              obtain ⟨bd6, yt6, hdc6, hNt6⟩ := (hsr6.2.2.2 _ (sE_mem hd0)).tg ed1
                              refine zk_q (va_runV (As := []) (rest := []) ⟨hx, hb, hml, hown, hts⟩ (t_Rr_firstTarget l E G243 (sA (oS (oe os oi) j5)) (sL (oS (oe os oi) j5)) (sT (oS (oe os oi) j5)) (sU (oS (oe os oi) j5)) hsr6.1 (sD (oS (oe os oi) j5)) (sX (oS (oe os oi) j5)).length cap6 kt6 ff6 hl61 hd61 hc61 (by omega) (sE (oS (oe os oi) j5) 0).1 bd6 (some yt6) hd0 ((hf61 0).trans (sE_at hd0)) hdc6) (zcV 0 hts w_1179 w_1180 w_1181 w_27 w_1182 (by decide +kernel) ⟨Nat.le_of_ble_eq_true rfl, Nat.le_of_ble_eq_true rfl⟩) (zc_preV hbase hK hN hQ hG hS hsr6.1 rfl) rfl rfl hl.1 rfl (lv_room (Nat.le_of_ble_eq_true rfl)) d_An_follow_248 ⟨(by dsimp only; omega), (by dsimp only; omega)⟩) hS (fun r248 G248 H locs hp248 hG hS => ?_)
                              have hG : zP E G243 H := hp248.2 ▸ hG
                              refine zr_some (a := yt6) hp248.1 ?_
                              refine lv_astore_n (lv' := [(2, .ref yt6), (9, .ref (sA (oS (oe os oi) j5))), (8, .ref (oA (oe os oi))), (7, .ref qs), (6, .int 0), (5, .int (nI dp9)), (4, .null), (0, .ref (k 0)), (3, .int (nI n8))]) hx hb d_An_follow_251 rfl hl (by decide) rfl (fun ls hl => ?_)
                              refine lv_iinc (v := nI (n8 + 1)) (lv' := [(3, .int (nI (n8 + 1))), (2, .ref yt6), (9, .ref (sA (oS (oe os oi) j5))), (8, .ref (oA (oe os oi))), (7, .ref qs), (6, .int 0), (5, .int (nI dp9)), (4, .null), (0, .ref (k 0))]) hx hb d_An_follow_252 hl (k := 8) rfl (nI_add n8 1) (by decide) rfl (fun ls hl => ?_)
                              refine lv_goto (tgt := 20) hx hb d_An_follow_255 (by decide) ?_
                              have hWx := hW_243
                              rw [zif_n hth, ← hWx] at hnx
                              have hNx8 : zNR E G243 ro_243 yt6 lsd := hNt6
                              have hleN : zLe (zWt t1 t2 t3) (zWt t1_243 t2_243 t3_243) := by rw [hWx]; exact hleW.tr ((zLe.w1 _ _).tr (vpr_le (zV os) top (zscu se) _ _))
                              refine zW_more (cells2 := zPc (zWt t1_243 t2_243 t3_243) - zPc (zWt t1 t2 t3) + 2 * (n8 + 1)) (slots2 := zPh os k (zWt t1_243 t2_243 t3_243) - zPh os k (zWt t1 t2 t3) + 300 * (n8 + 1)) (by rw [hWx]; dsimp only; omega) (by rw [hWx]; dsimp only; omega) ?_
                              exact ih G243 (n8 + 1) yt6 lsd ro_243 d1_243 d2_243 d3_243 t1_243 t2_243 t3_243 _ _ (by omega) (by omega) (hC_243) ((htS.tr hf_243)) (hNx8) (hleN) (by rw [show 9 - (n8 + 1) = m9 by omega]; exact hnx.symm) hG hS ls (lv_sub hl [8, 1, 0] rfl)
                          · have hG : zP E G128 H := eg193 ▸ hG
                            refine zr_none er193 ?_
                            have hv5 : zV os (vfd (zV os) ls8) 5 = [] := by rw [hfd, ← ho2]; exact zV_fd hGZ.1 hoi hj5n
                            refine lv_astoreN (lv' := [(9, .null), (8, .ref (oA (oe os oi))), (7, .ref qs), (6, .int 0), (5, .int (nI dp9)), (4, .null), (0, .ref (k 0)), (2, .ref a8), (3, .int (nI n8))]) hx hb d_An_follow_196 hl (by decide) rfl (fun ls hl => ?_)
                            refine lv_aloadN hx hb d_An_follow_198 (lv_at hl 0 rfl) ?_
                            refine lv_ifnonnullN hx hb d_An_follow_200 ?_
                            refine lv_aload_n hx hb d_An_follow_203 rfl (lv_at hl 6 rfl) ?_
                            refine lv_aload_n hx hb d_An_follow_204 rfl (lv_at hl 7 rfl) ?_
                            refine lv_aload hx hb d_An_follow_205 (lv_at hl 2 rfl) ?_
                            refine lv_aload hx hb d_An_follow_207 (lv_at hl 1 rfl) ?_
                            have htl := vfo_tell (V := (zV os)) (top := top) (sec := (zscu se)) (t := ty) (n := m9) (W := zWt t18 t28 t38) hx8 hvn (Or.inr hvD) (Or.inr (Or.inr hv5))
                            rw [hrem, hfd] at htl
                            have hlr := vtl_le (zV os) top (zscu se) (zWt t18 t28 t38) ls8 ([42] :: ls8.drop (ls8.length - dp9)) ty
                            have hpar := zPh_le (os := os) (k := k) hlr
                            have hpdr := zPc_le hlr
                            have hphr : zPh os k (vfo (zV os) top (zscu se) ty 9 (zWt t1 t2 t3) ls1).2 = zPh os k (vtl (zV os) top (zscu se) (zWt t18 t28 t38) ls8 ([42] :: ls8.drop (ls8.length - dp9)) ty) := by rw [htl]
                            have hpcr : zPc (vfo (zV os) top (zscu se) ty 9 (zWt t1 t2 t3) ls1).2 = zPc (vtl (zV os) top (zscu se) (zWt t18 t28 t38) ls8 ([42] :: ls8.drop (ls8.length - dp9)) ty) := by rw [htl]
                            have hq209 := t_An_tell l E G128 k roS rc ty se os top d18 d28 d38 t18 t28 t38 hCS hGZ hdw hzn a8 ls8 hNS qs ([42] :: ls8.drop (ls8.length - dp9)) hNq (fun _ => hGZ.lx hx8 hth) oi hoi ho2 (by have q := hB9; rw [htl] at q; exact q)
                            have hGo209 := hG
                            refine zk_v (va_runV (As := [.ref a8, .ref qs, .ref (oA (oe os oi))]) (rest := []) ⟨hx, hb, hml, hown, hts⟩ (hq209) (zcV 3 hts w_1173 w_1175 wp_23 w_28 w_1176 (by decide +kernel) ⟨Nat.le_of_ble_eq_true rfl, Nat.le_of_ble_eq_true rfl⟩) (zc_preV hbase hK hN hQ hG hS ha1S rfl) rfl rfl hl.1 rfl (lv_room (Nat.le_of_ble_eq_true rfl)) d_An_follow_209 ⟨(by dsimp only; omega), (by dsimp only; omega)⟩) hS (fun G209 H locs hp209 hG hS => ?_)
                            obtain ⟨ro_209, d1_209, d2_209, d3_209, t1_209, t2_209, t3_209, hC_209, hf0_209, hW0_209⟩ := hp209
                            have hf_209 : zfr roS zKa G128 ro_209 G209 := (zfr.rf (r := roS) (G := G128)).tr hf0_209
                            have hW_209 : zWt t1_209 t2_209 t3_209 = vtl (zV os) top (zscu se) (zWt t18 t28 t38) ls8 ([42] :: ls8.drop (ls8.length - dp9)) ty := hW0_209
                            have hE_209 : G209 (E.2.2.2 0) = none := hQ.out hG
                            obtain ⟨⟨hz1_209, hz2_209, hz3_209, hz4_209, hz5_209, soa_209, u9_209, hz6_209, hz7_209, hz8_209, hz9_209, hzA_209⟩, ⟨ha1_209, ha2_209, hs1_209, hs2_209, hs3_209⟩, hT1_209⟩ := id hC_209
                            obtain ⟨bo_209, fo_209, hno1_209, hno2_209, hno3_209, hno4_209, hno5_209, -⟩ := id hz4_209
                            have hN_a8_209 : zNR E G209 ro_209 a8 ls8 := hNS.fr hf_209 zKa_0
                            obtain ⟨b_a8_209, f_a8_209, hq1_a8_209, hq2_a8_209, hq3_a8_209, hq4_a8_209, hq5_a8_209, -⟩ := id hN_a8_209
                            have hN_qs_209 : zNR E G209 ro_209 qs ([42] :: ls8.drop (ls8.length - dp9)) := hNq.fr hf_209 zKa_0
                            obtain ⟨b_qs_209, f_qs_209, hq1_qs_209, hq2_qs_209, hq3_qs_209, hq4_qs_209, hq5_qs_209, -⟩ := id hN_qs_209
                            have hl_209 := zWt_l t1_209 t2_209 t3_209
                            refine lv_iconst (v := 0) hx hb d_An_follow_212 (by decide) ?_
                            exact hret _ _ _ _ _ _ _ _ _ hr (rfl) (⟨ro_209, d1_209, d2_209, d3_209, t1_209, t2_209, t3_209, hC_209, (htS.tr hf_209), Or.inr ⟨hxt, (congrArg Prod.fst (htl)).symm, hW_209.trans (congrArg Prod.snd (htl)).symm⟩⟩) hG hS (by dsimp only; omega) (by dsimp only; omega) d_An_follow_213
                        · refine lv_null hx hb d_An_follow_186 ?_
                          refine lv_goto (tgt := 196) hx hb d_An_follow_187 (by decide) ?_
                          refine lv_astoreN (lv' := [(9, .null), (8, .ref (oA (oe os oi))), (7, .ref qs), (6, .int 0), (5, .int (nI dp9)), (4, .null), (0, .ref (k 0)), (2, .ref a8), (3, .int (nI n8))]) hx hb d_An_follow_196 hl (by decide) rfl (fun ls hl => ?_)
                          refine lv_aloadN hx hb d_An_follow_198 (lv_at hl 0 rfl) ?_
                          refine lv_ifnonnullN hx hb d_An_follow_200 ?_
                          refine lv_aload_n hx hb d_An_follow_203 rfl (lv_at hl 6 rfl) ?_
                          refine lv_aload_n hx hb d_An_follow_204 rfl (lv_at hl 7 rfl) ?_
                          refine lv_aload hx hb d_An_follow_205 (lv_at hl 2 rfl) ?_
                          refine lv_aload hx hb d_An_follow_207 (lv_at hl 1 rfl) ?_
                          have htl := vfo_tell (V := (zV os)) (top := top) (sec := (zscu se)) (t := ty) (n := m9) (W := zWt t18 t28 t38) hx8 hvn (Or.inr hvD) (Or.inr (Or.inl c183))
                          rw [hrem, hfd] at htl
                          have hlr := vtl_le (zV os) top (zscu se) (zWt t18 t28 t38) ls8 ([42] :: ls8.drop (ls8.length - dp9)) ty
                          have hpar := zPh_le (os := os) (k := k) hlr
                          have hpdr := zPc_le hlr
                          have hphr : zPh os k (vfo (zV os) top (zscu se) ty 9 (zWt t1 t2 t3) ls1).2 = zPh os k (vtl (zV os) top (zscu se) (zWt t18 t28 t38) ls8 ([42] :: ls8.drop (ls8.length - dp9)) ty) := by rw [htl]
                          have hpcr : zPc (vfo (zV os) top (zscu se) ty 9 (zWt t1 t2 t3) ls1).2 = zPc (vtl (zV os) top (zscu se) (zWt t18 t28 t38) ls8 ([42] :: ls8.drop (ls8.length - dp9)) ty) := by rw [htl]
                          have hq209 := t_An_tell l E G128 k roS rc ty se os top d18 d28 d38 t18 t28 t38 hCS hGZ hdw hzn a8 ls8 hNS qs ([42] :: ls8.drop (ls8.length - dp9)) hNq (fun _ => hGZ.lx hx8 hth) oi hoi ho2 (by have q := hB9; rw [htl] at q; exact q)
                          have hGo209 := hG
                          refine zk_v (va_runV (As := [.ref a8, .ref qs, .ref (oA (oe os oi))]) (rest := []) ⟨hx, hb, hml, hown, hts⟩ (hq209) (zcV 3 hts w_1173 w_1175 wp_23 w_28 w_1176 (by decide +kernel) ⟨Nat.le_of_ble_eq_true rfl, Nat.le_of_ble_eq_true rfl⟩) (zc_preV hbase hK hN hQ hG hS ha1S rfl) rfl rfl hl.1 rfl (lv_room (Nat.le_of_ble_eq_true rfl)) d_An_follow_209 ⟨(by dsimp only; omega), (by dsimp only; omega)⟩) hS (fun G209 H locs hp209 hG hS => ?_)
                          obtain ⟨ro_209, d1_209, d2_209, d3_209, t1_209, t2_209, t3_209, hC_209, hf0_209, hW0_209⟩ := hp209
                          have hf_209 : zfr roS zKa G128 ro_209 G209 := (zfr.rf (r := roS) (G := G128)).tr hf0_209
                          have hW_209 : zWt t1_209 t2_209 t3_209 = vtl (zV os) top (zscu se) (zWt t18 t28 t38) ls8 ([42] :: ls8.drop (ls8.length - dp9)) ty := hW0_209
                          have hE_209 : G209 (E.2.2.2 0) = none := hQ.out hG
                          obtain ⟨⟨hz1_209, hz2_209, hz3_209, hz4_209, hz5_209, soa_209, u9_209, hz6_209, hz7_209, hz8_209, hz9_209, hzA_209⟩, ⟨ha1_209, ha2_209, hs1_209, hs2_209, hs3_209⟩, hT1_209⟩ := id hC_209
                          obtain ⟨bo_209, fo_209, hno1_209, hno2_209, hno3_209, hno4_209, hno5_209, -⟩ := id hz4_209
                          have hN_a8_209 : zNR E G209 ro_209 a8 ls8 := hNS.fr hf_209 zKa_0
                          obtain ⟨b_a8_209, f_a8_209, hq1_a8_209, hq2_a8_209, hq3_a8_209, hq4_a8_209, hq5_a8_209, -⟩ := id hN_a8_209
                          have hN_qs_209 : zNR E G209 ro_209 qs ([42] :: ls8.drop (ls8.length - dp9)) := hNq.fr hf_209 zKa_0
                          obtain ⟨b_qs_209, f_qs_209, hq1_qs_209, hq2_qs_209, hq3_qs_209, hq4_qs_209, hq5_qs_209, -⟩ := id hN_qs_209
                          have hl_209 := zWt_l t1_209 t2_209 t3_209
                          refine lv_iconst (v := 0) hx hb d_An_follow_212 (by decide) ?_
                          exact hret _ _ _ _ _ _ _ _ _ hr (rfl) (⟨ro_209, d1_209, d2_209, d3_209, t1_209, t2_209, t3_209, hC_209, (htS.tr hf_209), Or.inr ⟨hxt, (congrArg Prod.fst (htl)).symm, hW_209.trans (congrArg Prod.snd (htl)).symm⟩⟩) hG hS (by dsimp only; omega) (by dsimp only; omega) d_An_follow_213
                  · have hG : zP E G128 H := eg139 ▸ hG
                    refine zr_none er139 ?_
                    have hvD : ¬ vD (zV os) (vfd (zV os) ls8) := fun z => by obtain ⟨i, hi, e9⟩ := vD_ix z; exact hno i hi (by rw [e9, hfd])
                    refine lv_astoreN (lv' := [(8, .null), (7, .ref qs), (6, .int 0), (5, .int (nI dp9)), (4, .null), (0, .ref (k 0)), (2, .ref a8), (3, .int (nI n8))]) hx hb d_An_follow_142 hl (by decide) rfl (fun ls hl => ?_)
                    refine lv_iload hx hb d_An_follow_144 (lv_at hl 2 rfl) ?_
                    refine lv_if_ne (tgt := 163) hx hb d_An_follow_146 (by decide) (fun c146 => ?_) (fun c146 => ?_)
                    · have b146 : ¬ 0 = 0 := fun q => c146 ((nI_eq (a := 0) (b := 0) (by omega) (by omega)).mpr q)
                      exact absurd rfl b146
                    · have b146 : 0 = 0 := (nI_eq (a := 0) (b := 0) (by omega) (by omega)).mp c146
                      refine lv_aloadN hx hb d_An_follow_149 (lv_at hl 0 rfl) ?_
                      refine lv_ifnonnullN hx hb d_An_follow_151 ?_
                      refine lv_aload_n hx hb d_An_follow_154 rfl (lv_at hl 5 rfl) ?_
                      refine lv_aload_n hx hb d_An_follow_155 rfl (lv_at hl 6 rfl) ?_
                      refine lv_aload hx hb d_An_follow_156 (lv_at hl 1 rfl) ?_
                      have hdn := vfo_deny (V := (zV os)) (top := top) (sec := (zscu se)) (t := ty) (n := m9) (W := zWt t18 t28 t38) hx8 hvn hth hvD
                      rw [hrem] at hdn
                      have hdn2 := hdn
                      rw [hfd] at hdn2
                      have hlr := vdn_le (zV os) top (zscu se) (zWt t18 t28 t38) ls8 ([42] :: ls8.drop (ls8.length - dp9))
                      have hpar := zPh_le (os := os) (k := k) hlr
                      have hpdr := zPc_le hlr
                      have hphr : zPh os k (vfo (zV os) top (zscu se) ty 9 (zWt t1 t2 t3) ls1).2 = zPh os k (vdn (zV os) top (zscu se) (zWt t18 t28 t38) ls8 ([42] :: ls8.drop (ls8.length - dp9))) := by rw [hdn, hfd]
                      have hpcr : zPc (vfo (zV os) top (zscu se) ty 9 (zWt t1 t2 t3) ls1).2 = zPc (vdn (zV os) top (zscu se) (zWt t18 t28 t38) ls8 ([42] :: ls8.drop (ls8.length - dp9))) := by rw [hdn, hfd]
                      have hq158 := t_An_deny l E G128 k roS rc ty se os top d18 d28 d38 t18 t28 t38 hCS hGZ hdw hzn a8 ls8 hNS qs ([42] :: ls8.drop (ls8.length - dp9)) hNq (hGZ.lx hx8 hth) (hGZ.lf hx8 hdp2).2 (by have q := hB9; rw [hdn, hfd] at q; exact q)
                      have hGo158 := hG
                      refine zk_v (va_runV (As := [.ref a8, .ref qs]) (rest := []) ⟨hx, hb, hml, hown, hts⟩ (hq158) (zcV 2 hts w_1157 w_1159 wp_21 w_28 w_1160 (by decide +kernel) ⟨Nat.le_of_ble_eq_true rfl, Nat.le_of_ble_eq_true rfl⟩) (zc_preV hbase hK hN hQ hG hS ha1S rfl) rfl rfl hl.1 rfl (lv_room (Nat.le_of_ble_eq_true rfl)) d_An_follow_158 ⟨(by dsimp only; omega), (by dsimp only; omega)⟩) hS (fun G158 H locs hp158 hG hS => ?_)
                      obtain ⟨ro_158, d1_158, d2_158, d3_158, t1_158, t2_158, t3_158, hC_158, hf0_158, hW0_158⟩ := hp158
                      have hf_158 : zfr roS zKa G128 ro_158 G158 := (zfr.rf (r := roS) (G := G128)).tr hf0_158
                      have hW_158 : zWt t1_158 t2_158 t3_158 = vdn (zV os) top (zscu se) (zWt t18 t28 t38) ls8 ([42] :: ls8.drop (ls8.length - dp9)) := hW0_158
                      have hE_158 : G158 (E.2.2.2 0) = none := hQ.out hG
                      obtain ⟨⟨hz1_158, hz2_158, hz3_158, hz4_158, hz5_158, soa_158, u9_158, hz6_158, hz7_158, hz8_158, hz9_158, hzA_158⟩, ⟨ha1_158, ha2_158, hs1_158, hs2_158, hs3_158⟩, hT1_158⟩ := id hC_158
                      obtain ⟨bo_158, fo_158, hno1_158, hno2_158, hno3_158, hno4_158, hno5_158, -⟩ := id hz4_158
                      have hN_a8_158 : zNR E G158 ro_158 a8 ls8 := hNS.fr hf_158 zKa_0
                      obtain ⟨b_a8_158, f_a8_158, hq1_a8_158, hq2_a8_158, hq3_a8_158, hq4_a8_158, hq5_a8_158, -⟩ := id hN_a8_158
                      have hN_qs_158 : zNR E G158 ro_158 qs ([42] :: ls8.drop (ls8.length - dp9)) := hNq.fr hf_158 zKa_0
                      obtain ⟨b_qs_158, f_qs_158, hq1_qs_158, hq2_qs_158, hq3_qs_158, hq4_qs_158, hq5_qs_158, -⟩ := id hN_qs_158
                      have hl_158 := zWt_l t1_158 t2_158 t3_158
                      refine lv_iconst (v := 3) hx hb d_An_follow_161 (by decide) ?_
                      exact hret _ _ _ _ _ _ _ _ _ hr (rfl) (⟨ro_158, d1_158, d2_158, d3_158, t1_158, t2_158, t3_158, hC_158, (htS.tr hf_158), Or.inr ⟨hxt, (congrArg Prod.fst (hdn2)).symm, hW_158.trans (congrArg Prod.snd (hdn2)).symm⟩⟩) hG hS (by dsimp only; omega) (by dsimp only; omega) d_An_follow_162
                · have b118 : ¬ 0 = 0 := fun q => c118 ((nI_eq (a := 0) (b := 0) (by omega) (by omega)).mpr q)
                  exact absurd rfl b118
              · have b106 : dp9 = ls8.length := (nI_eq (a := dp9) (b := ls8.length) (by omega) (by omega)).mp c106
                have hth : vth (zV os) ls8 := hdp3.mp b106
                have hfd : vfd (zV os) ls8 = ls8 := zif_y hth
                refine lv_iconst (v := 1) hx hb d_An_follow_109 (by decide) ?_
                refine lv_goto (tgt := 114) hx hb d_An_follow_110 (by decide) ?_
                refine lv_istore (lv' := [(6, .int 1), (5, .int (nI dp9)), (4, .null), (0, .ref (k 0)), (2, .ref a8), (3, .int (nI n8))]) hx hb d_An_follow_114 hl (by decide) rfl (fun ls hl => ?_)
                refine lv_iload hx hb d_An_follow_116 (lv_at hl 0 rfl) ?_
                refine lv_if_eq (tgt := 125) hx hb d_An_follow_118 (by decide) (fun c118 => ?_) (fun c118 => ?_)
                · have b118 : 1 = 0 := (nI_eq (a := 1) (b := 0) (by omega) (by omega)).mp c118
                  exact absurd b118 (by decide)
                · have b118 : ¬ 1 = 0 := fun q => c118 ((nI_eq (a := 1) (b := 0) (by omega) (by omega)).mpr q)
                  refine lv_aload_n hx hb d_An_follow_121 rfl (lv_at hl 4 rfl) ?_
                  refine lv_goto (tgt := 131) hx hb d_An_follow_122 (by decide) ?_
                  refine lv_astore (lv' := [(7, .ref a8), (6, .int 1), (5, .int (nI dp9)), (4, .null), (0, .ref (k 0)), (2, .ref a8), (3, .int (nI n8))]) hx hb d_An_follow_131 hl (by decide) rfl (fun ls hl => ?_)
                  refine lv_aload_n hx hb d_An_follow_133 rfl (lv_at hl 4 rfl) ?_
                  refine zg_get (ci := 1) (C := "ZoneAnswers$Answer") (T := T_An) (N := 6) hx hb hts zi_An hown hK hG ha18 rfl 0 (by decide) (hts _ w_684) (fun _ h9 => h9) rfl d_An_follow_134 ?_
                  refine lv_aload hx hb d_An_follow_137 (lv_at hl 0 rfl) ?_
                  have hGo139 := hG
                  refine zk_q (va_runV (As := [.ref a8]) (rest := []) ⟨hx, hb, hml, hown, hts⟩ (t_Zo_at_t l hz18 hz38 hne hso hq1_a88 hq2_a88 hq3_a88 hq4_a88 hq5_a88) (zcV 1 hts w_1137 w_880 w_881 w_3 w_882 (by decide +kernel) ⟨Nat.le_of_ble_eq_true rfl, Nat.le_of_ble_eq_true rfl⟩) (zc_preV hbase hK hN hQ hG hS hz18 rfl) rfl rfl hl.1 rfl (lv_room (Nat.le_of_ble_eq_true rfl)) d_An_follow_139 ⟨(by dsimp only; omega), (by dsimp only; omega)⟩) hS (fun r139 G139 H locs hp139 hG hS => ?_)
                  rcases hp139 with ⟨⟨oi, hoi, ho2, er139⟩ | ⟨hno, er139⟩, eg139⟩
                  · have hG : zP E Gv H := eg139 ▸ hG
                    refine zr_some (a := oA (oe os oi)) er139 ?_
                    have how9 := hz38.2 _ (oe_mem hoi)
                    have hvD : vD (zV os) (vfd (zV os) ls8) := by rw [hfd, ← ho2]; exact vD_of hGZ.1 hoi
                    refine lv_astore (lv' := [(8, .ref (oA (oe os oi))), (7, .ref a8), (6, .int 1), (5, .int (nI dp9)), (4, .null), (0, .ref (k 0)), (2, .ref a8), (3, .int (nI n8))]) hx hb d_An_follow_142 hl (by decide) rfl (fun ls hl => ?_)
                    refine lv_iload hx hb d_An_follow_144 (lv_at hl 2 rfl) ?_
                    refine lv_if_ne (tgt := 163) hx hb d_An_follow_146 (by decide) (fun c146 => ?_) (fun c146 => ?_)
                    · have b146 : ¬ 1 = 0 := fun q => c146 ((nI_eq (a := 1) (b := 0) (by omega) (by omega)).mpr q)
                      refine lv_aload hx hb d_An_follow_163 (lv_at hl 0 rfl) ?_
                      refine lv_ifnull hx hb d_An_follow_165 ?_
                      refine lv_aload_n hx hb d_An_follow_168 rfl (lv_at hl 5 rfl) ?_
                      refine zg_get (ci := 1) (C := "ZoneAnswers$Answer") (T := T_An) (N := 6) hx hb hts zi_An hown hK hG ha18 rfl 4 (by decide) (hts _ w_688) (fun _ h9 => h9) rfl d_An_follow_169 ?_
                      refine lv_iconst (v := 5) hx hb d_An_follow_172 (by decide) ?_
                      refine lv_icmp_eq (tgt := 186) hx hb d_An_follow_173 (by decide) (fun c173 => ?_) (fun c173 => ?_)
                      · refine lv_null hx hb d_An_follow_186 ?_
                        refine lv_goto (tgt := 196) hx hb d_An_follow_187 (by decide) ?_
                        refine lv_astoreN (lv' := [(9, .null), (8, .ref (oA (oe os oi))), (7, .ref a8), (6, .int 1), (5, .int (nI dp9)), (4, .null), (0, .ref (k 0)), (2, .ref a8), (3, .int (nI n8))]) hx hb d_An_follow_196 hl (by decide) rfl (fun ls hl => ?_)
                        refine lv_aloadN hx hb d_An_follow_198 (lv_at hl 0 rfl) ?_
                        refine lv_ifnonnullN hx hb d_An_follow_200 ?_
                        refine lv_aload_n hx hb d_An_follow_203 rfl (lv_at hl 6 rfl) ?_
                        refine lv_aload_n hx hb d_An_follow_204 rfl (lv_at hl 7 rfl) ?_
                        refine lv_aload hx hb d_An_follow_205 (lv_at hl 2 rfl) ?_
                        refine lv_aload hx hb d_An_follow_207 (lv_at hl 1 rfl) ?_
                        have htl := vfo_tell (V := (zV os)) (top := top) (sec := (zscu se)) (t := ty) (n := m9) (W := zWt t18 t28 t38) hx8 hvn (Or.inr hvD) (Or.inl c173)
                        rw [hrem, hfd] at htl
                        have hlr := vtl_le (zV os) top (zscu se) (zWt t18 t28 t38) ls8 ls8 ty
                        have hpar := zPh_le (os := os) (k := k) hlr
                        have hpdr := zPc_le hlr
                        have hphr : zPh os k (vfo (zV os) top (zscu se) ty 9 (zWt t1 t2 t3) ls1).2 = zPh os k (vtl (zV os) top (zscu se) (zWt t18 t28 t38) ls8 ls8 ty) := by rw [htl]
                        have hpcr : zPc (vfo (zV os) top (zscu se) ty 9 (zWt t1 t2 t3) ls1).2 = zPc (vtl (zV os) top (zscu se) (zWt t18 t28 t38) ls8 ls8 ty) := by rw [htl]
                        have hq209 := t_An_tell l E Gv k ro8 rc ty se os top d18 d28 d38 t18 t28 t38 hC8 hGZ hdw hzn a8 ls8 hN8 a8 ls8 hN8 (fun z => absurd rfl z) oi hoi ho2 (by have q := hB9; rw [htl] at q; exact q)
                        have hGo209 := hG
                        refine zk_v (va_runV (As := [.ref a8, .ref a8, .ref (oA (oe os oi))]) (rest := []) ⟨hx, hb, hml, hown, hts⟩ (hq209) (zcV 3 hts w_1173 w_1175 wp_23 w_28 w_1176 (by decide +kernel) ⟨Nat.le_of_ble_eq_true rfl, Nat.le_of_ble_eq_true rfl⟩) (zc_preV hbase hK hN hQ hG hS ha18 rfl) rfl rfl hl.1 rfl (lv_room (Nat.le_of_ble_eq_true rfl)) d_An_follow_209 ⟨(by dsimp only; omega), (by dsimp only; omega)⟩) hS (fun G209 H locs hp209 hG hS => ?_)
                        obtain ⟨ro_209, d1_209, d2_209, d3_209, t1_209, t2_209, t3_209, hC_209, hf0_209, hW0_209⟩ := hp209
                        have hf_209 : zfr ro8 zKa Gv ro_209 G209 := (zfr.rf (r := ro8) (G := Gv)).tr hf0_209
                        have hW_209 : zWt t1_209 t2_209 t3_209 = vtl (zV os) top (zscu se) (zWt t18 t28 t38) ls8 ls8 ty := hW0_209
                        have hE_209 : G209 (E.2.2.2 0) = none := hQ.out hG
                        obtain ⟨⟨hz1_209, hz2_209, hz3_209, hz4_209, hz5_209, soa_209, u9_209, hz6_209, hz7_209, hz8_209, hz9_209, hzA_209⟩, ⟨ha1_209, ha2_209, hs1_209, hs2_209, hs3_209⟩, hT1_209⟩ := id hC_209
                        obtain ⟨bo_209, fo_209, hno1_209, hno2_209, hno3_209, hno4_209, hno5_209, -⟩ := id hz4_209
                        have hN_a8_209 : zNR E G209 ro_209 a8 ls8 := hN8.fr hf_209 zKa_0
                        obtain ⟨b_a8_209, f_a8_209, hq1_a8_209, hq2_a8_209, hq3_a8_209, hq4_a8_209, hq5_a8_209, -⟩ := id hN_a8_209
                        have hl_209 := zWt_l t1_209 t2_209 t3_209
                        refine lv_iconst (v := 0) hx hb d_An_follow_212 (by decide) ?_
                        exact hret _ _ _ _ _ _ _ _ _ hr (rfl) (⟨ro_209, d1_209, d2_209, d3_209, t1_209, t2_209, t3_209, hC_209, (hf8.tr hf_209), Or.inr ⟨hxt, (congrArg Prod.fst (htl)).symm, hW_209.trans (congrArg Prod.snd (htl)).symm⟩⟩) hG hS (by dsimp only; omega) (by dsimp only; omega) d_An_follow_213
                      · refine lv_aload_n hx hb d_An_follow_176 rfl (lv_at hl 5 rfl) ?_
                        refine zg_get (ci := 1) (C := "ZoneAnswers$Answer") (T := T_An) (N := 6) hx hb hts zi_An hown hK hG ha18 rfl 4 (by decide) (hts _ w_688) (fun _ h9 => h9) rfl d_An_follow_177 ?_
                        refine lv_sipush (v := 255) hx hb d_An_follow_180 (by decide) ?_
                        refine lv_icmp_ne (tgt := 190) hx hb d_An_follow_183 (by decide) (fun c183 => ?_) (fun c183 => ?_)
                        · refine lv_aload hx hb d_An_follow_190 (lv_at hl 0 rfl) ?_
                          refine lv_iconst (v := 5) hx hb d_An_follow_192 (by decide) ?_
                          have hGo193 := hG
                          refine zk_q (va_runV (As := [.int 5]) (rest := []) ⟨hx, hb, hml, hown, hts⟩ (t_Ow_find_t l how9 (hGZ.1.2 oi hoi).2.1 5) (zcV 1 hts w_1032 w_654 w_655 w_12 w_656 (by decide +kernel) ⟨Nat.le_of_ble_eq_true rfl, Nat.le_of_ble_eq_true rfl⟩) (zc_preV hbase hK hN hQ hG hS how9.1 rfl) rfl rfl hl.1 rfl (lv_room (Nat.le_of_ble_eq_true rfl)) d_An_follow_193 ⟨(by dsimp only; omega), (by dsimp only; omega)⟩) hS (fun r193 G193 H locs hp193 hG hS => ?_)
                          rcases hp193 with ⟨⟨j5, hj5, ht5, hj53, er193⟩ | ⟨hj5n, er193⟩, eg193⟩
                          · have hG : zP E Gv H := eg193 ▸ hG
                            refine zr_some (a := sA (oS (oe os oi) j5)) er193 ?_
                            have hsr5 := how9.2.2.2.2 _ (oS_mem hj5)
                            have hvr := vrw_s (x := ls8) hGZ.1 hoi hj5
                            rw [ht5, ho2] at hvr
                            have hd0 := (hGZ.1.2 oi hoi).2.2 j5 hj5
                            obtain ⟨lsd, ed1, ed2, ed3⟩ := hdw _ (oe_mem hoi) _ (oS_mem hj5) _ (sE_mem hd0) (by rw [ht5]; exact Or.inr (Or.inl rfl))
                            rw [ht5] at ed2
                            have etg : vtg 5 (sE (oS (oe os oi) j5) 0).2.1 = lsd := vnm_y ed2 ed3
                            obtain ⟨r5, hV5⟩ : ∃ r5, zV os (vfd (zV os) ls8) 5 = (sU (oS (oe os oi) j5), (sE (oS (oe os oi) j5) 0).2.1) :: r5 := by
                              rw [hfd, ← ho2, ← ht5, zV_s hGZ.1 hoi hj5]
                              cases hz : sX (oS (oe os oi) j5) with
                              | nil => rw [hz] at hd0; exact absurd hd0 (Nat.lt_irrefl _)
                              | cons y ys => exact ⟨ys.map (fun d => (sU (oS (oe os oi) j5), d.2.1)), by rw [List.map_cons]; unfold sE; rw [hz]; rfl⟩
                            have hnx := vfo_next (V := (zV os)) (top := top) (sec := (zscu se)) (t := ty) (n := m9) (W := zWt t18 t28 t38) hx8 hvn (Or.inr hvD) c173 c183 hV5
                            dsimp only at hnx
                            rw [hrem, etg, hfd] at hnx
                            have hvl : (vrw (zV os) ls8 ls8 5).length = (sX (oS (oe os oi) j5)).length := by rw [hvr, List.length_map]
                            have hleT : zLe (zif (vth (zV os) ls8) (w1 (zWt t18 t28 t38) (vrw (zV os) ls8 ls8 5)) (vpr (zV os) top (zscu se) (w1 (zWt t18 t28 t38) (vrw (zV os) ls8 ls8 5)) (vov (zV os) top ls8))) (vfo (zV os) top (zscu se) ty 9 (zWt t1 t2 t3) ls1).2 := by rw [hnx]; exact vfo_le _ _ _
                            have hpaT := zPh_le (os := os) (k := k) hleT
                            have hpdT := zPc_le hleT
                            have hleU : zLe (w1 (zWt t18 t28 t38) (vrw (zV os) ls8 ls8 5)) (zif (vth (zV os) ls8) (w1 (zWt t18 t28 t38) (vrw (zV os) ls8 ls8 5)) (vpr (zV os) top (zscu se) (w1 (zWt t18 t28 t38) (vrw (zV os) ls8 ls8 5)) (vov (zV os) top ls8))) := zif_le (zLe.rf _) (vpr_le (zV os) top (zscu se) _ _)
                            have hpaU := zPh_le (os := os) (k := k) hleU
                            have hpdU := zPc_le hleU
                            have hph := zPh_1 (os := os) (k := k) (W := zWt t18 t28 t38) hvl
                            have hpc := zPc_1 (W := zWt t18 t28 t38) hvl
                            rw [hl8.1] at hph
                            have hlB : t18.length + (sX (oS (oe os oi) j5)).length < 2000 := by have q := (hB9.le (hleU.tr hleT)).1; unfold w1 at q; dsimp only at q; rw [List.length_append, hl8.1, hvl] at q; exact q
                            obtain ⟨kt5, cap5, ff5, hl51, hd51, h051, hc51, hz51, hf51⟩ := hsr5.2.2.1.1.un2 (by rw [List.length_map]; exact hd0)
                            rw [List.length_map] at hl51 hc51
                            refine lv_astore (lv' := [(9, .ref (sA (oS (oe os oi) j5))), (8, .ref (oA (oe os oi))), (7, .ref a8), (6, .int 1), (5, .int (nI dp9)), (4, .null), (0, .ref (k 0)), (2, .ref a8), (3, .int (nI n8))]) hx hb d_An_follow_196 hl (by decide) rfl (fun ls hl => ?_)
                            refine lv_aload hx hb d_An_follow_198 (lv_at hl 0 rfl) ?_
                            refine lv_ifnonnull (tgt := 214) hx hb d_An_follow_200 (by decide) ?_
                            refine lv_aload_n hx hb d_An_follow_214 rfl (lv_at hl 6 rfl) ?_
                            refine zg_get (ci := 1) (C := "ZoneAnswers$Answer") (T := T_An) (N := 6) hx hb hts zi_An hown hK hG ha18 rfl 1 (by decide) (hts _ w_685) (fun _ h9 => h9) rfl d_An_follow_215 ?_
                            refine lv_aload_n hx hb d_An_follow_218 rfl (lv_at hl 7 rfl) ?_
                            refine lv_aload hx hb d_An_follow_219 (lv_at hl 0 rfl) ?_
                            refine lv_aload hx hb d_An_follow_221 (lv_at hl 0 rfl) ?_
                            refine zg_get (ci := 5) (C := "ZoneAnswers$Rrset") (T := T_Rr) (N := 3) hx hb hts zi_Rr hown hK hG hsr5.1 rfl 1 (by decide) (hts _ w_623) (fun _ h9 => h9) rfl d_An_follow_223 ?_
                            have hiA := hoi
                            have hsA := hj5
                            have hsrA := (hz38.2 _ (oe_mem hiA)).2.2.2.2 _ (oS_mem hsA)
                            have hadA := t_Se_addSet l E Gv (k 2) (k 5) d18 1 (k 8) ro8 t18 hs18 a8 ls8 hN8 (oA (oe os oi)) (oS (oe os oi) j5) hsrA (sU (oS (oe os oi) j5)) hlB
                            have hGo226 := hG
                            refine zk_v (va_runV (As := [.ref a8, .ref (sA (oS (oe os oi) j5)), .int (sU (oS (oe os oi) j5))]) (rest := []) ⟨hx, hb, hml, hown, hts⟩ (hadA) (zcV 3 hts w_1033 w_1034 w_1035 w_29 w_1036 (by decide +kernel) ⟨Nat.le_of_ble_eq_true rfl, Nat.le_of_ble_eq_true rfl⟩) (zc_preV hbase hK hN hQ hG hS hs18.1.1 rfl) rfl rfl hl.1 rfl (lv_room (Nat.le_of_ble_eq_true rfl)) d_An_follow_226 ⟨(by dsimp only; omega), (by dsimp only; omega)⟩) hS (fun G226 H locs hp226 hG hS => ?_)
                            obtain ⟨ro_226, dd_226, ts_226, hES_226, hf0_226, hR0_226⟩ := hp226
                            have hE_226q : G226 (E.2.2.2 0) = none := hQ.out hG
                            have hC_226 := hC8.s1 (hQ.out hGo226) hE_226q hf0_226 hES_226 (zdt_of hR0_226 (hdw _ (oe_mem hiA) _ (oS_mem hsA)))
                            have hf_226 : zfr ro8 zKa Gv ro_226 G226 := (zfr.rf (r := ro8) (G := Gv)).tr (hf0_226.w zKs_a)
                            have hR_226 := tV_of hR0_226
                            have hW_226 : zWt (t18 ++ ts_226) t28 t38 = w1 (zWt t18 t28 t38) (vrw (zV os) ls8 ls8 5) := by rw [zWt_1, hR_226]; rw [hvr, ht5]
                            have hE_226 : G226 (E.2.2.2 0) = none := hQ.out hG
                            obtain ⟨⟨hz1_226, hz2_226, hz3_226, hz4_226, hz5_226, soa_226, u9_226, hz6_226, hz7_226, hz8_226, hz9_226, hzA_226⟩, ⟨ha1_226, ha2_226, hs1_226, hs2_226, hs3_226⟩, hT1_226⟩ := id hC_226
                            obtain ⟨bo_226, fo_226, hno1_226, hno2_226, hno3_226, hno4_226, hno5_226, -⟩ := id hz4_226
                            have hN_a8_226 : zNR E G226 ro_226 a8 ls8 := hN8.fr hf_226 zKa_0
                            obtain ⟨b_a8_226, f_a8_226, hq1_a8_226, hq2_a8_226, hq3_a8_226, hq4_a8_226, hq5_a8_226, -⟩ := id hN_a8_226
                            have hl_226 := zWt_l (t18 ++ ts_226) t28 t38
                            refine lv_iload hx hb d_An_follow_229 (lv_at hl 3 rfl) ?_
                            refine lv_if_ne (tgt := 246) hx hb d_An_follow_231 (by decide) (fun c231 => ?_) (fun c231 => ?_)
                            · have b231 : ¬ 1 = 0 := fun q => c231 ((nI_eq (a := 1) (b := 0) (by omega) (by omega)).mpr q)
                              refine lv_aload hx hb d_An_follow_246 (lv_at hl 0 rfl) ?_
                              have hsr6 := (hz3_226.2 _ (oe_mem hoi)).2.2.2.2 _ (oS_mem hj5)
                              obtain ⟨kt6, cap6, ff6, hl61, hd61, h061, hc61, hz61, hf61⟩ := hsr6.2.2.1.1.un2 (by rw [List.length_map]; exact hd0)
                              rw [List.length_map] at hl61 hc61
                              obtain ⟨bd6, yt6, hdc6, hNt6⟩ := (hsr6.2.2.2 _ (sE_mem hd0)).tg ed1
                              refine zk_q (va_runV (As := []) (rest := []) ⟨hx, hb, hml, hown, hts⟩ (t_Rr_firstTarget l E G226 (sA (oS (oe os oi) j5)) (sL (oS (oe os oi) j5)) (sT (oS (oe os oi) j5)) (sU (oS (oe os oi) j5)) hsr6.1 (sD (oS (oe os oi) j5)) (sX (oS (oe os oi) j5)).length cap6 kt6 ff6 hl61 hd61 hc61 (by omega) (sE (oS (oe os oi) j5) 0).1 bd6 (some yt6) hd0 ((hf61 0).trans (sE_at hd0)) hdc6) (zcV 0 hts w_1179 w_1180 w_1181 w_27 w_1182 (by decide +kernel) ⟨Nat.le_of_ble_eq_true rfl, Nat.le_of_ble_eq_true rfl⟩) (zc_preV hbase hK hN hQ hG hS hsr6.1 rfl) rfl rfl hl.1 rfl (lv_room (Nat.le_of_ble_eq_true rfl)) d_An_follow_248 ⟨(by dsimp only; omega), (by dsimp only; omega)⟩) hS (fun r248 G248 H locs hp248 hG hS => ?_)
                              have hG : zP E G226 H := hp248.2 ▸ hG
                              refine zr_some (a := yt6) hp248.1 ?_
                              refine lv_astore_n (lv' := [(2, .ref yt6), (9, .ref (sA (oS (oe os oi) j5))), (8, .ref (oA (oe os oi))), (7, .ref a8), (6, .int 1), (5, .int (nI dp9)), (4, .null), (0, .ref (k 0)), (3, .int (nI n8))]) hx hb d_An_follow_251 rfl hl (by decide) rfl (fun ls hl => ?_)
                              refine lv_iinc (v := nI (n8 + 1)) (lv' := [(3, .int (nI (n8 + 1))), (2, .ref yt6), (9, .ref (sA (oS (oe os oi) j5))), (8, .ref (oA (oe os oi))), (7, .ref a8), (6, .int 1), (5, .int (nI dp9)), (4, .null), (0, .ref (k 0))]) hx hb d_An_follow_252 hl (k := 8) rfl (nI_add n8 1) (by decide) rfl (fun ls hl => ?_)
                              refine lv_goto (tgt := 20) hx hb d_An_follow_255 (by decide) ?_
                              have hWx := hW_226
                              rw [zif_y hth, ← hWx] at hnx
                              have hNx8 : zNR E G226 ro_226 yt6 lsd := hNt6
                              have hleN : zLe (zWt t1 t2 t3) (zWt (t18 ++ ts_226) t28 t38) := by rw [hWx]; exact hleW.tr (zLe.w1 _ _)
                              refine zW_more (cells2 := zPc (zWt (t18 ++ ts_226) t28 t38) - zPc (zWt t1 t2 t3) + 2 * (n8 + 1)) (slots2 := zPh os k (zWt (t18 ++ ts_226) t28 t38) - zPh os k (zWt t1 t2 t3) + 300 * (n8 + 1)) (by rw [hWx]; dsimp only; omega) (by rw [hWx]; dsimp only; omega) ?_
                              exact ih G226 (n8 + 1) yt6 lsd ro_226 dd_226 d28 d38 (t18 ++ ts_226) t28 t38 _ _ (by omega) (by omega) (hC_226) ((hf8.tr hf_226)) (hNx8) (hleN) (by rw [show 9 - (n8 + 1) = m9 by omega]; exact hnx.symm) hG hS ls (lv_sub hl [8, 1, 0] rfl)
                            · have b231 : 1 = 0 := (nI_eq (a := 1) (b := 0) (by omega) (by omega)).mp c231
                              exact absurd b231 (by decide)
                          · have hG : zP E Gv H := eg193 ▸ hG
                            refine zr_none er193 ?_
                            have hv5 : zV os (vfd (zV os) ls8) 5 = [] := by rw [hfd, ← ho2]; exact zV_fd hGZ.1 hoi hj5n
                            refine lv_astoreN (lv' := [(9, .null), (8, .ref (oA (oe os oi))), (7, .ref a8), (6, .int 1), (5, .int (nI dp9)), (4, .null), (0, .ref (k 0)), (2, .ref a8), (3, .int (nI n8))]) hx hb d_An_follow_196 hl (by decide) rfl (fun ls hl => ?_)
                            refine lv_aloadN hx hb d_An_follow_198 (lv_at hl 0 rfl) ?_
                            refine lv_ifnonnullN hx hb d_An_follow_200 ?_
                            refine lv_aload_n hx hb d_An_follow_203 rfl (lv_at hl 6 rfl) ?_
                            refine lv_aload_n hx hb d_An_follow_204 rfl (lv_at hl 7 rfl) ?_
                            refine lv_aload hx hb d_An_follow_205 (lv_at hl 2 rfl) ?_
                            refine lv_aload hx hb d_An_follow_207 (lv_at hl 1 rfl) ?_
                            have htl := vfo_tell (V := (zV os)) (top := top) (sec := (zscu se)) (t := ty) (n := m9) (W := zWt t18 t28 t38) hx8 hvn (Or.inr hvD) (Or.inr (Or.inr hv5))
                            rw [hrem, hfd] at htl
                            have hlr := vtl_le (zV os) top (zscu se) (zWt t18 t28 t38) ls8 ls8 ty
                            have hpar := zPh_le (os := os) (k := k) hlr
                            have hpdr := zPc_le hlr
                            have hphr : zPh os k (vfo (zV os) top (zscu se) ty 9 (zWt t1 t2 t3) ls1).2 = zPh os k (vtl (zV os) top (zscu se) (zWt t18 t28 t38) ls8 ls8 ty) := by rw [htl]
                            have hpcr : zPc (vfo (zV os) top (zscu se) ty 9 (zWt t1 t2 t3) ls1).2 = zPc (vtl (zV os) top (zscu se) (zWt t18 t28 t38) ls8 ls8 ty) := by rw [htl]
                            have hq209 := t_An_tell l E Gv k ro8 rc ty se os top d18 d28 d38 t18 t28 t38 hC8 hGZ hdw hzn a8 ls8 hN8 a8 ls8 hN8 (fun z => absurd rfl z) oi hoi ho2 (by have q := hB9; rw [htl] at q; exact q)
                            have hGo209 := hG
                            refine zk_v (va_runV (As := [.ref a8, .ref a8, .ref (oA (oe os oi))]) (rest := []) ⟨hx, hb, hml, hown, hts⟩ (hq209) (zcV 3 hts w_1173 w_1175 wp_23 w_28 w_1176 (by decide +kernel) ⟨Nat.le_of_ble_eq_true rfl, Nat.le_of_ble_eq_true rfl⟩) (zc_preV hbase hK hN hQ hG hS ha18 rfl) rfl rfl hl.1 rfl (lv_room (Nat.le_of_ble_eq_true rfl)) d_An_follow_209 ⟨(by dsimp only; omega), (by dsimp only; omega)⟩) hS (fun G209 H locs hp209 hG hS => ?_)
                            obtain ⟨ro_209, d1_209, d2_209, d3_209, t1_209, t2_209, t3_209, hC_209, hf0_209, hW0_209⟩ := hp209
                            have hf_209 : zfr ro8 zKa Gv ro_209 G209 := (zfr.rf (r := ro8) (G := Gv)).tr hf0_209
                            have hW_209 : zWt t1_209 t2_209 t3_209 = vtl (zV os) top (zscu se) (zWt t18 t28 t38) ls8 ls8 ty := hW0_209
                            have hE_209 : G209 (E.2.2.2 0) = none := hQ.out hG
                            obtain ⟨⟨hz1_209, hz2_209, hz3_209, hz4_209, hz5_209, soa_209, u9_209, hz6_209, hz7_209, hz8_209, hz9_209, hzA_209⟩, ⟨ha1_209, ha2_209, hs1_209, hs2_209, hs3_209⟩, hT1_209⟩ := id hC_209
                            obtain ⟨bo_209, fo_209, hno1_209, hno2_209, hno3_209, hno4_209, hno5_209, -⟩ := id hz4_209
                            have hN_a8_209 : zNR E G209 ro_209 a8 ls8 := hN8.fr hf_209 zKa_0
                            obtain ⟨b_a8_209, f_a8_209, hq1_a8_209, hq2_a8_209, hq3_a8_209, hq4_a8_209, hq5_a8_209, -⟩ := id hN_a8_209
                            have hl_209 := zWt_l t1_209 t2_209 t3_209
                            refine lv_iconst (v := 0) hx hb d_An_follow_212 (by decide) ?_
                            exact hret _ _ _ _ _ _ _ _ _ hr (rfl) (⟨ro_209, d1_209, d2_209, d3_209, t1_209, t2_209, t3_209, hC_209, (hf8.tr hf_209), Or.inr ⟨hxt, (congrArg Prod.fst (htl)).symm, hW_209.trans (congrArg Prod.snd (htl)).symm⟩⟩) hG hS (by dsimp only; omega) (by dsimp only; omega) d_An_follow_213
                        · refine lv_null hx hb d_An_follow_186 ?_
                          refine lv_goto (tgt := 196) hx hb d_An_follow_187 (by decide) ?_
                          refine lv_astoreN (lv' := [(9, .null), (8, .ref (oA (oe os oi))), (7, .ref a8), (6, .int 1), (5, .int (nI dp9)), (4, .null), (0, .ref (k 0)), (2, .ref a8), (3, .int (nI n8))]) hx hb d_An_follow_196 hl (by decide) rfl (fun ls hl => ?_)
                          refine lv_aloadN hx hb d_An_follow_198 (lv_at hl 0 rfl) ?_
                          refine lv_ifnonnullN hx hb d_An_follow_200 ?_
                          refine lv_aload_n hx hb d_An_follow_203 rfl (lv_at hl 6 rfl) ?_
                          refine lv_aload_n hx hb d_An_follow_204 rfl (lv_at hl 7 rfl) ?_
                          refine lv_aload hx hb d_An_follow_205 (lv_at hl 2 rfl) ?_
                          refine lv_aload hx hb d_An_follow_207 (lv_at hl 1 rfl) ?_
                          have htl := vfo_tell (V := (zV os)) (top := top) (sec := (zscu se)) (t := ty) (n := m9) (W := zWt t18 t28 t38) hx8 hvn (Or.inr hvD) (Or.inr (Or.inl c183))
                          rw [hrem, hfd] at htl
                          have hlr := vtl_le (zV os) top (zscu se) (zWt t18 t28 t38) ls8 ls8 ty
                          have hpar := zPh_le (os := os) (k := k) hlr
                          have hpdr := zPc_le hlr
                          have hphr : zPh os k (vfo (zV os) top (zscu se) ty 9 (zWt t1 t2 t3) ls1).2 = zPh os k (vtl (zV os) top (zscu se) (zWt t18 t28 t38) ls8 ls8 ty) := by rw [htl]
                          have hpcr : zPc (vfo (zV os) top (zscu se) ty 9 (zWt t1 t2 t3) ls1).2 = zPc (vtl (zV os) top (zscu se) (zWt t18 t28 t38) ls8 ls8 ty) := by rw [htl]
                          have hq209 := t_An_tell l E Gv k ro8 rc ty se os top d18 d28 d38 t18 t28 t38 hC8 hGZ hdw hzn a8 ls8 hN8 a8 ls8 hN8 (fun z => absurd rfl z) oi hoi ho2 (by have q := hB9; rw [htl] at q; exact q)
                          have hGo209 := hG
                          refine zk_v (va_runV (As := [.ref a8, .ref a8, .ref (oA (oe os oi))]) (rest := []) ⟨hx, hb, hml, hown, hts⟩ (hq209) (zcV 3 hts w_1173 w_1175 wp_23 w_28 w_1176 (by decide +kernel) ⟨Nat.le_of_ble_eq_true rfl, Nat.le_of_ble_eq_true rfl⟩) (zc_preV hbase hK hN hQ hG hS ha18 rfl) rfl rfl hl.1 rfl (lv_room (Nat.le_of_ble_eq_true rfl)) d_An_follow_209 ⟨(by dsimp only; omega), (by dsimp only; omega)⟩) hS (fun G209 H locs hp209 hG hS => ?_)
                          obtain ⟨ro_209, d1_209, d2_209, d3_209, t1_209, t2_209, t3_209, hC_209, hf0_209, hW0_209⟩ := hp209
                          have hf_209 : zfr ro8 zKa Gv ro_209 G209 := (zfr.rf (r := ro8) (G := Gv)).tr hf0_209
                          have hW_209 : zWt t1_209 t2_209 t3_209 = vtl (zV os) top (zscu se) (zWt t18 t28 t38) ls8 ls8 ty := hW0_209
                          have hE_209 : G209 (E.2.2.2 0) = none := hQ.out hG
                          obtain ⟨⟨hz1_209, hz2_209, hz3_209, hz4_209, hz5_209, soa_209, u9_209, hz6_209, hz7_209, hz8_209, hz9_209, hzA_209⟩, ⟨ha1_209, ha2_209, hs1_209, hs2_209, hs3_209⟩, hT1_209⟩ := id hC_209
                          obtain ⟨bo_209, fo_209, hno1_209, hno2_209, hno3_209, hno4_209, hno5_209, -⟩ := id hz4_209
                          have hN_a8_209 : zNR E G209 ro_209 a8 ls8 := hN8.fr hf_209 zKa_0
                          obtain ⟨b_a8_209, f_a8_209, hq1_a8_209, hq2_a8_209, hq3_a8_209, hq4_a8_209, hq5_a8_209, -⟩ := id hN_a8_209
                          have hl_209 := zWt_l t1_209 t2_209 t3_209
                          refine lv_iconst (v := 0) hx hb d_An_follow_212 (by decide) ?_
                          exact hret _ _ _ _ _ _ _ _ _ hr (rfl) (⟨ro_209, d1_209, d2_209, d3_209, t1_209, t2_209, t3_209, hC_209, (hf8.tr hf_209), Or.inr ⟨hxt, (congrArg Prod.fst (htl)).symm, hW_209.trans (congrArg Prod.snd (htl)).symm⟩⟩) hG hS (by dsimp only; omega) (by dsimp only; omega) d_An_follow_213
                    · have b146 : 1 = 0 := (nI_eq (a := 1) (b := 0) (by omega) (by omega)).mp c146
                      exact absurd b146 (by decide)
                  · have hG : zP E Gv H := eg139 ▸ hG
                    refine zr_none er139 ?_
                    have hvD : ¬ vD (zV os) (vfd (zV os) ls8) := fun z => by obtain ⟨i, hi, e9⟩ := vD_ix z; exact hno i hi (by rw [e9, hfd])
                    refine lv_astoreN (lv' := [(8, .null), (7, .ref a8), (6, .int 1), (5, .int (nI dp9)), (4, .null), (0, .ref (k 0)), (2, .ref a8), (3, .int (nI n8))]) hx hb d_An_follow_142 hl (by decide) rfl (fun ls hl => ?_)
                    refine lv_iload hx hb d_An_follow_144 (lv_at hl 2 rfl) ?_
                    refine lv_if_ne (tgt := 163) hx hb d_An_follow_146 (by decide) (fun c146 => ?_) (fun c146 => ?_)
                    · have b146 : ¬ 1 = 0 := fun q => c146 ((nI_eq (a := 1) (b := 0) (by omega) (by omega)).mpr q)
                      refine lv_aloadN hx hb d_An_follow_163 (lv_at hl 0 rfl) ?_
                      refine lv_ifnullN (tgt := 186) hx hb d_An_follow_165 (by decide) ?_
                      refine lv_null hx hb d_An_follow_186 ?_
                      refine lv_goto (tgt := 196) hx hb d_An_follow_187 (by decide) ?_
                      refine lv_astoreN (lv' := [(9, .null), (8, .null), (7, .ref a8), (6, .int 1), (5, .int (nI dp9)), (4, .null), (0, .ref (k 0)), (2, .ref a8), (3, .int (nI n8))]) hx hb d_An_follow_196 hl (by decide) rfl (fun ls hl => ?_)
                      refine lv_aloadN hx hb d_An_follow_198 (lv_at hl 0 rfl) ?_
                      refine lv_ifnonnullN hx hb d_An_follow_200 ?_
                      refine lv_aload_n hx hb d_An_follow_203 rfl (lv_at hl 6 rfl) ?_
                      refine lv_aload_n hx hb d_An_follow_204 rfl (lv_at hl 7 rfl) ?_
                      refine lv_aload hx hb d_An_follow_205 (lv_at hl 2 rfl) ?_
                      refine lv_aloadN hx hb d_An_follow_207 (lv_at hl 1 rfl) ?_
                      have htl := vfo_tell (V := (zV os)) (top := top) (sec := (zscu se)) (t := ty) (n := m9) (W := zWt t18 t28 t38) hx8 hvn (Or.inl hth) (Or.inr (Or.inr (Classical.byContradiction (fun z => hvD ⟨5, z⟩))))
                      rw [hrem, hfd] at htl
                      have hlr := vtl_le (zV os) top (zscu se) (zWt t18 t28 t38) ls8 ls8 ty
                      have hpar := zPh_le (os := os) (k := k) hlr
                      have hpdr := zPc_le hlr
                      have hphr : zPh os k (vfo (zV os) top (zscu se) ty 9 (zWt t1 t2 t3) ls1).2 = zPh os k (vtl (zV os) top (zscu se) (zWt t18 t28 t38) ls8 ls8 ty) := by rw [htl]
                      have hpcr : zPc (vfo (zV os) top (zscu se) ty 9 (zWt t1 t2 t3) ls1).2 = zPc (vtl (zV os) top (zscu se) (zWt t18 t28 t38) ls8 ls8 ty) := by rw [htl]
                      have hq209 := t_An_tell_n l E Gv k ro8 rc ty se os top d18 d28 d38 t18 t28 t38 hC8 hGZ hdw hzn a8 ls8 hN8 a8 ls8 hN8 (fun z => absurd rfl z) (by rw [hfd] at hvD; exact hvD) (hGZ.fx hx8) (by have q := hB9; rw [htl] at q; exact q)
                      have hGo209 := hG
                      refine zk_v (va_runV (As := [.ref a8, .ref a8, .null]) (rest := []) ⟨hx, hb, hml, hown, hts⟩ (hq209) (zcV 3 hts w_1173 w_1175 wp_23 w_28 w_1176 (by decide +kernel) ⟨Nat.le_of_ble_eq_true rfl, Nat.le_of_ble_eq_true rfl⟩) (zc_preV hbase hK hN hQ hG hS ha18 rfl) rfl rfl hl.1 rfl (lv_room (Nat.le_of_ble_eq_true rfl)) d_An_follow_209 ⟨(by dsimp only; omega), (by dsimp only; omega)⟩) hS (fun G209 H locs hp209 hG hS => ?_)
                      obtain ⟨ro_209, d1_209, d2_209, d3_209, t1_209, t2_209, t3_209, hC_209, hf0_209, hW0_209⟩ := hp209
                      have hf_209 : zfr ro8 zKa Gv ro_209 G209 := (zfr.rf (r := ro8) (G := Gv)).tr hf0_209
                      have hW_209 : zWt t1_209 t2_209 t3_209 = vtl (zV os) top (zscu se) (zWt t18 t28 t38) ls8 ls8 ty := hW0_209
                      have hE_209 : G209 (E.2.2.2 0) = none := hQ.out hG
                      obtain ⟨⟨hz1_209, hz2_209, hz3_209, hz4_209, hz5_209, soa_209, u9_209, hz6_209, hz7_209, hz8_209, hz9_209, hzA_209⟩, ⟨ha1_209, ha2_209, hs1_209, hs2_209, hs3_209⟩, hT1_209⟩ := id hC_209
                      obtain ⟨bo_209, fo_209, hno1_209, hno2_209, hno3_209, hno4_209, hno5_209, -⟩ := id hz4_209
                      have hN_a8_209 : zNR E G209 ro_209 a8 ls8 := hN8.fr hf_209 zKa_0
                      obtain ⟨b_a8_209, f_a8_209, hq1_a8_209, hq2_a8_209, hq3_a8_209, hq4_a8_209, hq5_a8_209, -⟩ := id hN_a8_209
                      have hl_209 := zWt_l t1_209 t2_209 t3_209
                      refine lv_iconst (v := 0) hx hb d_An_follow_212 (by decide) ?_
                      exact hret _ _ _ _ _ _ _ _ _ hr (rfl) (⟨ro_209, d1_209, d2_209, d3_209, t1_209, t2_209, t3_209, hC_209, (hf8.tr hf_209), Or.inr ⟨hxt, (congrArg Prod.fst (htl)).symm, hW_209.trans (congrArg Prod.snd (htl)).symm⟩⟩) hG hS (by dsimp only; omega) (by dsimp only; omega) d_An_follow_213
                    · have b146 : 1 = 0 := (nI_eq (a := 1) (b := 0) (by omega) (by omega)).mp c146
                      exact absurd b146 (by decide)
          · have hxo := vfo_out (V := (zV os)) (sec := (zscu se)) (t := ty) (n := m9) (W := zWt t18 t28 t38) (hp38.1.z c41)
            rw [hrem] at hxo
            refine lv_iconst (v := 0) hx hb d_An_follow_44 (by decide) ?_
            exact hret _ _ _ _ _ _ _ _ _ hr (rfl) (⟨ro8, d18, d28, d38, t18, t28, t38, hC8, (hf8.tr (zfr.rf (r := ro8) (G := Gv))), Or.inr ⟨hxt, (congrArg Prod.fst (hxo)).symm, (congrArg Prod.snd (hxo)).symm⟩⟩) hG hS (by dsimp only; omega) (by dsimp only; omega) d_An_follow_45
    refine zW_more (cells2 := zPc (zWt t1 t2 t3) - zPc (zWt t1 t2 t3) + 2 * 0) (slots2 := zPh os k (zWt t1 t2 t3) - zPh os k (zWt t1 t2 t3) + 300 * 0) (by dsimp only; omega) (by dsimp only; omega) ?_
    exact loop20 _ G 0 a1 ls1 ro d1 d2 d3 t1 t2 t3 _ _ (Nat.lt_succ_self _) (by decide) (hCx) (zfr.rf) (hNm1) (zLe.rf _) (rfl) hG hS ls (lv_sub hl [2, 1, 0] rfl)
  · have hxn := hp8.1.z c11
    refine lv_iconst (v := 5) hx hb d_An_follow_14 (by decide) ?_
    exact hret _ _ _ _ _ _ _ _ _ hr (rfl) (⟨ro, d1, d2, d3, t1, t2, t3, hCx, zfr.rf, Or.inl ⟨hxn, rfl, rfl⟩⟩) hG hS (by dsimp only; omega) (by dsimp only; omega) d_An_follow_15
