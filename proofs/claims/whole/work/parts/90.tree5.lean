/-! the stages of a change, each with the roles behind it -/
/-- what lies outside K is kept, with its role -/
def zfr (r : zRo) (K : Nat × Nat → Prop) (G : zg_G) (r2 : zRo) (G2 : zg_G) : Prop := ∀ q e, G q = some e → ¬ K (r q) → G2 q = some e ∧ r2 q = r q
theorem zfr.rf {r : zRo} {K : Nat × Nat → Prop} {G : zg_G} : zfr r K G r G := fun _ _ h _ => ⟨h, rfl⟩
theorem zfr.tr {r r1 r2 : zRo} {K : Nat × Nat → Prop} {G G1 G2 : zg_G} (h1 : zfr r K G r1 G1) (h2 : zfr r1 K G1 r2 G2) : zfr r K G r2 G2 := by
  intro q e hq hn
  obtain ⟨a, b⟩ := h1 q e hq hn
  obtain ⟨c, d⟩ := h2 q e a (by rw [b]; exact hn)
  exact ⟨c, d.trans b⟩
theorem zfr.of {r r2 : zRo} {K K2 : Nat × Nat → Prop} {G G2 : zg_G} (h : zk r K G G2) (hr : zro G r r2) (hw : ∀ k, K k → K2 k) : zfr r K2 G r2 G2 := fun q e hq hn => ⟨h q e hq (fun z => hn (hw _ z)), hr q e hq⟩
theorem zfr.up {r : zRo} {K : Nat × Nat → Prop} {G : zg_G} {a : Nat} {e : va_E} (h : K (r a)) : zfr r K G r (zg_up G a e) := fun q x hq hn => ⟨by rw [zg_up_ne (fun z => hn (by rw [z]; exact h))]; exact hq, rfl⟩
def zdr {α : Type} (xs : List α) (i : Nat) : List α := xs.take i ++ xs.drop (i + 1)
theorem zdr_map {α β : Type} (f : α → β) (xs : List α) (i : Nat) : (zdr xs i).map f = (xs.map f).take i ++ (xs.map f).drop (i + 1) := by
  unfold zdr
  rw [List.map_append, List.map_take, List.map_drop]
theorem zdr_mem {α : Type} {xs : List α} {i : Nat} {x : α} (h : x ∈ zdr xs i) : x ∈ xs := by
  unfold zdr at h
  rcases List.mem_append.mp h with z | z
  · exact List.mem_of_mem_take z
  · exact List.mem_of_mem_drop z
def zin {α : Type} (xs : List α) (i : Nat) (x : α) : List α := xs.take i ++ x :: xs.drop i
theorem zin_map {α β : Type} (f : α → β) (xs : List α) (i : Nat) (x : α) : (zin xs i x).map f = (xs.map f).take i ++ f x :: (xs.map f).drop i := by
  unfold zin
  rw [List.map_append, List.map_cons, List.map_take, List.map_drop]
theorem zin_mem {α : Type} {xs : List α} {i : Nat} {x y : α} (h : y ∈ zin xs i x) : y ∈ xs ∨ y = x := by
  unfold zin at h
  rcases List.mem_append.mp h with z | z
  · exact Or.inl (List.mem_of_mem_take z)
  · rcases List.mem_cons.mp z with z | z
    · exact Or.inr z
    · exact Or.inl (List.mem_of_mem_drop z)
theorem zin_len {α : Type} {xs : List α} {i : Nat} {x : α} (h : i ≤ xs.length) : (zin xs i x).length = xs.length + 1 := by
  unfold zin
  rw [List.length_append, List.length_cons, List.length_take, List.length_drop]
  omega
theorem zdr_len {α : Type} {xs : List α} {i : Nat} (h : i < xs.length) : (zdr xs i).length = xs.length - 1 := by
  unfold zdr
  rw [List.length_append, List.length_take, List.length_drop]
  omega
theorem zKz_n {a b : Nat} (h1 : 1 ≤ a) (h2 : a ≤ 7) : zKz (a, b) := Or.inl ⟨h1, h2⟩
section ZT5
variable {E : zc_E} {G G2 : zg_G} {r : zRo} {la dd : Nat} {os : List zOt}
theorem zL.dne {a d2 : Nat} {xs : List Nat} (hL : zL E G2 a d2 xs) (hx : 0 < xs.length) {q : Nat} {ci : Nat} {fs : List Value} (hq : G2 q = some (.inr (ci, fs))) : q ≠ d2 := by
  obtain ⟨k, cap, f, h1, h2, -⟩ := hL.un2 hx
  exact zg_ne hq h2 (by intro z; cases z)
theorem zZR.insO {q ol a1 d2 k : Nat} {ls : np_N} (h : zZR E G r la dd os) (hE : G (E.2.2.2 0) = none) (hE2 : G2 (E.2.2.2 0) = none) (hx : zx (fun q => q = la ∨ q = dd) G G2) (hq : G q = none) (hol : G ol = none) (hd : d2 = dd ∨ G d2 = none) (hL : zL E G2 la d2 ((os.map oA).take k ++ q :: (os.map oA).drop k)) (hN : zNR E G r a1 ls) (hcq : G2 q = some (.inr (4, [.ref a1, .ref ol, .null]))) (hcl : G2 ol = some (.inr (0, [.ref (E.2.2.2 0), .int 0, .int 0]))) : ∃ r2, zro G r r2 ∧ zfr r zKz G r2 G2 ∧ zZR E G2 r2 la d2 (zin os k (q, a1, ls, none, ol, E.2.2.2 0, [])) := by
  have hn1 : q ≠ d2 := hL.dne (by simp; omega) hcq
  have hn2 : ol ≠ d2 := hL.dne (by simp; omega) hcl
  have hn3 : q ≠ ol := zg_ne hcq hcl (by intro z; cases z)
  have hr1 := h.1.ro hd
  have hr2 : zro G r (zrn (zrn (zrn r d2 (3, 0)) q (11, 0)) ol (4, q)) := (hr1.tr2 (zro.nw hq)).tr2 (zro.nw hol)
  have hk := h.1.zk hx
  refine ⟨_, hr2, zfr.of hk hr2 (fun k z => by rcases z with rfl | rfl <;> exact zKz_n (by decide) (by decide)), ?_⟩
  refine h.chO hx hr2 hE2 ?_ (fun o ho => ?_)
  · rw [zin_map]
    have h9 := h.1.mk hE hL
    refine ⟨hL, ?_, fun e he => ?_⟩
    · have hla : la ≠ q ∧ la ≠ ol := by
        obtain ⟨⟨⟨k0, ha⟩, -⟩, -⟩ := h.1
        exact ⟨zg_fr hq ha, zg_fr hol ha⟩
      rw [zrn_ne hla.2, zrn_ne hla.1]; exact h9.2.1
    · rw [zrn_ne (Ne.symm hn2), zrn_ne (Ne.symm hn1), zrn_self]
  · rcases zin_mem ho with z | z
    · exact Or.inl z
    · subst z
      refine Or.inr ⟨hcq, ?_, hN.go hk hr2 (by simp), ⟨zL.new hcl, ?_, fun e he => ?_⟩, fun s hs => absurd hs List.not_mem_nil⟩
      · show zrn (zrn (zrn r d2 (3, 0)) q (11, 0)) ol (4, q) q = _
        rw [zrn_ne hn3, zrn_self]
      · exact zrn_self _ _ _
      · exact absurd (he.symm.trans hE2) (by intro z; cases z)
theorem zZR.insS {i si qs bs d2 : Nat} {t : Int32} (h : zZR E G r la dd os) (hso : zso os) (hi : i < os.length) (hE : G (E.2.2.2 0) = none) (hE2 : G2 (E.2.2.2 0) = none) (hx : zx (fun q => q = oL (oe os i) ∨ q = oD (oe os i)) G G2) (hq : G qs = none) (hol : G bs = none) (hd : d2 = oD (oe os i) ∨ G d2 = none) (hL : zL E G2 (oL (oe os i)) d2 (((oX (oe os i)).map sA).take si ++ qs :: ((oX (oe os i)).map sA).drop si)) (hcq : G2 qs = some (.inr (5, [.int t, .int 0, .ref bs]))) (hcl : G2 bs = some (.inr (0, [.ref (E.2.2.2 0), .int 0, .int 0]))) : ∃ r2, zro G r r2 ∧ zfr r zKz G r2 G2 ∧ zZR E G2 r2 la dd (os.set i (oSetX (oe os i) d2 (zin (oX (oe os i)) si (qs, t, 0, bs, E.2.2.2 0, [])))) := by
  have ho := h.2 _ (oe_mem hi)
  have hn1 : qs ≠ d2 := hL.dne (by simp; omega) hcq
  have hn2 : bs ≠ d2 := hL.dne (by simp; omega) hcl
  have hn3 : qs ≠ bs := zg_ne hcq hcl (by intro z; cases z)
  have hr1 := ho.2.2.2.1.ro hd
  have hr2 : zro G r (zrn (zrn (zrn r d2 (5, oA (oe os i))) qs (12, oA (oe os i))) bs (6, qs)) := (hr1.tr2 (zro.nw hq)).tr2 (zro.nw hol)
  have hk := ho.2.2.2.1.zk hx
  refine ⟨_, hr2, zfr.of hk hr2 (fun k z => by rcases z with rfl | rfl <;> exact zKz_n (by decide) (by decide)), ?_⟩
  refine h.chS hso hi hx hr2 hE2 ?_ (fun s hs => ?_)
  · rw [zin_map]
    have h9 := ho.2.2.2.1.mk hE hL
    refine ⟨hL, ?_, fun e he => ?_⟩
    · have hla : oL (oe os i) ≠ qs ∧ oL (oe os i) ≠ bs := by
        obtain ⟨⟨⟨k0, ha⟩, -⟩, -⟩ := ho.2.2.2.1
        exact ⟨zg_fr hq ha, zg_fr hol ha⟩
      rw [zrn_ne hla.2, zrn_ne hla.1]; exact h9.2.1
    · rw [zrn_ne (Ne.symm hn2), zrn_ne (Ne.symm hn1), zrn_self]
  · rcases zin_mem hs with z | z
    · exact Or.inl z
    · subst z
      refine Or.inr ⟨hcq, ?_, ⟨zL.new hcl, ?_, fun e he => ?_⟩, fun s hs => absurd hs List.not_mem_nil⟩
      · show zrn (zrn (zrn r d2 (5, oA (oe os i))) qs (12, oA (oe os i))) bs (6, qs) qs = _
        rw [zrn_ne hn3, zrn_self]
      · exact zrn_self _ _ _
      · exact absurd (he.symm.trans hE2) (by intro z; cases z)
theorem zZR.addD {i si d2 : Nat} {d : zDt} (h : zZR E G r la dd os) (hso : zso os) (hi : i < os.length) (hss : zss (oe os i)) (hs : si < (oX (oe os i)).length) (hE : G (E.2.2.2 0) = none) (hE2 : G2 (E.2.2.2 0) = none) (hx : zx (fun q => q = sL (oS (oe os i) si) ∨ q = sD (oS (oe os i) si)) G G2) (hd : d2 = sD (oS (oe os i) si) ∨ G d2 = none) (hL : zL E G2 (sL (oS (oe os i) si)) d2 ((sX (oS (oe os i) si)).map (·.1) ++ [d.1])) (hD : zDR E G r d) : ∃ r2, zro G r r2 ∧ zfr r zKz G r2 G2 ∧ zZR E G2 r2 la dd (os.set i (oSetX (oe os i) (oD (oe os i)) ((oX (oe os i)).set si (sSetX (oS (oe os i) si) d2 (sX (oS (oe os i) si) ++ [d]))))) := by
  have hS := (h.2 _ (oe_mem hi)).2.2.2.2 _ (oS_mem hs)
  have hr2 := hS.2.2.1.ro hd
  have hk := hS.2.2.1.zk hx
  refine ⟨_, hr2, zfr.of hk hr2 (fun k z => by rcases z with rfl | rfl <;> exact zKz_n (by decide) (by decide)), ?_⟩
  refine h.chD hso hi hss hs hx hr2 hE2 ?_ (fun y hy => ?_)
  · rw [List.map_append]
    exact hS.2.2.1.mk hE hL
  · rcases List.mem_append.mp hy with z | z
    · exact Or.inl z
    · rw [List.mem_singleton.mp z]; exact Or.inr (hD.go hk hr2 (by simp))
/-- a row of which things went -/
theorem zLR.del {a d : Nat} {xs ys : List Nat} {k1 k2 : Nat × Nat} (h : zLR E G r a d xs k1 k2) (hE2 : G2 (E.2.2.2 0) = none) (hL : zL E G2 a d ys) : zLR E G2 r a d ys k1 k2 := by
  refine ⟨hL, h.2.1, fun e he => ?_⟩
  obtain ⟨⟨⟨k, ha⟩, hd⟩, hra, hrd⟩ := h
  rcases hd with ⟨hd, hxs⟩ | ⟨cap, f, h3, h4⟩
  · rw [hd, hE2] at he; cases he
  · exact hrd _ h3
theorem zZR.delO {k : Nat} (h : zZR E G r la dd os) (hE2 : G2 (E.2.2.2 0) = none) (hx : zx (fun q => q = la ∨ q = dd) G G2) (hL : zL E G2 la dd ((os.map oA).take k ++ (os.map oA).drop (k + 1))) : zfr r zKz G r G2 ∧ zZR E G2 r la dd (zdr os k) := by
  refine ⟨zfr.of (h.1.zk hx) zro.rf (fun k z => by rcases z with rfl | rfl <;> exact zKz_n (by decide) (by decide)), h.chO hx zro.rf hE2 ?_ (fun o ho => Or.inl (zdr_mem ho))⟩
  rw [zdr_map]
  exact h.1.del hE2 hL
theorem zZR.delS {i si : Nat} (h : zZR E G r la dd os) (hso : zso os) (hi : i < os.length) (hE2 : G2 (E.2.2.2 0) = none) (hx : zx (fun q => q = oL (oe os i) ∨ q = oD (oe os i)) G G2) (hL : zL E G2 (oL (oe os i)) (oD (oe os i)) (((oX (oe os i)).map sA).take si ++ ((oX (oe os i)).map sA).drop (si + 1))) : zfr r zKz G r G2 ∧ zZR E G2 r la dd (os.set i (oSetX (oe os i) (oD (oe os i)) (zdr (oX (oe os i)) si))) := by
  have ho := h.2 _ (oe_mem hi)
  refine ⟨zfr.of (ho.2.2.2.1.zk hx) zro.rf (fun k z => by rcases z with rfl | rfl <;> exact zKz_n (by decide) (by decide)), h.chS hso hi hx zro.rf hE2 ?_ (fun o ho => Or.inl (zdr_mem ho))⟩
  rw [zdr_map]
  exact ho.2.2.2.1.del hE2 hL
theorem zZR.delD {i si j : Nat} (h : zZR E G r la dd os) (hso : zso os) (hi : i < os.length) (hss : zss (oe os i)) (hs : si < (oX (oe os i)).length) (hE2 : G2 (E.2.2.2 0) = none) (hx : zx (fun q => q = sL (oS (oe os i) si) ∨ q = sD (oS (oe os i) si)) G G2) (hL : zL E G2 (sL (oS (oe os i) si)) (sD (oS (oe os i) si)) (((sX (oS (oe os i) si)).map (·.1)).take j ++ ((sX (oS (oe os i) si)).map (·.1)).drop (j + 1))) : zfr r zKz G r G2 ∧ zZR E G2 r la dd (os.set i (oSetX (oe os i) (oD (oe os i)) ((oX (oe os i)).set si (sSetX (oS (oe os i) si) (sD (oS (oe os i) si)) (zdr (sX (oS (oe os i) si)) j))))) := by
  have hS := (h.2 _ (oe_mem hi)).2.2.2.2 _ (oS_mem hs)
  refine ⟨zfr.of (hS.2.2.1.zk hx) zro.rf (fun k z => by rcases z with rfl | rfl <;> exact zKz_n (by decide) (by decide)), h.chD hso hi hss hs hx zro.rf hE2 ?_ (fun y hy => Or.inl (zdr_mem hy))⟩
  rw [zdr_map]
  exact hS.2.2.1.del hE2 hL
theorem zZR.frC (h : zZR E G r la dd os) (hx : zx (fun q => ∃ j, j < os.length ∧ q = oA (oe os j)) G G2) : zfr r zKz G r G2 := by
  intro q e hq hn
  refine ⟨hx q e (fun z => ?_) hq, rfl⟩
  obtain ⟨j, hj, rfl⟩ := z
  rw [(h.2 _ (oe_mem hj)).2.1] at hn
  exact hn (Or.inr (Or.inl rfl))
end ZT5
theorem t_AL_remove_u (l : Launch) {E : zc_E} {G : zg_G} {a dd : Nat} {xs : List Nat} (h : zL E G a dd xs) (hel : ∀ z ∈ xs, zel G z) (i : Nat) (hi : i < xs.length) : zMq l E y_AL_remove c_AL_remove 4 (some (.object "java/lang/Object")) rm_AL_remove [.ref a, .int (nI i)] G (fun r G2 => r = some (xs[i]) ∧ zL E G2 a dd (xs.take i ++ xs.drop (i + 1)) ∧ zx (fun q => q = a ∨ q = dd) G G2) := by
  obtain ⟨k, cap, f, h1, h2, h3, h4, h5, h6⟩ := h.un2 (by omega)
  exact t_AL_remove l E G a dd xs k cap f h1 h2 h3 h4 h5 h6 hel i hi
theorem t_AL_get_u (l : Launch) {E : zc_E} {G : zg_G} {a dd : Nat} {xs : List Nat} (h : zL E G a dd xs) (i : Nat) (hi : i < xs.length) : zMq l E y_AL_get c_AL_get 2 (some (.object "java/lang/Object")) rm_AL_get [.ref a, .int (nI i)] G (fun r G2 => r = xs[i]? ∧ G2 = G) := by
  obtain ⟨k, cap, f, h1, h2, h3, h4, h5, h6⟩ := h.un2 (by omega)
  exact (t_AL_get l E G a dd xs.length cap k f h1 h2 h4 (by omega) i hi).imp (fun r G2 q => ⟨q.1.trans (h6 i), q.2⟩)
