/-! one set changed: its data or its time -/
theorem zgo_R {os : List zOt} {k si d9 : Nat} {s2 : zSt} (h : zgo os) (hk : k < os.length) (hs : si < (oX (oe os k)).length) (e : sT s2 = sT (oS (oe os k) si)) (h0 : 0 < (sX s2).length) : zgo (os.set k (oSetX (oe os k) d9 ((oX (oe os k)).set si s2))) ∧ (∀ x t, zgt (os.set k (oSetX (oe os k) d9 ((oX (oe os k)).set si s2))) x t = if x = oM (oe os k) ∧ t = sT (oS (oe os k) si) then (sX s2).map (fun d => (sU s2, d.2)) else zgt os x t) ∧ znr (os.set k (oSetX (oe os k) d9 ((oX (oe os k)).set si s2))) + (sX (oS (oe os k) si)).length = znr os + (sX s2).length := by
  refine ⟨⟨zso_set h.1 hk rfl, fun i hi => ?_⟩, zgt_D h.1 hk (h.2 k hk).1 hs e, ?_⟩
  · rw [List.length_set] at hi
    rw [oe_set hk]
    by_cases z : i = k
    · rw [if_pos z]
      refine ⟨zss_set (h.2 k hk).1 hs e, ?_, fun j hj => ?_⟩
      · show 0 < (List.set _ _ _).length
        rw [List.length_set]; exact (h.2 k hk).2.1
      · have hj : j < ((oX (oe os k)).set si s2).length := hj
        rw [List.length_set] at hj
        rw [oS_set hs]
        by_cases w : j = si
        · rw [if_pos w]; exact h0
        · rw [if_neg w]; exact (h.2 k hk).2.2 j hj
    · rw [if_neg z]; exact h.2 i hi
  · have q1 := znr_set (o := oSetX (oe os k) d9 ((oX (oe os k)).set si s2)) hk
    have q2 := znX_set (o := oe os k) (d := d9) (s := s2) hs
    omega
theorem zsum_le {α : Type} (f : α → Nat) {xs : List α} {x : α} (h : x ∈ xs) : f x ≤ (xs.map f).sum := by
  induction xs with
  | nil => cases h
  | cons y ys ih =>
    rw [List.map_cons, List.sum_cons]
    rcases List.mem_cons.mp h with z | z
    · rw [z]; omega
    · have := ih z; omega
theorem zsum_n {α : Type} (f : α → Nat) {xs : List α} (h : ∀ x ∈ xs, 0 < f x) : xs.length ≤ (xs.map f).sum := by
  induction xs with
  | nil => exact Nat.le_refl _
  | cons y ys ih =>
    rw [List.map_cons, List.sum_cons, List.length_cons]
    have h1 := h y List.mem_cons_self
    have h2 := ih (fun x hx => h x (List.mem_cons_of_mem _ hx))
    omega
/-- a good zone is no bigger than its records -/
theorem zgo.sz {os : List zOt} (h : zgo os) : os.length ≤ znr os ∧ ∀ i, i < os.length → (oX (oe os i)).length ≤ znr os ∧ ∀ j, j < (oX (oe os i)).length → (sX (oS (oe os i) j)).length ≤ znr os := by
  have hO : ∀ i, i < os.length → (oX (oe os i)).length ≤ znO (oe os i) := fun i hi => zsum_n (fun s => (sX s).length) (fun s hs => by
    obtain ⟨j, hj, rfl⟩ := oS_ix hs
    exact (h.2 i hi).2.2 j hj)
  have hP : ∀ i, i < os.length → znO (oe os i) ≤ znr os := fun i hi => zsum_le znO (oe_mem hi)
  refine ⟨zsum_n znO (fun o ho => ?_), fun i hi => ⟨Nat.le_trans (hO i hi) (hP i hi), fun j hj => Nat.le_trans (zsum_le (fun s => (sX s).length) (oS_mem hj)) (hP i hi)⟩⟩
  obtain ⟨i, hi, rfl⟩ := oe_ix ho
  exact Nat.lt_of_lt_of_le (h.2 i hi).2.1 (hO i hi)
theorem zx.one {G G2 : zg_G} {a : Nat} {e : va_E} {S : Nat → Prop} (h : zx (fun q => q = a ∨ S q) G G2) (ha : G2 a = some e) : zx S (zg_up G a e) G2 := by
  intro q x hs hq
  by_cases z : q = a
  · rw [z, zg_up_self] at hq; rw [z, ← hq]; exact ha
  · rw [zg_up_ne z] at hq; exact h q x (fun w => w.elim z hs) hq
/-- the data of a start with another serial -/
def zs20 (bs : List Int32) (x : Int32) : List Int32 := (List.range bs.length).map (zw4 (fun j => bs.getD j 0) (bs.length - 20) x)
theorem zs20_len (bs : List Int32) (x : Int32) : (zs20 bs x).length = bs.length := by unfold zs20; rw [List.length_map, List.length_range]
theorem zs20_at {bs : List Int32} {x : Int32} {j : Nat} (h : j < bs.length) : (zs20 bs x).getD j 0 = zw4 (fun j => bs.getD j 0) (bs.length - 20) x j := by
  unfold zs20
  rw [List.getD_eq_getElem?_getD, List.getElem?_map, List.getElem?_range h]
  rfl
theorem zw4_cg {f g : Nat → Int32} {k j : Nat} {x : Int32} (h : f j = g j) : zw4 f k x j = zw4 g k x j := by
  unfold zw4 upd
  repeat' split
  all_goals first | rfl | exact h
section ZT6
variable {E : zc_E} {G G2 : zg_G} {ro : zRo} {a la tn st rc9 dd : Nat} {sd q x0 d2 i si : Nat} {rc u x : Int32} {os : List zOt} {soa : List Int32}
/-- the start's data changed -/
theorem zSer (ha : G a = some (.inr (9, [.ref la, .ref tn, .ref st, .ref sd, .int rc]))) (hZ : zZR E G ro la dd os) (hra : ro a = (1, 0)) (hgo : zgo os) (hi : i < os.length) (hs : si < (oX (oe os i)).length) (hT : sT (oS (oe os i) si) = 6) (hU : sU (oS (oe os i) si) = u) (h1 : (sX (oS (oe os i) si)).length = 1) (hE : G (E.2.2.2 0) = none) (hE2 : G2 (E.2.2.2 0) = none) (nq : G q = none) (nx : G x0 = none) (hd : d2 = sD (oS (oe os i) si) ∨ G d2 = none) (hx : zx (fun z => z = a ∨ z = sL (oS (oe os i) si) ∨ z = sD (oS (oe os i) si)) G G2) (hza : G2 a = some (.inr (9, [.ref la, .ref tn, .ref st, .ref q, .int rc]))) (hB : zBy E G2 q soa) (hL : zL E G2 (sL (oS (oe os i) si)) d2 [x0]) (hx0 : G2 x0 = some (.inr (2, [.ref q, .null]))) : ∃ ro2 os2, zZR E G2 ro2 la dd os2 ∧ zfr ro zKz G ro2 G2 ∧ ro2 a = (1, 0) ∧ zgo os2 ∧ (zctd os → zctd os2) ∧ znr os2 = znr os ∧ os2.length = os.length ∧ (∀ y t, zgt os2 y t = if y = oM (oe os i) ∧ t = 6 then [(u, (soa, none))] else zgt os y t) ∧ (∀ y t z, zsa os y t z → zsa os2 y t z) ∧ ro2 q = (0, 0) := by
  have hnea : ∀ z, G z = none → z ≠ a := fun z hz w => by rw [w, ha] at hz; cases hz
  have hE1 : zg_up G a (.inr (9, [.ref la, .ref tn, .ref st, .ref q, .int rc])) (E.2.2.2 0) = none := by rw [zg_up_ne (fun z => by rw [z, ha] at hE; cases hE)]; exact hE
  have hup : ∀ z, G z = none → zg_up G a (.inr (9, [.ref la, .ref tn, .ref st, .ref q, .int rc])) z = none := fun z hz => by rw [zg_up_ne (hnea z hz)]; exact hz
  have hZ1 := hZ.upz (e := .inr (9, [.ref la, .ref tn, .ref st, .ref q, .int rc])) ha hra hE
  have hx1 := hx.one hza
  have hf1 : zfr ro zKz G ro (zg_up G a (.inr (9, [.ref la, .ref tn, .ref st, .ref q, .int rc]))) := zfr.up (by rw [hra]; exact zKz_n (by decide) (by decide))
  have hS := (hZ1.2 _ (oe_mem hi)).2.2.2.2 _ (oS_mem hs)
  have hr1 := hS.2.2.1.ro (hd.imp id (hup d2))
  have hn1 : x0 ≠ d2 := hL.dne (by simp) hx0
  have hn2 : q ≠ d2 := by
    obtain ⟨⟨k, -⟩, ⟨h2, h3⟩ | ⟨cap, f, h2, -⟩⟩ := id hL
    · cases h3
    · obtain ⟨f3, h3, -⟩ := id hB
      intro z
      rw [z, h2] at h3
      injection h3 with h3; injection h3 with h3; injection h3 with _ h4; injection h4 with _ h5; cases h5
  have hn3 : q ≠ x0 := by
    obtain ⟨f3, h3, -⟩ := id hB
    intro z
    rw [z, hx0] at h3; cases h3
  obtain ⟨r2, er2⟩ : ∃ z : zRo, z = zrn (zrn (zrn ro d2 (7, sA (oS (oe os i) si))) q (0, 0)) x0 (0, 0) := ⟨_, rfl⟩
  have hr2 : zro (zg_up G a (.inr (9, [.ref la, .ref tn, .ref st, .ref q, .int rc]))) ro r2 := by rw [er2]; exact (hr1.tr2 (zro.nw (hup q nq))).tr2 (zro.nw (hup x0 nx))
  have hrq : r2 q = (0, 0) := by rw [er2, zrn_ne hn3, zrn_self]
  have hrx : r2 x0 = (0, 0) := by rw [er2, zrn_self]
  have hk := hS.2.2.1.zk hx1
  have hra2 : r2 a = (1, 0) := by rw [hr2 a _ (zg_up_self _ _ _)]; exact hra
  have hD : zDR E G2 r2 (x0, soa, none) := ⟨q, none, hx0, hB, hrx, hrq, Or.inl ⟨rfl, rfl⟩⟩
  have hZ2 := hZ1.chD (xs := [(x0, soa, none)]) (d2 := d2) hgo.1 hi (hgo.2 i hi).1 hs hx1 hr2 hE2 (by
    have h9 := hS.2.2.1.mk hE1 hL
    refine ⟨hL, ?_, fun e he => ?_⟩
    · have hla : sL (oS (oe os i) si) ≠ q ∧ sL (oS (oe os i) si) ≠ x0 := by
        obtain ⟨⟨⟨k0, hal⟩, -⟩, -⟩ := hS.2.2.1
        exact ⟨zg_fr (hup q nq) hal, zg_fr (hup x0 nx) hal⟩
      rw [er2, zrn_ne hla.2, zrn_ne hla.1]; exact h9.2.1
    · rw [er2, zrn_ne (Ne.symm hn1), zrn_ne (Ne.symm hn2), zrn_self]) (fun d hdm => Or.inr (by rw [List.mem_singleton.mp hdm]; exact hD))
  obtain ⟨g1, g2, g3⟩ := zgo_R (d9 := oD (oe os i)) (s2 := sSetX (oS (oe os i) si) d2 [(x0, soa, none)]) hgo hi hs rfl (by show 0 < 1; decide)
  refine ⟨r2, _, hZ2, hf1.tr (zfr.of hk hr2 (fun k z => by rcases z with rfl | rfl <;> exact zKz_n (by decide) (by decide))), hra2, g1, fun h9 => zctd_D h9 hi hs rfl, ?_, List.length_set, fun y t => ?_, fun y t z h9 => zsa_set h9 hi (fun s hs1 _ e => by rw [← e]; exact zsa_D (fun h => by rw [← oS_at h]; exact ⟨rfl, rfl⟩) hs1), hrq⟩
  · have e : (sX (sSetX (oS (oe os i) si) d2 [(x0, soa, none)])).length = 1 := rfl
    rw [e, h1] at g3; omega
  · rw [g2, hT, ← hU]; rfl
/-- the time of a set changed -/
theorem zTim (hZ : zZR E G ro la dd os) (hgo : zgo os) (hi : i < os.length) (hs : si < (oX (oe os i)).length) (hE : G (E.2.2.2 0) = none) : ∃ os2, zZR E (zg_up G (sA (oS (oe os i) si)) (.inr (5, [.int (sT (oS (oe os i) si)), .int u, .ref (sL (oS (oe os i) si))]))) ro la dd os2 ∧ zfr ro zKz G ro (zg_up G (sA (oS (oe os i) si)) (.inr (5, [.int (sT (oS (oe os i) si)), .int u, .ref (sL (oS (oe os i) si))]))) ∧ zgo os2 ∧ (zctd os → zctd os2) ∧ znr os2 = znr os ∧ os2.length = os.length ∧ (∀ y t, zgt os2 y t = if y = oM (oe os i) ∧ t = sT (oS (oe os i) si) then (zgt os y t).map (fun p => (u, p.2)) else zgt os y t) ∧ (∀ y t z, zsa os y t z → zsa os2 y t z) := by
  have hS := (hZ.2 _ (oe_mem hi)).2.2.2.2 _ (oS_mem hs)
  have hZ2 := hZ.chU (u := u) hgo.1 hi (hgo.2 i hi).1 hs hE
  obtain ⟨g1, g2, g3⟩ := zgo_R (d9 := oD (oe os i)) (s2 := sSetU (oS (oe os i) si) u) hgo hi hs rfl ((hgo.2 i hi).2.2 si hs)
  refine ⟨_, hZ2, zfr.up (by rw [hS.2.1]; exact Or.inr (Or.inr rfl)), g1, fun h9 => zctd_D h9 hi hs rfl, ?_, List.length_set, fun y t => ?_, fun y t z h9 => zsa_set h9 hi (fun s hs1 _ e => by rw [← e]; exact zsa_D (fun h => by rw [← oS_at h]; exact ⟨rfl, rfl⟩) hs1)⟩
  · have e : (sX (sSetU (oS (oe os i) si) u)).length = (sX (oS (oe os i) si)).length := rfl
    rw [e] at g3; omega
  · rw [g2]
    by_cases z : y = oM (oe os i) ∧ t = sT (oS (oe os i) si)
    · rw [if_pos z, if_pos z, zgt_at hgo.1 hi z.1.symm, zgX_at (hgo.2 i hi).1 hs z.2.symm, List.map_map]; rfl
    · rw [if_neg z, if_neg z]
end ZT6
