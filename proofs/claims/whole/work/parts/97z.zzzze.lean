/-! THE REFERENCE TAKES A RECORD IN -/
def rUt (e : zRt) (u : Int32) : zRt := (e.1, e.2.1, e.2.2.1, e.2.2.2.1, e.2.2.2.2.1, e.2.2.2.2.2.1, u, e.2.2.2.2.2.2.2)
theorem rUt_f (e : zRt) (u : Int32) : rA (rUt e u) = rA e ∧ rN (rUt e u) = rN e ∧ rD (rUt e u) = rD e ∧ rV (rUt e u) = rV e ∧ rM (rUt e u) = rM e ∧ rT (rUt e u) = rT e ∧ rU (rUt e u) = u ∧ rB (rUt e u) = rB e := ⟨rfl, rfl, rfl, rfl, rfl, rfl, rfl, rfl⟩
theorem map_set_s {rs : List zRt} {j : Nat} {e : zRt} {f : zRt → Nat} (hj : j < rs.length) (h : f e = f (re rs j)) : (rs.set j e).map f = rs.map f := by
  rw [List.map_set, h, re_at hj, ← List.getElem_map f (h := by rw [List.length_map]; exact hj), List.set_getElem_self]
theorem rRs.tm {E : zc_E} {G : zg_G} {ro : zRo} {m4 j : Nat} {rs : List zRt} (u : Int32) (h : rRs E G ro m4 rs) (hj : j < rs.length) : rRs E (zg_up G (rA (re rs j)) (.inr (12, [.ref (rN (re rs j)), .ref (rD (re rs j)), (rV (re rs j)), .int (rT (re rs j)), .int u]))) ro m4 (rs.set j (rUt (re rs j) u)) ∧ zfr ro (fun r => r = (21, 0)) G ro (zg_up G (rA (re rs j)) (.inr (12, [.ref (rN (re rs j)), .ref (rD (re rs j)), (rV (re rs j)), .int (rT (re rs j)), .int u]))) := by
  obtain ⟨⟨⟨f, a1, a2⟩, a3, a4⟩, b1, b2, b3, b4⟩ := id h
  obtain ⟨c1, c2, c3, c4⟩ := b4 _ (re_mem hj)
  have hf := zfr.up (r := ro) (K := fun r => r = (21, 0)) (G := G) (a := rA (re rs j)) (e := .inr (12, [.ref (rN (re rs j)), .ref (rD (re rs j)), (rV (re rs j)), .int (rT (re rs j)), .int u])) c1
  refine ⟨⟨⟨⟨f, (hf _ _ a1 (by rw [b1]; simp)).1, fun i hi => ?_⟩, by rw [List.length_set]; exact a3, fun e he => ?_⟩, b1, by rw [map_set_s (f := rA) (e := rUt (re rs j) u) hj rfl]; exact b2, by rw [map_set_s (f := rD) (e := rUt (re rs j) u) hj rfl]; exact b3, fun e he => ?_⟩, hf⟩
  · rw [List.length_set] at hi
    rw [a2 i hi, re_set hj]
    by_cases z : i = j
    · rw [if_pos z, z]; rfl
    · rw [if_neg z]
  · obtain ⟨i, hi, rfl⟩ := re_ix he
    rw [List.length_set] at hi
    rw [re_set hj]
    by_cases z : i = j
    · rw [if_pos z]
      obtain ⟨-, ⟨fn, d2, d3⟩, d4⟩ := a4 _ (re_mem hj)
      exact ⟨zg_up_self _ _ _, ⟨fn, (hf _ _ d2 (by rw [c2]; simp)).1, d3⟩, (d4.fr c3 hf (by simp)).1⟩
    · rw [if_neg z]
      obtain ⟨d1, ⟨fn, d2, d3⟩, d4⟩ := a4 _ (re_mem hi)
      obtain ⟨m1, m2, m3, -⟩ := b4 _ (re_mem hi)
      have ne : rA (re rs i) ≠ rA (re rs j) := fun w => z (nodup_ix b2 hi hj w)
      exact ⟨by rw [zg_up_ne ne]; exact d1, ⟨fn, (hf _ _ d2 (by rw [m2]; simp)).1, d3⟩, (d4.fr m3 hf (by simp)).1⟩
  · have key : ∃ e0 ∈ rs, rA e = rA e0 ∧ rN e = rN e0 ∧ rD e = rD e0 ∧ rV e = rV e0 ∧ rT e = rT e0 ∧ rB e = rB e0 := by
      obtain ⟨i, hi, rfl⟩ := re_ix he
      rw [List.length_set] at hi
      rw [re_set hj]
      by_cases z : i = j
      · rw [if_pos z]; exact ⟨_, re_mem hj, rfl, rfl, rfl, rfl, rfl, rfl⟩
      · rw [if_neg z]; exact ⟨_, re_mem hi, rfl, rfl, rfl, rfl, rfl, rfl⟩
    obtain ⟨e0, h0, k1, k2, k3, k4, k5, k6⟩ := key
    obtain ⟨m1, m2, m3, m4⟩ := b4 e0 h0
    rw [k1, k2, k3, k4, k5, k6]
    refine ⟨m1, m2, m3, ?_⟩
    rcases m4 with m4 | ⟨z9, w1, w2, w3, w4⟩
    · exact Or.inl m4
    · exact Or.inr ⟨z9, w1, (w2.fr w3 hf (by simp)).1, w3, w4⟩
theorem rGd.tm {lo : np_N} {rs : List zRt} {j : Nat} (u : Int32) (hg : rGd lo rs) (hj : j < rs.length) (h6 : rT (re rs j) ≠ 6) : rGd lo (rs.set j (rUt (re rs j) u)) := by
  obtain ⟨g1, g2, g3, g4, g5, g6, g7⟩ := hg
  have j0 : ¬ 0 = j := fun z => h6 (by rw [← z]; exact g3)
  have e0 : re (rs.set j (rUt (re rs j) u)) 0 = re rs 0 := by rw [re_set hj, if_neg j0]
  refine ⟨by rw [List.length_set]; exact g1, by rw [e0]; exact g2, by rw [e0]; exact g3, by rw [e0]; exact g4, by rw [e0]; exact g5, fun i hi hi2 => ?_, fun e he => ?_⟩
  · rw [List.length_set] at hi2
    rw [re_set hj]
    by_cases z : i = j
    · rw [if_pos z]; exact h6
    · rw [if_neg z]; exact g6 i hi hi2
  · obtain ⟨i, hi, rfl⟩ := re_ix he
    rw [List.length_set] at hi
    rw [re_set hj]
    by_cases z : i = j
    · rw [if_pos z]; exact g7 (re rs j) (re_mem hj)
    · rw [if_neg z]; exact g7 _ (re_mem hi)
def rTm (x : np_N) (t u : Int32) (e : zRt) : zRt := if rT e = t ∧ rM e = x then rUt e u else e
/-- the first i records have their time -/
def rTL (L : List zRt) (x : np_N) (t u : Int32) (i : Nat) : List zRt := (L.take i).map (rTm x t u) ++ L.drop i
section RTL
variable {L : List zRt} {x : np_N} {t u : Int32} {i : Nat}
theorem rTL_0 : rTL L x t u 0 = L := rfl
theorem rTL_len : (rTL L x t u i).length = L.length := by
  unfold rTL
  rw [List.length_append, List.length_map, List.length_take, List.length_drop]; omega
theorem rTL_re (hi : i < L.length) : re (rTL L x t u i) i = re L i := by
  unfold rTL re
  rw [List.getD_eq_getElem?_getD, List.getD_eq_getElem?_getD, List.getElem?_append_right (by rw [List.length_map, List.length_take]; omega), List.getElem?_drop, List.length_map, List.length_take, show i + (i - min i L.length) = i by omega]
theorem rTL_s (hi : i < L.length) : rTL L x t u (i + 1) = (L.take i).map (rTm x t u) ++ rTm x t u (re L i) :: L.drop (i + 1) := by
  unfold rTL
  rw [List.take_add_one, List.getElem?_eq_getElem hi, ← re_at hi, List.map_append, List.append_assoc]; rfl
theorem rTL_c (hi : i < L.length) : rTL L x t u i = (L.take i).map (rTm x t u) ++ re L i :: L.drop (i + 1) := by
  unfold rTL
  rw [re_at hi, ← List.drop_eq_getElem_cons hi]
theorem rTL_n (hi : i < L.length) (h : ¬ (rT (re L i) = t ∧ rM (re L i) = x)) : rTL L x t u (i + 1) = rTL L x t u i := by
  rw [rTL_s hi, rTL_c hi, show rTm x t u (re L i) = re L i from if_neg h]
theorem rTL_y (hi : i < L.length) (h : rT (re L i) = t ∧ rM (re L i) = x) : rTL L x t u (i + 1) = (rTL L x t u i).set i (rUt (re L i) u) := by
  rw [rTL_s hi, rTL_c hi, show rTm x t u (re L i) = rUt (re L i) u from if_pos h, List.set_append_right _ _ (by rw [List.length_map, List.length_take]; omega), List.length_map, List.length_take, show i - min i L.length = 0 by omega]
  rfl
theorem rTL_e : rTL L x t u L.length = L.map (rTm x t u) := by
  unfold rTL
  rw [List.take_length, List.drop_length, List.append_nil]
theorem rTm_f (e : zRt) : rM (rTm x t u e) = rM e ∧ rT (rTm x t u e) = rT e ∧ rB (rTm x t u e) = rB e ∧ rNu1 (rTm x t u e) = rNu1 e := by
  unfold rTm
  split <;> exact ⟨rfl, rfl, rfl, rfl⟩
theorem rVf_tm : rVf (L.map (rTm x t u)) = vpt (rVf L) x t u [] := by
  funext y w
  unfold vpt rVf
  rw [List.filter_map, List.map_map]
  have e : ((fun e => decide (rM e = y ∧ rT e = w)) ∘ rTm x t u) = (fun e => decide (rM e = y ∧ rT e = w)) := by
    funext e
    show decide (rM (rTm x t u e) = y ∧ rT (rTm x t u e) = w) = _
    rw [(rTm_f e).1, (rTm_f e).2.1]
  rw [e]
  by_cases z : y = x ∧ w = t
  · rw [if_pos z, List.append_nil, List.map_map]
    refine List.map_congr_left (fun e he => ?_)
    have he := of_decide_eq_true (List.mem_filter.mp he).2
    show (rU (rTm x t u e), rB (rTm x t u e)) = (u, rB e)
    rw [(rTm_f e).2.2.1]
    unfold rTm
    rw [if_pos ⟨he.2.trans z.2, he.1.trans z.1⟩]; rfl
  · rw [if_neg z]
    refine List.map_congr_left (fun e he => ?_)
    have he := of_decide_eq_true (List.mem_filter.mp he).2
    show (rU (rTm x t u e), rB (rTm x t u e)) = (rU e, rB e)
    unfold rTm
    rw [if_neg (fun q => z ⟨he.1.symm.trans q.2, he.2.symm.trans q.1⟩)]
theorem rNu_tm : rNu (L.map (rTm x t u)) = rNu L := by
  unfold rNu
  rw [List.map_map]
  congr 1
  exact List.map_congr_left (fun e _ => (rTm_f e).2.2.2)
theorem rNu_app (A B : List zRt) : rNu (A ++ B) = rNu A + rNu B := by
  unfold rNu
  rw [List.map_append, List.sum_append]
theorem rVf_pt {rs : List zRt} {e : zRt} {D : List Int32} (h : rM e = x ∧ rT e = t ∧ rU e = 0 ∧ rB e = D) : vpt (rVf (rs ++ [e])) x t u [] = vpt (rVf rs) x t u [(0, D)] := by
  funext y w
  unfold vpt
  rw [rVf_app, rVf_cons]
  by_cases z : y = x ∧ w = t
  · rw [if_pos z, if_pos z, if_pos ⟨h.1.trans z.1.symm, h.2.1.trans z.2.symm⟩, h.2.2.1, h.2.2.2, List.append_nil]; rfl
  · rw [if_neg z, if_neg z, if_neg (fun q => z ⟨q.1.symm.trans h.1, q.2.symm.trans h.2.1⟩)]
    show _ ++ ([] ++ rVf [] y w) = _
    exact List.append_nil _
end RTL
theorem rSt.tm {E : zc_E} {G : zg_G} {ro : zRo} {a c1 c2 : Nat} {lo : np_N} {W : zW} {th co se : Int32} {tp : List Int32} {v19 v20 : Value} {L : List zRt} {x : np_N} {t u : Int32} {i : Nat} (hs : rSt E G ro a c1 c2 lo (rTL L x t u i) W [] False (0, 0, [], []) th tp co se v19 v20) (hi : i < L.length) (hm : rT (re L i) = t ∧ rM (re L i) = x) (h6 : t ≠ 6) : rSt E (zg_up G (rA (re L i)) (.inr (12, [.ref (rN (re L i)), .ref (rD (re L i)), (rV (re L i)), .int (rT (re L i)), .int u]))) ro a c1 c2 lo (rTL L x t u (i + 1)) W [] False (0, 0, [], []) th tp co se v19 v20 ∧ zfr ro zKr G ro (zg_up G (rA (re L i)) (.inr (12, [.ref (rN (re L i)), .ref (rD (re L i)), (rV (re L i)), .int (rT (re L i)), .int u]))) := by
  obtain ⟨h, rfl, rfl, rfl, hc⟩ := hs
  have hl : i < (rTL L x t u i).length := by rw [rTL_len]; exact hi
  have er : re (rTL L x t u i) i = re L i := rTL_re hi
  have q := hc.2.2.2.2.2.1.tm u hl
  have g := hc.2.2.2.2.2.2.1.tm u hl (by rw [er, hm.1]; exact h6)
  rw [er, ← rTL_y hi hm] at q g
  have c1 := hc.1
  have r0 := hc.2.1
  have hq := q.2 _ _ c1 (by rw [r0]; simp)
  refine ⟨⟨h, rfl, rfl, rfl, hc.chg (q.2.w (fun r z => Or.inr (Or.inr z))) ?_ r0 q.1 g⟩, q.2.w (fun r z => by rw [z]; exact Or.inr rfl)⟩
  rw [rTL_len]
  rw [rTL_len] at hq
  exact hq.1
theorem zRec.rdt {tp : List Int32} {t : Int32} {lo x : np_N} {D : List Int32} (h : zRec tp t lo x D) : rdt t D := fun ht => by
  obtain ⟨ls, h1, h2, rfl, rfl⟩ := h
  obtain ⟨o, ls2, k1, k2, k3, k4⟩ := (zdat_nm ht).mp h1.2.2
  obtain ⟨m1, m2⟩ := zoff_n ht
  have eo : o = voff t := (nI_eq (by omega) (by omega)).mp (k1.symm.trans m1)
  refine ⟨np_low ls2, ?_, np_low_g k3.1, ?_⟩
  · rw [np_low_db k1 k2 k3 k4, eo]
  · rw [zdb_len]; omega
theorem zput.rg {t : Int32} (h : zput t) : 1 ≤ t ∧ t ≤ 65535 ∧ t ≠ 47 ∧ t ≠ 6 := by
  obtain ⟨h1, h2, h3⟩ := h
  exact ⟨Int32.not_lt.mp h1, Int32.not_lt.mp h2, fun e => h3 (Or.inr (Or.inr (Or.inl (by rw [e]; decide)))), fun e => h3 (Or.inl e)⟩
theorem rSt.addr {E : zc_E} {G : zg_G} {ro : zRo} {a c1 c2 : Nat} {lo : np_N} {rs : List zRt} {W : zW} {th co se : Int32} {tp : List Int32} {v19 v20 : Value} {h : Nat → Nat} {fr : Nat → Option Nat} {q q19 q20 : Nat} {x : np_N} {t : Int32} {D : List Int32} (hc : rCx E G ro h lo rs W [] False (0, 0, [], []) th tp co se v19 v20) (e0 : h 0 = a) (e1 : h 40 = c1) (e2 : h 41 = c2) (hn : rs.length < 2000) (hq : G q = none) (h4 : G (h 4) = some (.inl (E.2.1 4, 2000, .inr (.inr (.inr (.inr fr)))))) (hfr : ∀ i, i < rs.length → fr i = some (rA (re rs i))) (hnm : rNm E G ro q19 x) (hby : zBy E G q20 D) (hr20 : ro q20 = (0, 0)) (hne : ∀ e ∈ rs, rD e ≠ q20) (hlo : lo <:+ x) (hz : zput t) (hD : D.length < 2 ^ 20) (hd : rdt t D) (v : Value) {e9 : zRt} (he9 : e9 = (q, q19, q20, .null, x, t, 0, D)) {G2 : zg_G} (hG2 : G2 = zg_up (zg_up (zg_up G q (.inr (12, [.ref q19, .ref q20, .null, .int t, .int 0]))) (h 4) (.inl (E.2.1 4, 2000, .inr (.inr (.inr (.inr (va_up fr rs.length (some q)))))))) a (.inr (11, [.int th, .ref (h 1), .int (nI tp.length), .ref (h 3), .ref (h 4), .int (nI (rs.length + 1)), .ref (h 6), .ref (h 7), .ref (h 8), .ref (h 9), .ref (h 10), .ref (h 11), .ref (h 12), .int (nI (wln W)), .int co, .ref (h 15), .int (nI (rPw W + ([] : List Int32).length)), .int se, .ref (h 18), v19, v20]))) : rSt E G2 (zrn ro q (21, 0)) a c1 c2 lo (rs ++ [e9]) W [] False (0, 0, [], []) th tp co se v19 v20 ∧ zfr ro zKr G (zrn ro q (21, 0)) G2 := by
  subst e0
  have r0 := hc.2.1
  have hrs := hc.2.2.2.2.2.1
  have hg := hc.2.2.2.2.2.2.1
  obtain ⟨⟨-, a3, a4⟩, b1, b2, b3, b4⟩ := id hrs
  have n0 : h 0 ≠ q := fun z => by rw [← z, hc.1] at hq; cases hq
  have n4 : h 4 ≠ q := fun z => by rw [← z, h4] at hq; cases hq
  have n04 : h 4 ≠ h 0 := fun z => by rw [z, r0] at b1; simp at b1
  have hf : zfr ro (fun r => r = (20, 0) ∨ r = (20, 4)) G (zrn ro q (21, 0)) G2 := fun p e hp hk => by
    have m1 : p ≠ h 0 := fun z => hk (Or.inl (by rw [z]; exact r0))
    have m2 : p ≠ h 4 := fun z => hk (Or.inr (by rw [z]; exact b1))
    have m3 : p ≠ q := fun z => by rw [z, hq] at hp; cases hp
    exact ⟨by rw [hG2, zg_up_ne m1, zg_up_ne m2, zg_up_ne m3]; exact hp, zrn_ne m3⟩
  have hro : ∀ p e, G p = some e → zrn ro q (21, 0) p = ro p := fun p e hp => zrn_ne (zg_fr hq hp)
  have gq : G2 q = some (.inr (12, [.ref q19, .ref q20, .null, .int t, .int 0])) := by rw [hG2, zg_up_ne n0.symm, zg_up_ne n4.symm]; exact zg_up_self _ _ _
  have g4 : G2 (h 4) = some (.inl (E.2.1 4, 2000, .inr (.inr (.inr (.inr (va_up fr rs.length (some q))))))) := by rw [hG2, zg_up_ne n04]; exact zg_up_self _ _ _
  have hl9 : (rs ++ [e9]).length = rs.length + 1 := by rw [List.length_append]; rfl
  have re_l : ∀ i, i < rs.length → re (rs ++ [e9]) i = re rs i := fun i hi => by
    unfold re
    rw [List.getD_eq_getElem?_getD, List.getD_eq_getElem?_getD, List.getElem?_append_left hi]
  have re_n : re (rs ++ [e9]) rs.length = e9 := by
    unfold re
    rw [List.getD_eq_getElem?_getD, List.getElem?_append_right (Nat.le_refl _), Nat.sub_self]; rfl
  have hnm2 := hnm.fr hf (by simp)
  have hby2 := hby.fr hr20 hf (by simp)
  obtain ⟨fn, w1, w2, w3, w4, w5⟩ := id hnm2
  obtain ⟨p1, p2, p3, p4⟩ := hz.rg
  have hA : ∀ e ∈ rs, rA e ≠ q := fun e he z => by
    have := (a4 e he).1
    rw [z, hq] at this; cases this
  have hRs2 : rRs E G2 (zrn ro q (21, 0)) (h 4) (rs ++ [e9]) := by
    refine ⟨⟨⟨_, g4, fun i hi => ?_⟩, by omega, fun e he => ?_⟩, (hro _ _ h4).trans b1, ?_, ?_, fun e he => ?_⟩
    · by_cases z : i = rs.length
      · rw [z, re_n, vup_s, he9]; rfl
      · rw [vup_o z, re_l i (by omega)]; exact hfr i (by omega)
    · rcases List.mem_append.mp he with he | he
      · obtain ⟨c1, c2, c3, -⟩ := b4 e he
        exact (rRR_fr (a4 e he) c1 c2 c3 hf (by simp) (by simp)).1
      · rw [List.mem_singleton.mp he, he9]
        exact ⟨gq, ⟨fn, w1, w2, w3, w4⟩, hby2.1⟩
    · rw [List.map_append]
      refine List.nodup_append.mpr ⟨b2, List.nodup_cons.mpr ⟨List.not_mem_nil, List.nodup_nil⟩, fun a9 ha9 b9 hb9 => ?_⟩
      obtain ⟨e, he, rfl⟩ := List.mem_map.mp ha9
      rw [List.map_singleton, List.mem_singleton, he9] at hb9
      rw [hb9]; exact hA e he
    · rw [List.map_append]
      refine List.nodup_append.mpr ⟨b3, List.nodup_cons.mpr ⟨List.not_mem_nil, List.nodup_nil⟩, fun a9 ha9 b9 hb9 => ?_⟩
      obtain ⟨e, he, rfl⟩ := List.mem_map.mp ha9
      rw [List.map_singleton, List.mem_singleton, he9] at hb9
      rw [hb9]; exact hne e he
    · rcases List.mem_append.mp he with he | he
      · obtain ⟨c1, c2, c3, c4⟩ := b4 e he
        obtain ⟨-, d1, d2, d3⟩ := rRR_fr (a4 e he) c1 c2 c3 hf (by simp) (by simp)
        refine ⟨d1, d2, d3, ?_⟩
        rcases c4 with c4 | ⟨z, k1, k2, k3, k4⟩
        · exact Or.inl c4
        · have q3 := k2.fr k3 hf (by simp)
          exact Or.inr ⟨z, k1, q3.1, q3.2, k4⟩
      · rw [List.mem_singleton.mp he, he9]
        exact ⟨zrn_self _ _ _, w5, hby2.2, Or.inl rfl⟩
  have hg2 : rGd lo (rs ++ [e9]) := by
    obtain ⟨g1, g2, g3, g4, g5, g6, g7⟩ := hg
    refine ⟨by omega, by rw [re_l 0 g1]; exact g2, by rw [re_l 0 g1]; exact g3, by rw [re_l 0 g1]; exact g4, by rw [re_l 0 g1]; exact g5, fun i hi hi2 => ?_, fun e he => ?_⟩
    · by_cases z : i = rs.length
      · rw [z, re_n, he9]; exact p4
      · rw [re_l i (by omega)]; exact g6 i hi (by omega)
    · rcases List.mem_append.mp he with he | he
      · exact g7 e he
      · rw [List.mem_singleton.mp he, he9]
        exact ⟨hlo, hnm.fn.1, hnm.fn.2, p1, p2, hD, hd, p3⟩
  refine ⟨⟨h, rfl, e1, e2, hc.chg (hf.w (fun r z => z.elim Or.inl (fun z => Or.inr (Or.inl z)))) ?_ ((hro _ _ hc.1).trans r0) hRs2 hg2⟩, hf.w (fun r z => by rcases z with z | z <;> (rw [z]; exact Or.inl rfl))⟩
  rw [hG2, hl9]; exact zg_up_self _ _ _

abbrev rm_Mo_put (n0 : Nat) : Room := { frames := 6, cells := 4, slots := n0 + 520, locals := 160 }
set_option maxHeartbeats 4000000 in
set_option maxRecDepth 100000 in
/-- put(t, tm), of the reference -/
theorem t_Mo_put (l : Launch) (E : zc_E) (G : zg_G) (a c1 c2 : Nat) (ro : zRo) (lo : np_N) (rs : List zRt) (Wz : zW) (th co se : Int32) (hse : se = 0 ∨ se = 1) (tp : List Int32) (v19 v20 : Value) (hst : rSt E G ro a c1 c2 lo rs Wz [] False (0, 0, [], []) th tp co se v19 v20) (hn9 : rs.length < 2000) (t tm : Int32) : zMi l E y_Mo_put c_Mo_put 4 (some .int) (rm_Mo_put tp.length) [.ref a, .int t, .int tm] G (fun (r : Int32) (G2 : zg_G) => (¬ tm < 0 ∧ ∃ r2 rs2 x D, zRec tp t lo x D ∧ (((∃ j, isFst (rVf rs x t) D j) ∧ rVf rs2 = vpt (rVf rs) x t tm [] ∧ rs2.length = rs.length ∧ rNu rs2 = rNu rs) ∨ ((∀ q, q ∈ rVf rs x t → q.2 ≠ D) ∧ ¬ (vD (rVf rs) x ∧ (t = 5 ∨ rVf rs x 5 ≠ [])) ∧ rVf rs2 = vpt (rVf rs) x t tm [(0, D)] ∧ rs2.length = rs.length + 1 ∧ rNu rs2 = rNu rs + (D.length + 1))) ∧ r = nI ((rVf rs2 x t).length) ∧ rO E G2 r2 a c1 c2 lo rs2 Wz ([]) 0 ∧ zfr ro zKr G r2 G2) ∨ ((tm < 0 ∨ ¬ ∃ x D, zRec tp t lo x D) ∧ r = 0 ∧ ∃ r2, rO E G2 r2 a c1 c2 lo rs Wz tp 1 ∧ zfr ro zKr G r2 G2) ∨ (¬ tm < 0 ∧ (∃ x D, zRec tp t lo x D ∧ (∀ q, q ∈ rVf rs x t → q.2 ≠ D) ∧ vD (rVf rs) x ∧ (t = 5 ∨ rVf rs x 5 ≠ [])) ∧ r = 0 ∧ ∃ r2, rO E G2 r2 a c1 c2 lo rs Wz tp 3 ∧ zfr ro zKr G r2 G2)) := by
  refine zMi.of (by decide) (Nat.le_of_ble_eq_true rfl) ?_
  intro p e s m args below meth c Q hZ hG hret ls hl
  obtain ⟨hx, hb, hr, hts, hown, hlocks, hml, hnm, hbase, hK, hN, hQ⟩ := hZ
  have hl : lv_has ls 4 [(0, .ref a), (1, .int t), (2, .int tm)] := hl
  have hS : zg_S (zc_b E) s.heap s.heap [] := va_S.rf
  obtain ⟨h, eh0, eh1, eh2, hc⟩ := id hst
  obtain ⟨ra, rb, ⟨fm, rt1, rt2, rt3, rt4⟩, rtl, ⟨fo, rn1, rn2, rn3, rn4, rn5⟩, rr, rg, ras⟩ := id hc
  rw [eh0] at ra
  obtain ⟨⟨fr, rm4, hfr⟩, hn2, hRs⟩ := id rr.1
  refine lv_aload_n hx hb d_Mo_put_0 rfl (lv_at hl 0 rfl) ?_
  refine lv_iconst (v := 0) hx hb d_Mo_put_1 (by decide) ?_
  refine zg_put (ci := 11) (v := .int 0) (ty := .int) (C := "ZoneAnswersModel") (T := T_Mo) (N := 21) hx hb hts zi_Mo t_Mo t_Mo_ok n_Mo hown hK hG hS ra rfl 0 (by decide) (hts _ w_1281) (fun _ h9 => h9) rfl (by decide +kernel) rfl rfl (Nat.le_of_ble_eq_true rfl) d_Mo_put_2 (fun H locs hG hS => ?_)
  obtain ⟨G1, eG1⟩ : ∃ z : zg_G, z = zg_up G a (.inr (11, [.int 0, .ref (h 1), .int (nI tp.length), .ref (h 3), .ref (h 4), .int (nI rs.length), .ref (h 6), .ref (h 7), .ref (h 8), .ref (h 9), .ref (h 10), .ref (h 11), .ref (h 12), .int (nI (wln Wz)), .int co, .ref (h 15), .int (nI (rPw Wz + ([] : List Int32).length)), .int se, .ref (h 18), v19, v20])) := ⟨_, rfl⟩
  have hG : zP E G1 H := by rw [eG1]; exact hG
  have k2 : G1 a = some (.inr (11, [.int 0, .ref (h 1), .int (nI tp.length), .ref (h 3), .ref (h 4), .int (nI rs.length), .ref (h 6), .ref (h 7), .ref (h 8), .ref (h 9), .ref (h 10), .ref (h 11), .ref (h 12), .int (nI (wln Wz)), .int co, .ref (h 15), .int (nI (rPw Wz + ([] : List Int32).length)), .int se, .ref (h 18), v19, v20])) := by rw [eG1]; exact zg_up_self _ _ _
  have k3 : G1 (h 4) = some (.inl (E.2.1 4, 2000, .inr (.inr (.inr (.inr fr))))) := by rw [eG1, zg_up_ne (zg_ne rm4 ra (by intro h; simp at h))]; exact rm4
  have k4 : G1 (h 3) = some (.inl (E.2.1 0, np_len lo, .inl fo)) := by rw [eG1, zg_up_ne (zg_ne rn1 ra (by intro h; simp at h))]; exact rn1
  have k5 : G1 (h 1) = some (.inl (E.2.1 0, 65536, .inl fm)) := by rw [eG1, zg_up_ne (zg_ne rt1 ra (by intro h; simp at h))]; exact rt1
  obtain ⟨hst1, hs1⟩ := rSt.set hst 0 co se v19 v20 ra
  rw [← eG1] at hst1 hs1
  have hf1 := hs1
  obtain ⟨h1, eh01, eh11, eh21, hc1⟩ := id hst1
  obtain ⟨ra1, rb1, ⟨fm1, rt11, rt21, rt31, rt41⟩, rtl1, ⟨fo1, rn11, rn21, rn31, rn41, rn51⟩, rr1, rg1, ras1⟩ := id hc1
  rw [eh01] at ra1
  obtain ⟨⟨fr1, rm41, hfr1⟩, hn21, hRs1⟩ := id rr1.1
  refine lv_iload_n hx hb d_Mo_put_5 rfl (lv_at hl 2 rfl) ?_
  refine lv_if_lt (tgt := 17) hx hb d_Mo_put_6 (by decide) (fun c6 => ?_) (fun c6 => ?_)
  · have hbad : tm < 0 ∨ ¬ ∃ x D, zRec tp t lo x D := Or.inl c6
    refine lv_aload_n hx hb d_Mo_put_17 rfl (lv_at hl 0 rfl) ?_
    refine lv_iconst (v := 1) hx hb d_Mo_put_18 (by decide) ?_
    have hGo19 := hG
    refine zk_i (va_runV (As := [.int 1]) (rest := []) ⟨hx, hb, hml, hown, hts⟩ (t_Mo_fail l E G1 a (h1 1) (h1 3) (h1 4) (h1 6) (h1 7) (h1 8) (h1 9) (h1 10) (h1 11) (h1 12) (h1 15) (h1 18) 0 (nI tp.length) (nI rs.length) (nI (wln Wz)) co (nI (rPw Wz + ([] : List Int32).length)) se v19 v20 ra1 1) (zcV 1 hts w_1354 w_1356 wp_26 w_30 w_1357 (by decide +kernel) ⟨Nat.le_of_ble_eq_true rfl, Nat.le_of_ble_eq_true rfl⟩) (zc_preV hbase hK hN hQ hG hS ra1 rfl) rfl rfl hl.1 rfl (lv_room (Nat.le_of_ble_eq_true rfl)) d_Mo_put_19 ⟨(by dsimp only; omega), (by dsimp only; omega)⟩) hS (fun r19 G19 H locs hp19 hG hS => ?_)
    refine zi_as (y := 0) hp19.1 ?_
    obtain ⟨hstf, hsf⟩ := rSt.set hst1 1 co se v19 v20 ra1
    rw [← hp19.2] at hstf hsf
    have hff := hf1.tr hsf
    exact hret _ _ _ _ _ _ _ _ _ hr (rfl) (Or.inr (Or.inl ⟨hbad, rfl, ro, hstf.o hse, hff⟩)) hG hS (by dsimp only; omega) (by dsimp only; omega) d_Mo_put_22
  · refine lv_aload_n hx hb d_Mo_put_9 rfl (lv_at hl 0 rfl) ?_
    refine lv_iload_n hx hb d_Mo_put_10 rfl (lv_at hl 1 rfl) ?_
    have hGo11 := hG
    refine zk_i (va_runV (As := [.int t]) (rest := []) ⟨hx, hb, hml, hown, hts⟩ (t_Mo_record l E G1 a c1 c2 ro lo rs Wz 0 co se hse tp v19 v20 hst1 t) (zcV 1 hts w_1379 w_1381 wp_27 w_30 w_1382 (by decide +kernel) ⟨Nat.le_of_ble_eq_true rfl, Nat.le_of_ble_eq_true rfl⟩) (zc_preV hbase hK hN hQ hG hS ra1 rfl) rfl rfl hl.1 rfl (lv_room (Nat.le_of_ble_eq_true rfl)) d_Mo_put_11 ⟨(by dsimp only; omega), (by dsimp only; omega)⟩) hS (fun r11 G11 H locs hp11 hG hS => ?_)
    rcases hp11 with ⟨ro2, x9, D9, q19, q20, hzr, er11, hst2, hnm2, hby2, hr20, hne2, hz2⟩ | ⟨hbad, er11, ro2, w19, w20, hst2, hz2⟩
    · refine zi_as (y := 1) er11 ?_
      have hf2 := hf1.tr hz2
      obtain ⟨fd2, d12, d22, d32⟩ := id hby2
      obtain ⟨hDl, hzp, -⟩ := hzr.ln
      obtain ⟨h2, eh02, eh12, eh22, hc2⟩ := id hst2
      obtain ⟨ra2, rb2, ⟨fm2, rt12, rt22, rt32, rt42⟩, rtl2, ⟨fo2, rn12, rn22, rn32, rn42, rn52⟩, rr2, rg2, ras2⟩ := id hc2
      rw [eh02] at ra2
      obtain ⟨⟨fr2, rm42, hfr2⟩, hn22, hRs2⟩ := id rr2.1
      obtain ⟨f_q192, n1_q192, n2_q192, n3_q192, n4_q192, n5_q192⟩ := id hnm2
      have sm_q192 := n3_q192.2
      refine lv_if_ne (tgt := 23) hx hb d_Mo_put_14 (by decide) (fun c14 => ?_) (fun c14 => ?_)
      · have b14 : ¬ 1 = 0 := fun q => c14 ((nI_eq (a := 1) (b := 0) (by omega) (by omega)).mpr q)
        refine lv_aload_n hx hb d_Mo_put_23 rfl (lv_at hl 0 rfl) ?_
        refine lv_aload_n hx hb d_Mo_put_24 rfl (lv_at hl 0 rfl) ?_
        refine zg_get (ci := 11) (C := "ZoneAnswersModel") (T := T_Mo) (N := 21) hx hb hts zi_Mo hown hK hG ra2 rfl 19 (by decide) (hts _ w_1300) (fun _ h9 => h9) rfl d_Mo_put_25 ?_
        refine lv_iload_n hx hb d_Mo_put_28 rfl (lv_at hl 1 rfl) ?_
        refine lv_aload_n hx hb d_Mo_put_29 rfl (lv_at hl 0 rfl) ?_
        refine zg_get (ci := 11) (C := "ZoneAnswersModel") (T := T_Mo) (N := 21) hx hb hts zi_Mo hown hK hG ra2 rfl 20 (by decide) (hts _ w_1301) (fun _ h9 => h9) rfl d_Mo_put_30 ?_
        have hGo33 := hG
        refine zk_i (va_runV (As := [.ref q19, .int t, .ref q20]) (rest := []) ⟨hx, hb, hml, hown, hts⟩ (t_Mo_find l E G11 rs a (h2 1) (h2 3) (h2 4) (h2 6) (h2 7) (h2 8) (h2 9) (h2 10) (h2 11) (h2 12) (h2 15) (h2 18) 0 (nI tp.length) (nI (wln Wz)) co (nI (rPw Wz + ([] : List Int32).length)) se (.ref q19) (.ref q20) ra2 rr2.1 q19 x9 f_q192 n1_q192 n2_q192 n3_q192 q20 D9 fd2 d12 d22 (by omega) (fun e he => by have := (rg2.2.2.2.2.2.2 e he).2.2.2.2.2.1; omega) t) (zcV 3 hts w_1401 w_1403 wp_29 w_30 w_1404 (by decide +kernel) ⟨Nat.le_of_ble_eq_true rfl, Nat.le_of_ble_eq_true rfl⟩) (zc_preV hbase hK hN hQ hG hS ra2 rfl) rfl rfl hl.1 rfl (lv_room (Nat.le_of_ble_eq_true rfl)) d_Mo_put_33 ⟨(by dsimp only; omega), (by dsimp only; omega)⟩) hS (fun r33 G33 H locs hp33 hG hS => ?_)
        rcases hp33 with ⟨⟨i9, hi9, ⟨hi1, hi2, hi3⟩, hmin, er33⟩ | ⟨hno, er33⟩, eg33⟩
        · have hG : zP E G11 H := eg33 ▸ hG
          refine zi_as (y := nI i9) er33 ?_
          obtain ⟨hfst, hVd⟩ := rfind_y hi9 ⟨hi1, hi2, hi3⟩ hmin
          have hi0 : 0 < i9 := Nat.pos_of_ne_zero (fun z => hzp.2.2 (Or.inl (by rw [← hi1, z]; exact rg2.2.2.1)))
          refine lv_if_ge (tgt := 139) hx hb d_Mo_put_36 (by decide) (fun c36 => ?_) (fun c36 => ?_)
          · have b36 : 0 ≤ i9 := (nI_leI (a := 0) (b := i9) (by omega) (by omega)).mp c36
            refine lv_iconst (v := 0) hx hb d_Mo_put_139 (by decide) ?_
            refine zi_as (y := nI 0) (nI_0.symm) ?_
            refine lv_istore_n (lv' := [(3, .int (nI 0)), (0, .ref a), (1, .int t), (2, .int tm)]) hx hb d_Mo_put_140 rfl hl (by decide) rfl (fun ls hl => ?_)
            have loop141 : ∀ (N : Nat) (Gv : zg_G) (i : Nat) (H : Heap) (locs : List Loc), (rs.length - i) < N → (i ≤ rs.length) → (rSt E Gv ro2 a c1 c2 lo (rTL rs x9 t tm (i)) Wz [] False (0, 0, [], []) 0 tp co se (.ref q19) (.ref q20)) → (rNm E Gv ro2 q19 x9) → (zfr ro zKr G ro2 Gv) → zP E Gv H → zg_S (zc_b E) s.heap H locs → ∀ (ls : Array Slot), lv_has ls 4 [(0, .ref a), (1, .int t), (2, .int tm), (3, .int (nI i))] → W p l e (rm_Mo_put tp.length) s m args below meth c H locs 4 (tp.length + 520) Q (F0 m 141 ls []) := by
              intro N
              induction N with
              | zero =>
                intro Gv i H locs hlt
                exact absurd hlt (Nat.not_lt_zero _)
              | succ N ih =>
                intro Gv i H locs hlt hi hst8 hnm8 hf8 hG hS ls hl
                obtain ⟨h8, eh08, eh18, eh28, hc8⟩ := id hst8
                obtain ⟨ra8, rb8, ⟨fm8, rt18, rt28, rt38, rt48⟩, rtl8, ⟨fo8, rn18, rn28, rn38, rn48, rn58⟩, rr8, rg8, ras8⟩ := id hc8
                rw [eh08] at ra8
                obtain ⟨⟨fr8, rm48, hfr8⟩, hn28, hRs8⟩ := id rr8.1
                obtain ⟨f_q198, n1_q198, n2_q198, n3_q198, n4_q198, n5_q198⟩ := id hnm8
                have sm_q198 := n3_q198.2
                have hTl : (rTL rs x9 t tm (i)).length = rs.length := rTL_len
                refine lv_iload_n hx hb d_Mo_put_141 rfl (lv_at hl 3 rfl) ?_
                refine lv_aload_n hx hb d_Mo_put_142 rfl (lv_at hl 0 rfl) ?_
                refine zg_get (ci := 11) (C := "ZoneAnswersModel") (T := T_Mo) (N := 21) hx hb hts zi_Mo hown hK hG ra8 rfl 5 (by decide) (hts _ w_1286) (fun _ h9 => h9) rfl d_Mo_put_143 ?_
                refine lv_icmp_ge (tgt := 197) hx hb d_Mo_put_146 (by decide) (fun c146 => ?_) (fun c146 => ?_)
                · have b146 : ((rTL rs x9 t tm (i)).length) ≤ i := (nI_leI (a := ((rTL rs x9 t tm (i)).length)) (b := i) (by omega) (by omega)).mp c146
                  refine lv_aload_n hx hb d_Mo_put_197 rfl (lv_at hl 0 rfl) ?_
                  refine lv_iconst (v := 0) hx hb d_Mo_put_198 (by decide) ?_
                  refine zi_as (y := nI 0) (nI_0.symm) ?_
                  refine zg_put (ci := 11) (v := .int (nI 0)) (ty := .int) (C := "ZoneAnswersModel") (T := T_Mo) (N := 21) hx hb hts zi_Mo t_Mo t_Mo_ok n_Mo hown hK hG hS ra8 rfl 2 (by decide) (hts _ w_1283) (fun _ h9 => h9) rfl (by decide +kernel) rfl rfl (Nat.le_of_ble_eq_true rfl) d_Mo_put_199 (fun H locs hG hS => ?_)
                  obtain ⟨G306, eG306⟩ : ∃ z : zg_G, z = zg_up Gv a (.inr (11, [.int 0, .ref (h8 1), .int (nI 0), .ref (h8 3), .ref (h8 4), .int (nI ((rTL rs x9 t tm (i)).length)), .ref (h8 6), .ref (h8 7), .ref (h8 8), .ref (h8 9), .ref (h8 10), .ref (h8 11), .ref (h8 12), .int (nI (wln Wz)), .int co, .ref (h8 15), .int (nI (rPw Wz + ([] : List Int32).length)), .int se, .ref (h8 18), .ref q19, .ref q20])) := ⟨_, rfl⟩
                  have hG : zP E G306 H := by rw [eG306]; exact hG
                  have k307 : G306 a = some (.inr (11, [.int 0, .ref (h8 1), .int (nI 0), .ref (h8 3), .ref (h8 4), .int (nI ((rTL rs x9 t tm (i)).length)), .ref (h8 6), .ref (h8 7), .ref (h8 8), .ref (h8 9), .ref (h8 10), .ref (h8 11), .ref (h8 12), .int (nI (wln Wz)), .int co, .ref (h8 15), .int (nI (rPw Wz + ([] : List Int32).length)), .int se, .ref (h8 18), .ref q19, .ref q20])) := by rw [eG306]; exact zg_up_self _ _ _
                  have k308 : G306 (h8 4) = some (.inl (E.2.1 4, 2000, .inr (.inr (.inr (.inr fr8))))) := by rw [eG306, zg_up_ne (zg_ne rm48 ra8 (by intro h; simp at h))]; exact rm48
                  have k309 : G306 (h8 3) = some (.inl (E.2.1 0, np_len lo, .inl fo8)) := by rw [eG306, zg_up_ne (zg_ne rn18 ra8 (by intro h; simp at h))]; exact rn18
                  have k310 : G306 (h8 1) = some (.inl (E.2.1 0, 65536, .inl fm8)) := by rw [eG306, zg_up_ne (zg_ne rt18 ra8 (by intro h; simp at h))]; exact rt18
                  have k311 : G306 q19 = some (.inl (E.2.1 0, np_len x9, .inl f_q198)) := by rw [eG306, zg_up_ne (zg_ne n1_q198 ra8 (by intro h; simp at h))]; exact n1_q198
                  obtain ⟨hst7, hs7⟩ := rSt.tk hst8 0 (Nat.zero_le _) _ _ 0 ra8
                  rw [← eG306, List.take_zero] at hst7
                  rw [← eG306] at hs7
                  have hf7 := hf8.tr hs7
                  have hnm7 := hnm8.fr hs7 zKr_0
                  have hiE : i = rs.length := by omega
                  rw [hiE, rTL_e] at hst7
                  obtain ⟨h7, eh07, eh17, eh27, hc7⟩ := id hst7
                  obtain ⟨ra7, rb7, ⟨fm7, rt17, rt27, rt37, rt47⟩, rtl7, ⟨fo7, rn17, rn27, rn37, rn47, rn57⟩, rr7, rg7, ras7⟩ := id hc7
                  rw [eh07] at ra7
                  obtain ⟨⟨fr7, rm47, hfr7⟩, hn27, hRs7⟩ := id rr7.1
                  obtain ⟨f_q197, n1_q197, n2_q197, n3_q197, n4_q197, n5_q197⟩ := id hnm7
                  have sm_q197 := n3_q197.2
                  refine lv_aload_n hx hb d_Mo_put_202 rfl (lv_at hl 0 rfl) ?_
                  refine lv_aload_n hx hb d_Mo_put_203 rfl (lv_at hl 0 rfl) ?_
                  refine zg_get (ci := 11) (C := "ZoneAnswersModel") (T := T_Mo) (N := 21) hx hb hts zi_Mo hown hK hG ra7 rfl 19 (by decide) (hts _ w_1300) (fun _ h9 => h9) rfl d_Mo_put_204 ?_
                  refine lv_iload_n hx hb d_Mo_put_207 rfl (lv_at hl 1 rfl) ?_
                  refine zk_i (va_runV (As := [.ref q19, .int t]) (rest := []) ⟨hx, hb, hml, hown, hts⟩ (t_Mo_size l E G306 (rs.map (rTm x9 t tm)) a (h7 1) (h7 3) (h7 4) (h7 6) (h7 7) (h7 8) (h7 9) (h7 10) (h7 11) (h7 12) (h7 15) (h7 18) 0 (nI (([] : List Int32).length)) (nI (wln Wz)) co (nI (rPw Wz + ([] : List Int32).length)) se (.ref q19) (.ref q20) ra7 rr7.1 q19 x9 f_q197 n1_q197 n2_q197 n3_q197 t) (zcV 2 hts w_1417 w_1419 wp_32 w_30 w_1420 (by decide +kernel) ⟨Nat.le_of_ble_eq_true rfl, Nat.le_of_ble_eq_true rfl⟩) (zc_preV hbase hK hN hQ hG hS ra7 rfl) rfl rfl hl.1 rfl (lv_room (Nat.le_of_ble_eq_true rfl)) d_Mo_put_208 ⟨(by dsimp only; omega), (by dsimp only; omega)⟩) hS (fun r208 G208 H locs hp208 hG hS => ?_)
                  have hG : zP E G306 H := hp208.2 ▸ hG
                  refine zi_as (y := nI (zct (rs.map (rTm x9 t tm)) t x9 (rs.map (rTm x9 t tm)).length)) hp208.1 ?_
                  exact hret _ _ _ _ _ _ _ _ _ hr (rfl) (Or.inl ⟨c6, ro2, (rs.map (rTm x9 t tm)), x9, D9, hzr, Or.inl ⟨⟨_, hfst⟩, rVf_tm, List.length_map _, rNu_tm⟩, by rw [zct_all], hst7.o hse, hf7⟩) hG hS (by dsimp only; omega) (by dsimp only; omega) d_Mo_put_211
                · have b146 : ¬ ((rTL rs x9 t tm (i)).length) ≤ i := fun q => c146 ((nI_leI (a := ((rTL rs x9 t tm (i)).length)) (b := i) (by omega) (by omega)).mpr q)
                  have hin : i < rs.length := by omega
                  have hre : re (rTL rs x9 t tm (i)) i = re rs i := rTL_re hin
                  have hin8 : i < (rTL rs x9 t tm (i)).length := by omega
                  have hrr := hRs8 _ (re_mem hin8)
                  rw [hre] at hrr
                  obtain ⟨hr1, ⟨nf, hr2, hr3, hr4, hr5⟩, df, hr6, hr7, hr8⟩ := hrr
                  have hfi := hfr8 i hin8
                  rw [hre] at hfi
                  have sm := hr4.2
                  refine lv_aload_n hx hb d_Mo_put_149 rfl (lv_at hl 0 rfl) ?_
                  refine zg_get (ci := 11) (C := "ZoneAnswersModel") (T := T_Mo) (N := 21) hx hb hts zi_Mo hown hK hG ra8 rfl 4 (by decide) (hts _ w_1285) (fun _ h9 => h9) rfl d_Mo_put_150 ?_
                  refine lv_iload_n hx hb d_Mo_put_153 rfl (lv_at hl 3 rfl) ?_
                  refine zg_aldq hx hb hK hG 4 rm48 rfl (vp_in_nI (by omega) (by omega)) d_Mo_put_154 ?_
                  refine zr_as (y := fr8 i) (by rw [zi_n _ (by omega)]) ?_
                  refine zr_some (a := rA (re rs i)) (hfi) ?_
                  refine zg_get (ci := 12) (C := "ZoneAnswersModel$Rec") (T := T_Re) (N := 5) hx hb hts zi_Re hown hK hG hr1 rfl 3 (by decide) (hts _ w_1268) (fun _ h9 => h9) rfl d_Mo_put_155 ?_
                  refine lv_iload_n hx hb d_Mo_put_158 rfl (lv_at hl 1 rfl) ?_
                  refine lv_icmp_ne (tgt := 191) hx hb d_Mo_put_159 (by decide) (fun c159 => ?_) (fun c159 => ?_)
                  · have hsk : rTL rs x9 t tm (i + 1) = rTL rs x9 t tm (i) := rTL_n hin (fun z => c159 z.1)
                    have hst9 := hst8
                    rw [← hsk] at hst9
                    have hnm9 := hnm8
                    have hf9 := hf8
                    refine lv_iinc (v := nI (i + 1)) (lv' := [(3, .int (nI (i + 1))), (0, .ref a), (1, .int t), (2, .int tm)]) hx hb d_Mo_put_191 hl (k := 3) rfl (nI_add i 1) (by decide) rfl (fun ls hl => ?_)
                    refine lv_goto (tgt := 141) hx hb d_Mo_put_194 (by decide) ?_
                    exact ih Gv (i + 1) _ _ (by omega) (by omega) (hst9) (hnm9) (hf9) hG hS ls (lv_sub hl [1, 2, 3, 0] rfl)
                  · refine lv_aload_n hx hb d_Mo_put_162 rfl (lv_at hl 0 rfl) ?_
                    refine zg_get (ci := 11) (C := "ZoneAnswersModel") (T := T_Mo) (N := 21) hx hb hts zi_Mo hown hK hG ra8 rfl 4 (by decide) (hts _ w_1285) (fun _ h9 => h9) rfl d_Mo_put_163 ?_
                    refine lv_iload_n hx hb d_Mo_put_166 rfl (lv_at hl 3 rfl) ?_
                    refine zg_aldq hx hb hK hG 4 rm48 rfl (vp_in_nI (by omega) (by omega)) d_Mo_put_167 ?_
                    refine zr_as (y := fr8 i) (by rw [zi_n _ (by omega)]) ?_
                    refine zr_some (a := rA (re rs i)) (hfi) ?_
                    refine zg_get (ci := 12) (C := "ZoneAnswersModel$Rec") (T := T_Re) (N := 5) hx hb hts zi_Re hown hK hG hr1 rfl 0 (by decide) (hts _ w_1265) (fun _ h9 => h9) rfl d_Mo_put_168 ?_
                    refine lv_aload_n hx hb d_Mo_put_171 rfl (lv_at hl 0 rfl) ?_
                    refine zg_get (ci := 11) (C := "ZoneAnswersModel") (T := T_Mo) (N := 21) hx hb hts zi_Mo hown hK hG ra8 rfl 19 (by decide) (hts _ w_1300) (fun _ h9 => h9) rfl d_Mo_put_172 ?_
                    refine zk_i (va_runS (As := [.ref (rN (re rs i)), .ref q19]) (rest := []) ⟨hx, hb, hml, hown, hts⟩ (t_Ns_same l E Gv (rN (re rs i)) (np_len (rM (re rs i))) nf hr2 q19 (np_len x9) f_q198 n1_q198 (by omega) (by omega)) (zcS 2 hts w_1405 w_1406 w_33 w_1407 (by decide +kernel) ⟨Nat.le_of_ble_eq_true rfl, Nat.le_of_ble_eq_true rfl⟩) (zc_pre hbase hK hN hQ hG hS) rfl rfl hl.1 rfl (lv_room (Nat.le_of_ble_eq_true rfl)) d_Mo_put_175 ⟨(by dsimp only; omega), (by dsimp only; omega)⟩) hS (fun r175 G175 H locs hp175 hG hS => ?_)
                    have hG : zP E Gv H := hp175.2 ▸ hG
                    refine lv_if_eq (tgt := 191) hx hb d_Mo_put_178 (by decide) (fun c178 => ?_) (fun c178 => ?_)
                    · have hsk : rTL rs x9 t tm (i + 1) = rTL rs x9 t tm (i) := rTL_n hin (fun z => hp175.1.z c178 ((zsm_n hr3 n2_q198 hr4 n3_q198).mpr z.2))
                      have hst9 := hst8
                      rw [← hsk] at hst9
                      have hnm9 := hnm8
                      have hf9 := hf8
                      refine lv_iinc (v := nI (i + 1)) (lv' := [(3, .int (nI (i + 1))), (0, .ref a), (1, .int t), (2, .int tm)]) hx hb d_Mo_put_191 hl (k := 3) rfl (nI_add i 1) (by decide) rfl (fun ls hl => ?_)
                      refine lv_goto (tgt := 141) hx hb d_Mo_put_194 (by decide) ?_
                      exact ih Gv (i + 1) _ _ (by omega) (by omega) (hst9) (hnm9) (hf9) hG hS ls (lv_sub hl [1, 2, 3, 0] rfl)
                    · refine lv_aload_n hx hb d_Mo_put_181 rfl (lv_at hl 0 rfl) ?_
                      refine zg_get (ci := 11) (C := "ZoneAnswersModel") (T := T_Mo) (N := 21) hx hb hts zi_Mo hown hK hG ra8 rfl 4 (by decide) (hts _ w_1285) (fun _ h9 => h9) rfl d_Mo_put_182 ?_
                      refine lv_iload_n hx hb d_Mo_put_185 rfl (lv_at hl 3 rfl) ?_
                      refine zg_aldq hx hb hK hG 4 rm48 rfl (vp_in_nI (by omega) (by omega)) d_Mo_put_186 ?_
                      refine zr_as (y := fr8 i) (by rw [zi_n _ (by omega)]) ?_
                      refine zr_some (a := rA (re rs i)) (hfi) ?_
                      refine lv_iload_n hx hb d_Mo_put_187 rfl (lv_at hl 2 rfl) ?_
                      refine zg_put (ci := 12) (v := .int tm) (ty := .int) (C := "ZoneAnswersModel$Rec") (T := T_Re) (N := 5) hx hb hts zi_Re t_Re t_Re_ok n_Re hown hK hG hS hr1 rfl 4 (by decide) (hts _ w_1269) (fun _ h9 => h9) rfl (by decide +kernel) rfl rfl (Nat.le_of_ble_eq_true rfl) d_Mo_put_188 (fun H locs hG hS => ?_)
                      obtain ⟨G312, eG312⟩ : ∃ z : zg_G, z = zg_up Gv (rA (re rs i)) (.inr (12, [.ref (rN (re rs i)), .ref (rD (re rs i)), (rV (re rs i)), .int (rT (re rs i)), .int tm])) := ⟨_, rfl⟩
                      have hG : zP E G312 H := by rw [eG312]; exact hG
                      have k313 : G312 a = some (.inr (11, [.int 0, .ref (h8 1), .int (nI tp.length), .ref (h8 3), .ref (h8 4), .int (nI ((rTL rs x9 t tm (i)).length)), .ref (h8 6), .ref (h8 7), .ref (h8 8), .ref (h8 9), .ref (h8 10), .ref (h8 11), .ref (h8 12), .int (nI (wln Wz)), .int co, .ref (h8 15), .int (nI (rPw Wz + ([] : List Int32).length)), .int se, .ref (h8 18), .ref q19, .ref q20])) := by rw [eG312, zg_up_ne (zg_ne ra8 hr1 (by intro h; simp at h))]; exact ra8
                      have k314 : G312 (h8 4) = some (.inl (E.2.1 4, 2000, .inr (.inr (.inr (.inr fr8))))) := by rw [eG312, zg_up_ne (zg_ne rm48 hr1 (by intro h; simp at h))]; exact rm48
                      have k315 : G312 (h8 3) = some (.inl (E.2.1 0, np_len lo, .inl fo8)) := by rw [eG312, zg_up_ne (zg_ne rn18 hr1 (by intro h; simp at h))]; exact rn18
                      have k316 : G312 (h8 1) = some (.inl (E.2.1 0, 65536, .inl fm8)) := by rw [eG312, zg_up_ne (zg_ne rt18 hr1 (by intro h; simp at h))]; exact rt18
                      have k317 : G312 q19 = some (.inl (E.2.1 0, np_len x9, .inl f_q198)) := by rw [eG312, zg_up_ne (zg_ne n1_q198 hr1 (by intro h; simp at h))]; exact n1_q198
                      have k318 : G312 (rA (re rs i)) = some (.inr (12, [.ref (rN (re rs i)), .ref (rD (re rs i)), (rV (re rs i)), .int (rT (re rs i)), .int tm])) := by rw [eG312]; exact zg_up_self _ _ _
                      have k319 : G312 (rN (re rs i)) = some (.inl (E.2.1 0, np_len (rM (re rs i)), .inl nf)) := by rw [eG312, zg_up_ne (zg_ne hr2 hr1 (by intro h; simp at h))]; exact hr2
                      obtain ⟨hst9, hs9⟩ := rSt.tm (u := tm) hst8 hin ⟨c159, (zsm_n hr3 n2_q198 hr4 n3_q198).mp (hp175.1.nz c178)⟩ hzp.rg.2.2.2
                      rw [← eG312] at hst9 hs9
                      have hnm9 := hnm8.fr hs9 zKr_0
                      have hf9 := hf8.tr hs9
                      refine lv_iinc (v := nI (i + 1)) (lv' := [(3, .int (nI (i + 1))), (0, .ref a), (1, .int t), (2, .int tm)]) hx hb d_Mo_put_191 hl (k := 3) rfl (nI_add i 1) (by decide) rfl (fun ls hl => ?_)
                      refine lv_goto (tgt := 141) hx hb d_Mo_put_194 (by decide) ?_
                      exact ih G312 (i + 1) _ _ (by omega) (by omega) (hst9) (hnm9) (hf9) hG hS ls (lv_sub hl [1, 2, 3, 0] rfl)
            refine zW_more (cells2 := 4) (slots2 := tp.length + 520) (by dsimp only; omega) (by dsimp only; omega) ?_
            exact loop141 _ G11 0 _ _ (Nat.lt_succ_self _) (Nat.zero_le _) (hst2) (hnm2) (hf2) hG hS ls (lv_sub hl [1, 2, 3, 0] rfl)
          · have b36 : ¬ 0 ≤ i9 := fun q => c36 ((nI_leI (a := 0) (b := i9) (by omega) (by omega)).mpr q)
            exact absurd (Nat.zero_le _) b36
        · have hG : zP E G11 H := eg33 ▸ hG
          refine zi_as (y := -1) er33 ?_
          have hnoD := rfind_n hno
          refine lv_if_ge (tgt := 139) hx hb d_Mo_put_36 (by decide) (fun c36 => ?_) (fun c36 => ?_)
          · exact absurd c36 (by decide)
          · refine lv_aload_n hx hb d_Mo_put_39 rfl (lv_at hl 0 rfl) ?_
            refine zg_get (ci := 11) (C := "ZoneAnswersModel") (T := T_Mo) (N := 21) hx hb hts zi_Mo hown hK hG ra2 rfl 5 (by decide) (hts _ w_1286) (fun _ h9 => h9) rfl d_Mo_put_40 ?_
            refine lv_sipush (v := 2000) hx hb d_Mo_put_43 (by decide) ?_
            refine lv_icmp_ne (tgt := 55) hx hb d_Mo_put_46 (by decide) (fun c46 => ?_) (fun c46 => ?_)
            · have b46 : ¬ rs.length = 2000 := fun q => c46 ((nI_eq (a := rs.length) (b := 2000) (by omega) (by omega)).mpr q)
              refine lv_aload_n hx hb d_Mo_put_55 rfl (lv_at hl 0 rfl) ?_
              refine lv_aload_n hx hb d_Mo_put_56 rfl (lv_at hl 0 rfl) ?_
              refine zg_get (ci := 11) (C := "ZoneAnswersModel") (T := T_Mo) (N := 21) hx hb hts zi_Mo hown hK hG ra2 rfl 19 (by decide) (hts _ w_1300) (fun _ h9 => h9) rfl d_Mo_put_57 ?_
              refine lv_iconst (v := 0) hx hb d_Mo_put_60 (by decide) ?_
              refine zi_as (y := nI (np_pos x9 0)) (by rw [np_pos0]; rfl) ?_
              refine lv_iconst (v := 5) hx hb d_Mo_put_61 (by decide) ?_
              refine zk_i (va_runV (As := [.ref q19, .int (nI (np_pos x9 0)), .int 5]) (rest := []) ⟨hx, hb, hml, hown, hts⟩ (t_Mo_has_s l hst2 0 5 q19 x9 hnm2 (Nat.zero_le _)) (zcV 3 hts w_1408 w_1410 wp_30 w_30 w_1411 (by decide +kernel) ⟨Nat.le_of_ble_eq_true rfl, Nat.le_of_ble_eq_true rfl⟩) (zc_preV hbase hK hN hQ hG hS ra2 rfl) rfl rfl hl.1 rfl (lv_room (Nat.le_of_ble_eq_true rfl)) d_Mo_put_62 ⟨(by dsimp only; omega), (by dsimp only; omega)⟩) hS (fun r62 G62 H locs hp62 hG hS => ?_)
              have hG : zP E G11 H := hp62.2 ▸ hG
              refine lv_if_ne (tgt := 84) hx hb d_Mo_put_65 (by decide) (fun c65 => ?_) (fun c65 => ?_)
              · have h5 : (rVf rs) x9 5 ≠ [] := hp62.1.nz c65
                have hb5 : vD (rVf rs) x9 ∧ (t = 5 ∨ (rVf rs) x9 5 ≠ []) := ⟨⟨5, h5⟩, Or.inr h5⟩
                refine lv_aload_n hx hb d_Mo_put_84 rfl (lv_at hl 0 rfl) ?_
                refine lv_iconst (v := 3) hx hb d_Mo_put_85 (by decide) ?_
                have hGo86 := hG
                refine zk_i (va_runV (As := [.int 3]) (rest := []) ⟨hx, hb, hml, hown, hts⟩ (t_Mo_fail l E G11 a (h2 1) (h2 3) (h2 4) (h2 6) (h2 7) (h2 8) (h2 9) (h2 10) (h2 11) (h2 12) (h2 15) (h2 18) 0 (nI tp.length) (nI rs.length) (nI (wln Wz)) co (nI (rPw Wz + ([] : List Int32).length)) se (.ref q19) (.ref q20) ra2 3) (zcV 1 hts w_1354 w_1356 wp_26 w_30 w_1357 (by decide +kernel) ⟨Nat.le_of_ble_eq_true rfl, Nat.le_of_ble_eq_true rfl⟩) (zc_preV hbase hK hN hQ hG hS ra2 rfl) rfl rfl hl.1 rfl (lv_room (Nat.le_of_ble_eq_true rfl)) d_Mo_put_86 ⟨(by dsimp only; omega), (by dsimp only; omega)⟩) hS (fun r86 G86 H locs hp86 hG hS => ?_)
                refine zi_as (y := 0) hp86.1 ?_
                obtain ⟨hstf, hsf⟩ := rSt.set hst2 3 co se (.ref q19) (.ref q20) ra2
                rw [← hp86.2] at hstf hsf
                have hff := hf2.tr hsf
                exact hret _ _ _ _ _ _ _ _ _ hr (rfl) (Or.inr (Or.inr ⟨c6, ⟨x9, D9, hzr, hnoD, hb5⟩, rfl, ro2, hstf.o hse, hff⟩)) hG hS (by dsimp only; omega) (by dsimp only; omega) d_Mo_put_89
              · have h5 : ¬ (rVf rs) x9 5 ≠ [] := hp62.1.z c65
                refine lv_iload_n hx hb d_Mo_put_68 rfl (lv_at hl 1 rfl) ?_
                refine lv_iconst (v := 5) hx hb d_Mo_put_69 (by decide) ?_
                refine lv_icmp_ne (tgt := 90) hx hb d_Mo_put_70 (by decide) (fun c70 => ?_) (fun c70 => ?_)
                · have hno5 : ¬ (vD (rVf rs) x9 ∧ (t = 5 ∨ (rVf rs) x9 5 ≠ [])) := fun z => z.2.elim c70 h5
                  refine zg_new (ci := 12) (fs := [.null, .null, .null, .int 0, .int 0]) (C := "ZoneAnswersModel$Rec") (T := T_Re) (N := 5) hx hb hts zi_Re t_Re t_Re_ok hown (hts _ w_1252) (hts _ w_1260) (hts _ w_31) hK hG hS hbase rfl (fun j hj => by rcases (show j = 0 ∨ j = 1 ∨ j = 2 ∨ j = 3 ∨ j = 4 by omega) with rfl | rfl | rfl | rfl | rfl <;> rfl) (by dsimp only; omega) (by dsimp only; omega) d_Mo_put_90 (fun q90 H n90 hG hS => ?_)
                  obtain ⟨G320, eG320⟩ : ∃ z : zg_G, z = zg_up G11 q90 (.inr (12, [.null, .null, .null, .int 0, .int 0])) := ⟨_, rfl⟩
                  have hG : zP E G320 H := by rw [eG320]; exact hG
                  have ne90_a : a ≠ q90 := zg_fr n90 ra2
                  have k321 : G320 a = some (.inr (11, [.int 0, .ref (h2 1), .int (nI tp.length), .ref (h2 3), .ref (h2 4), .int (nI rs.length), .ref (h2 6), .ref (h2 7), .ref (h2 8), .ref (h2 9), .ref (h2 10), .ref (h2 11), .ref (h2 12), .int (nI (wln Wz)), .int co, .ref (h2 15), .int (nI (rPw Wz + ([] : List Int32).length)), .int se, .ref (h2 18), .ref q19, .ref q20])) := by rw [eG320, zg_up_ne (zg_fr n90 ra2)]; exact ra2
                  have ne90_h2_4 : h2 4 ≠ q90 := zg_fr n90 rm42
                  have k322 : G320 (h2 4) = some (.inl (E.2.1 4, 2000, .inr (.inr (.inr (.inr fr2))))) := by rw [eG320, zg_up_ne (zg_fr n90 rm42)]; exact rm42
                  have ne90_h2_3 : h2 3 ≠ q90 := zg_fr n90 rn12
                  have k323 : G320 (h2 3) = some (.inl (E.2.1 0, np_len lo, .inl fo2)) := by rw [eG320, zg_up_ne (zg_fr n90 rn12)]; exact rn12
                  have ne90_h2_1 : h2 1 ≠ q90 := zg_fr n90 rt12
                  have k324 : G320 (h2 1) = some (.inl (E.2.1 0, 65536, .inl fm2)) := by rw [eG320, zg_up_ne (zg_fr n90 rt12)]; exact rt12
                  have ne90_q19 : q19 ≠ q90 := zg_fr n90 n1_q192
                  have k325 : G320 q19 = some (.inl (E.2.1 0, np_len x9, .inl f_q192)) := by rw [eG320, zg_up_ne (zg_fr n90 n1_q192)]; exact n1_q192
                  have k326 : G320 q90 = some (.inr (12, [.null, .null, .null, .int 0, .int 0])) := by rw [eG320]; exact zg_up_self _ _ _
                  refine lv_dup hx hb d_Mo_put_93 rfl ?_
                  have hGo94 := hG
                  refine zk_v (va_runIN (As := []) (rest := [.ref q90]) ⟨hx, hb, hml, hown, hts⟩ (t_Re_init l E G320 q90) ⟨va_cnB 0 hts (zw_good w_1263) rfl rfl rfl (zN.at hN (w := .methodLinkNest "ZoneAnswersModel" 64 ⟨"ZoneAnswersModel$Rec", "<init>", "()V"⟩ "ZoneAnswersModel") (by decide +kernel)) (hts _ w_31) (by decide +kernel) ⟨Nat.le_of_ble_eq_true rfl, Nat.le_of_ble_eq_true rfl⟩, rfl, hts _ w_1262⟩ (zc_pre hbase hK hN hQ hG hS) rfl rfl hl.1 rfl (lv_room (Nat.le_of_ble_eq_true rfl)) d_Mo_put_94 ⟨(by dsimp only; omega), (by dsimp only; omega)⟩) hS (fun G94 H locs hp94 hG hS => ?_)
                  have hG : zP E G320 H := hp94 ▸ hG
                  refine lv_astore_n (lv' := [(3, .ref q90), (0, .ref a), (1, .int t), (2, .int tm)]) hx hb d_Mo_put_97 rfl hl (by decide) rfl (fun ls hl => ?_)
                  refine lv_aload_n hx hb d_Mo_put_98 rfl (lv_at hl 0 rfl) ?_
                  refine lv_aload_n hx hb d_Mo_put_99 rfl (lv_at hl 1 rfl) ?_
                  refine zg_get (ci := 11) (C := "ZoneAnswersModel") (T := T_Mo) (N := 21) hx hb hts zi_Mo hown hK hG k321 rfl 19 (by decide) (hts _ w_1300) (fun _ h9 => h9) rfl d_Mo_put_100 ?_
                  refine zg_put (ci := 12) (v := .ref q19) (ty := .array .byte) (C := "ZoneAnswersModel$Rec") (T := T_Re) (N := 5) hx hb hts zi_Re t_Re t_Re_ok n_Re hown hK hG hS k326 rfl 0 (by decide) (hts _ w_1265) (fun _ h9 => h9) rfl (by decide +kernel) rfl rfl (Nat.le_of_ble_eq_true rfl) d_Mo_put_103 (fun H locs hG hS => ?_)
                  obtain ⟨G327, eG327⟩ : ∃ z : zg_G, z = zg_up G320 q90 (.inr (12, [.ref q19, .null, .null, .int 0, .int 0])) := ⟨_, rfl⟩
                  have hG : zP E G327 H := by rw [eG327]; exact hG
                  have k328 : G327 a = some (.inr (11, [.int 0, .ref (h2 1), .int (nI tp.length), .ref (h2 3), .ref (h2 4), .int (nI rs.length), .ref (h2 6), .ref (h2 7), .ref (h2 8), .ref (h2 9), .ref (h2 10), .ref (h2 11), .ref (h2 12), .int (nI (wln Wz)), .int co, .ref (h2 15), .int (nI (rPw Wz + ([] : List Int32).length)), .int se, .ref (h2 18), .ref q19, .ref q20])) := by rw [eG327, zg_up_ne (ne90_a)]; exact k321
                  have k329 : G327 (h2 4) = some (.inl (E.2.1 4, 2000, .inr (.inr (.inr (.inr fr2))))) := by rw [eG327, zg_up_ne (ne90_h2_4)]; exact k322
                  have k330 : G327 (h2 3) = some (.inl (E.2.1 0, np_len lo, .inl fo2)) := by rw [eG327, zg_up_ne (ne90_h2_3)]; exact k323
                  have k331 : G327 (h2 1) = some (.inl (E.2.1 0, 65536, .inl fm2)) := by rw [eG327, zg_up_ne (ne90_h2_1)]; exact k324
                  have k332 : G327 q19 = some (.inl (E.2.1 0, np_len x9, .inl f_q192)) := by rw [eG327, zg_up_ne (ne90_q19)]; exact k325
                  have k333 : G327 q90 = some (.inr (12, [.ref q19, .null, .null, .int 0, .int 0])) := by rw [eG327]; exact zg_up_self _ _ _
                  refine lv_aload_n hx hb d_Mo_put_106 rfl (lv_at hl 0 rfl) ?_
                  refine lv_iload_n hx hb d_Mo_put_107 rfl (lv_at hl 2 rfl) ?_
                  refine zg_put (ci := 12) (v := .int t) (ty := .int) (C := "ZoneAnswersModel$Rec") (T := T_Re) (N := 5) hx hb hts zi_Re t_Re t_Re_ok n_Re hown hK hG hS k333 rfl 3 (by decide) (hts _ w_1268) (fun _ h9 => h9) rfl (by decide +kernel) rfl rfl (Nat.le_of_ble_eq_true rfl) d_Mo_put_108 (fun H locs hG hS => ?_)
                  obtain ⟨G334, eG334⟩ : ∃ z : zg_G, z = zg_up G327 q90 (.inr (12, [.ref q19, .null, .null, .int t, .int 0])) := ⟨_, rfl⟩
                  have hG : zP E G334 H := by rw [eG334]; exact hG
                  have k335 : G334 a = some (.inr (11, [.int 0, .ref (h2 1), .int (nI tp.length), .ref (h2 3), .ref (h2 4), .int (nI rs.length), .ref (h2 6), .ref (h2 7), .ref (h2 8), .ref (h2 9), .ref (h2 10), .ref (h2 11), .ref (h2 12), .int (nI (wln Wz)), .int co, .ref (h2 15), .int (nI (rPw Wz + ([] : List Int32).length)), .int se, .ref (h2 18), .ref q19, .ref q20])) := by rw [eG334, zg_up_ne (ne90_a)]; exact k328
                  have k336 : G334 (h2 4) = some (.inl (E.2.1 4, 2000, .inr (.inr (.inr (.inr fr2))))) := by rw [eG334, zg_up_ne (ne90_h2_4)]; exact k329
                  have k337 : G334 (h2 3) = some (.inl (E.2.1 0, np_len lo, .inl fo2)) := by rw [eG334, zg_up_ne (ne90_h2_3)]; exact k330
                  have k338 : G334 (h2 1) = some (.inl (E.2.1 0, 65536, .inl fm2)) := by rw [eG334, zg_up_ne (ne90_h2_1)]; exact k331
                  have k339 : G334 q19 = some (.inl (E.2.1 0, np_len x9, .inl f_q192)) := by rw [eG334, zg_up_ne (ne90_q19)]; exact k332
                  have k340 : G334 q90 = some (.inr (12, [.ref q19, .null, .null, .int t, .int 0])) := by rw [eG334]; exact zg_up_self _ _ _
                  refine lv_aload_n hx hb d_Mo_put_111 rfl (lv_at hl 0 rfl) ?_
                  refine lv_aload_n hx hb d_Mo_put_112 rfl (lv_at hl 1 rfl) ?_
                  refine zg_get (ci := 11) (C := "ZoneAnswersModel") (T := T_Mo) (N := 21) hx hb hts zi_Mo hown hK hG k335 rfl 20 (by decide) (hts _ w_1301) (fun _ h9 => h9) rfl d_Mo_put_113 ?_
                  refine zg_put (ci := 12) (v := .ref q20) (ty := .array .byte) (C := "ZoneAnswersModel$Rec") (T := T_Re) (N := 5) hx hb hts zi_Re t_Re t_Re_ok n_Re hown hK hG hS k340 rfl 1 (by decide) (hts _ w_1266) (fun _ h9 => h9) rfl (by decide +kernel) rfl rfl (Nat.le_of_ble_eq_true rfl) d_Mo_put_116 (fun H locs hG hS => ?_)
                  obtain ⟨G341, eG341⟩ : ∃ z : zg_G, z = zg_up G334 q90 (.inr (12, [.ref q19, .ref q20, .null, .int t, .int 0])) := ⟨_, rfl⟩
                  have hG : zP E G341 H := by rw [eG341]; exact hG
                  have k342 : G341 a = some (.inr (11, [.int 0, .ref (h2 1), .int (nI tp.length), .ref (h2 3), .ref (h2 4), .int (nI rs.length), .ref (h2 6), .ref (h2 7), .ref (h2 8), .ref (h2 9), .ref (h2 10), .ref (h2 11), .ref (h2 12), .int (nI (wln Wz)), .int co, .ref (h2 15), .int (nI (rPw Wz + ([] : List Int32).length)), .int se, .ref (h2 18), .ref q19, .ref q20])) := by rw [eG341, zg_up_ne (ne90_a)]; exact k335
                  have k343 : G341 (h2 4) = some (.inl (E.2.1 4, 2000, .inr (.inr (.inr (.inr fr2))))) := by rw [eG341, zg_up_ne (ne90_h2_4)]; exact k336
                  have k344 : G341 (h2 3) = some (.inl (E.2.1 0, np_len lo, .inl fo2)) := by rw [eG341, zg_up_ne (ne90_h2_3)]; exact k337
                  have k345 : G341 (h2 1) = some (.inl (E.2.1 0, 65536, .inl fm2)) := by rw [eG341, zg_up_ne (ne90_h2_1)]; exact k338
                  have k346 : G341 q19 = some (.inl (E.2.1 0, np_len x9, .inl f_q192)) := by rw [eG341, zg_up_ne (ne90_q19)]; exact k339
                  have k347 : G341 q90 = some (.inr (12, [.ref q19, .ref q20, .null, .int t, .int 0])) := by rw [eG341]; exact zg_up_self _ _ _
                  refine lv_aload_n hx hb d_Mo_put_119 rfl (lv_at hl 1 rfl) ?_
                  refine zg_get (ci := 11) (C := "ZoneAnswersModel") (T := T_Mo) (N := 21) hx hb hts zi_Mo hown hK hG k342 rfl 4 (by decide) (hts _ w_1285) (fun _ h9 => h9) rfl d_Mo_put_120 ?_
                  refine lv_aload_n hx hb d_Mo_put_123 rfl (lv_at hl 1 rfl) ?_
                  refine zg_get (ci := 11) (C := "ZoneAnswersModel") (T := T_Mo) (N := 21) hx hb hts zi_Mo hown hK hG k342 rfl 5 (by decide) (hts _ w_1286) (fun _ h9 => h9) rfl d_Mo_put_124 ?_
                  refine lv_aload_n hx hb d_Mo_put_127 rfl (lv_at hl 0 rfl) ?_
                  refine zg_astq (r := ("ZoneAnswersModel$Rec", T_Re, 5)) hx hb hK hG hS 4 12 k343 rfl k347 rfl (vp_in_nI (by omega) (by omega)) d_Mo_put_128 (fun H locs hG hS => ?_)
                  rw [zi_n rs.length (by omega)] at hG
                  obtain ⟨G348, eG348⟩ : ∃ z : zg_G, z = zg_up G341 (h2 4) (.inl (E.2.1 4, 2000, .inr (.inr (.inr (.inr (va_up fr2 rs.length (some q90))))))) := ⟨_, rfl⟩
                  have hG : zP E G348 H := by rw [eG348]; exact hG
                  have k349 : G348 a = some (.inr (11, [.int 0, .ref (h2 1), .int (nI tp.length), .ref (h2 3), .ref (h2 4), .int (nI rs.length), .ref (h2 6), .ref (h2 7), .ref (h2 8), .ref (h2 9), .ref (h2 10), .ref (h2 11), .ref (h2 12), .int (nI (wln Wz)), .int co, .ref (h2 15), .int (nI (rPw Wz + ([] : List Int32).length)), .int se, .ref (h2 18), .ref q19, .ref q20])) := by rw [eG348, zg_up_ne (zg_ne k342 k343 (by intro h; simp at h))]; exact k342
                  have k350 : G348 (h2 4) = some (.inl (E.2.1 4, 2000, .inr (.inr (.inr (.inr (va_up fr2 rs.length (some q90))))))) := by rw [eG348]; exact zg_up_self _ _ _
                  have k351 : G348 (h2 3) = some (.inl (E.2.1 0, np_len lo, .inl fo2)) := by rw [eG348, zg_up_ne (zg_ne k344 k343 (by intro h; simp at h))]; exact k344
                  have k352 : G348 (h2 1) = some (.inl (E.2.1 0, 65536, .inl fm2)) := by rw [eG348, zg_up_ne (zg_ne k345 k343 (by intro h; simp at h))]; exact k345
                  have k353 : G348 q19 = some (.inl (E.2.1 0, np_len x9, .inl f_q192)) := by rw [eG348, zg_up_ne (zg_ne k346 k343 (by intro h; simp at h))]; exact k346
                  have k354 : G348 q90 = some (.inr (12, [.ref q19, .ref q20, .null, .int t, .int 0])) := by rw [eG348, zg_up_ne (Ne.symm ne90_h2_4)]; exact k347
                  refine lv_aload_n hx hb d_Mo_put_129 rfl (lv_at hl 1 rfl) ?_
                  refine lv_dup hx hb d_Mo_put_130 rfl ?_
                  refine zg_get (ci := 11) (C := "ZoneAnswersModel") (T := T_Mo) (N := 21) hx hb hts zi_Mo hown hK hG k349 rfl 5 (by decide) (hts _ w_1286) (fun _ h9 => h9) rfl d_Mo_put_131 ?_
                  refine lv_iconst (v := 1) hx hb d_Mo_put_134 (by decide) ?_
                  refine lv_iadd hx hb d_Mo_put_135 ?_
                  refine zi_as (y := nI (rs.length + 1)) (nI_add rs.length 1) ?_
                  refine zg_put (ci := 11) (v := .int (nI (rs.length + 1))) (ty := .int) (C := "ZoneAnswersModel") (T := T_Mo) (N := 21) hx hb hts zi_Mo t_Mo t_Mo_ok n_Mo hown hK hG hS k349 rfl 5 (by decide) (hts _ w_1286) (fun _ h9 => h9) rfl (by decide +kernel) rfl rfl (Nat.le_of_ble_eq_true rfl) d_Mo_put_136 (fun H locs hG hS => ?_)
                  obtain ⟨G355, eG355⟩ : ∃ z : zg_G, z = zg_up G348 a (.inr (11, [.int 0, .ref (h2 1), .int (nI tp.length), .ref (h2 3), .ref (h2 4), .int (nI (rs.length + 1)), .ref (h2 6), .ref (h2 7), .ref (h2 8), .ref (h2 9), .ref (h2 10), .ref (h2 11), .ref (h2 12), .int (nI (wln Wz)), .int co, .ref (h2 15), .int (nI (rPw Wz + ([] : List Int32).length)), .int se, .ref (h2 18), .ref q19, .ref q20])) := ⟨_, rfl⟩
                  have hG : zP E G355 H := by rw [eG355]; exact hG
                  have k356 : G355 a = some (.inr (11, [.int 0, .ref (h2 1), .int (nI tp.length), .ref (h2 3), .ref (h2 4), .int (nI (rs.length + 1)), .ref (h2 6), .ref (h2 7), .ref (h2 8), .ref (h2 9), .ref (h2 10), .ref (h2 11), .ref (h2 12), .int (nI (wln Wz)), .int co, .ref (h2 15), .int (nI (rPw Wz + ([] : List Int32).length)), .int se, .ref (h2 18), .ref q19, .ref q20])) := by rw [eG355]; exact zg_up_self _ _ _
                  have k357 : G355 (h2 4) = some (.inl (E.2.1 4, 2000, .inr (.inr (.inr (.inr (va_up fr2 rs.length (some q90))))))) := by rw [eG355, zg_up_ne (zg_ne k350 k349 (by intro h; simp at h))]; exact k350
                  have k358 : G355 (h2 3) = some (.inl (E.2.1 0, np_len lo, .inl fo2)) := by rw [eG355, zg_up_ne (zg_ne k351 k349 (by intro h; simp at h))]; exact k351
                  have k359 : G355 (h2 1) = some (.inl (E.2.1 0, 65536, .inl fm2)) := by rw [eG355, zg_up_ne (zg_ne k352 k349 (by intro h; simp at h))]; exact k352
                  have k360 : G355 q19 = some (.inl (E.2.1 0, np_len x9, .inl f_q192)) := by rw [eG355, zg_up_ne (zg_ne k353 k349 (by intro h; simp at h))]; exact k353
                  have k361 : G355 q90 = some (.inr (12, [.ref q19, .ref q20, .null, .int t, .int 0])) := by rw [eG355, zg_up_ne (Ne.symm ne90_a)]; exact k354
                  obtain ⟨ne9, hne9⟩ : ∃ z : zRt, z = (q90, q19, q20, .null, x9, t, 0, D9) := ⟨_, rfl⟩
                  have eGf := eG355
                  rw [eG348, eG341, eG334, eG327, eG320, zg_up_up, zg_up_up, zg_up_up] at eGf
                  obtain ⟨hst3, hs3⟩ := rSt.addr hc2 eh02 eh12 eh22 hn9 n90 rm42 hfr2 hnm2 hby2 hr20 hne2 hzr.ln.2.2.2 hzp (by omega) hzr.rdt .null hne9 eGf
                  have hf3 := hf2.tr hs3
                  have hnm3 := hnm2.fr hs3 zKr_0
                  obtain ⟨h3, eh03, eh13, eh23, hc3⟩ := id hst3
                  obtain ⟨ra3, rb3, ⟨fm3, rt13, rt23, rt33, rt43⟩, rtl3, ⟨fo3, rn13, rn23, rn33, rn43, rn53⟩, rr3, rg3, ras3⟩ := id hc3
                  rw [eh03] at ra3
                  obtain ⟨⟨fr3, rm43, hfr3⟩, hn23, hRs3⟩ := id rr3.1
                  obtain ⟨f_q193, n1_q193, n2_q193, n3_q193, n4_q193, n5_q193⟩ := id hnm3
                  have sm_q193 := n3_q193.2
                  refine lv_iconst (v := 0) hx hb d_Mo_put_139 (by decide) ?_
                  refine zi_as (y := nI 0) (nI_0.symm) ?_
                  refine lv_istore_n (lv' := [(3, .int (nI 0)), (0, .ref a), (1, .int t), (2, .int tm)]) hx hb d_Mo_put_140 rfl hl (by decide) rfl (fun ls hl => ?_)
                  have loop141 : ∀ (N : Nat) (Gv : zg_G) (i : Nat) (H : Heap) (locs : List Loc), ((rs ++ [ne9]).length - i) < N → (i ≤ (rs ++ [ne9]).length) → (rSt E Gv (zrn ro2 q90 (21, 0)) a c1 c2 lo (rTL (rs ++ [ne9]) x9 t tm (i)) Wz [] False (0, 0, [], []) 0 tp co se (.ref q19) (.ref q20)) → (rNm E Gv (zrn ro2 q90 (21, 0)) q19 x9) → (zfr ro zKr G (zrn ro2 q90 (21, 0)) Gv) → zP E Gv H → zg_S (zc_b E) s.heap H locs → ∀ (ls : Array Slot), lv_has ls 4 [(0, .ref a), (1, .int t), (2, .int tm), (3, .int (nI i))] → W p l e (rm_Mo_put tp.length) s m args below meth c H locs 4 (tp.length + 520) Q (F0 m 141 ls []) := by
                    intro N
                    induction N with
                    | zero =>
                      intro Gv i H locs hlt
                      exact absurd hlt (Nat.not_lt_zero _)
                    | succ N ih =>
                      intro Gv i H locs hlt hi hst8 hnm8 hf8 hG hS ls hl
                      obtain ⟨h8, eh08, eh18, eh28, hc8⟩ := id hst8
                      obtain ⟨ra8, rb8, ⟨fm8, rt18, rt28, rt38, rt48⟩, rtl8, ⟨fo8, rn18, rn28, rn38, rn48, rn58⟩, rr8, rg8, ras8⟩ := id hc8
                      rw [eh08] at ra8
                      obtain ⟨⟨fr8, rm48, hfr8⟩, hn28, hRs8⟩ := id rr8.1
                      obtain ⟨f_q198, n1_q198, n2_q198, n3_q198, n4_q198, n5_q198⟩ := id hnm8
                      have sm_q198 := n3_q198.2
                      have hTl : (rTL (rs ++ [ne9]) x9 t tm (i)).length = (rs ++ [ne9]).length := rTL_len
                      refine lv_iload_n hx hb d_Mo_put_141 rfl (lv_at hl 3 rfl) ?_
                      refine lv_aload_n hx hb d_Mo_put_142 rfl (lv_at hl 0 rfl) ?_
                      refine zg_get (ci := 11) (C := "ZoneAnswersModel") (T := T_Mo) (N := 21) hx hb hts zi_Mo hown hK hG ra8 rfl 5 (by decide) (hts _ w_1286) (fun _ h9 => h9) rfl d_Mo_put_143 ?_
                      refine lv_icmp_ge (tgt := 197) hx hb d_Mo_put_146 (by decide) (fun c146 => ?_) (fun c146 => ?_)
                      · have b146 : ((rTL (rs ++ [ne9]) x9 t tm (i)).length) ≤ i := (nI_leI (a := ((rTL (rs ++ [ne9]) x9 t tm (i)).length)) (b := i) (by omega) (by omega)).mp c146
                        refine lv_aload_n hx hb d_Mo_put_197 rfl (lv_at hl 0 rfl) ?_
                        refine lv_iconst (v := 0) hx hb d_Mo_put_198 (by decide) ?_
                        refine zi_as (y := nI 0) (nI_0.symm) ?_
                        refine zg_put (ci := 11) (v := .int (nI 0)) (ty := .int) (C := "ZoneAnswersModel") (T := T_Mo) (N := 21) hx hb hts zi_Mo t_Mo t_Mo_ok n_Mo hown hK hG hS ra8 rfl 2 (by decide) (hts _ w_1283) (fun _ h9 => h9) rfl (by decide +kernel) rfl rfl (Nat.le_of_ble_eq_true rfl) d_Mo_put_199 (fun H locs hG hS => ?_)
                        obtain ⟨G362, eG362⟩ : ∃ z : zg_G, z = zg_up Gv a (.inr (11, [.int 0, .ref (h8 1), .int (nI 0), .ref (h8 3), .ref (h8 4), .int (nI ((rTL (rs ++ [ne9]) x9 t tm (i)).length)), .ref (h8 6), .ref (h8 7), .ref (h8 8), .ref (h8 9), .ref (h8 10), .ref (h8 11), .ref (h8 12), .int (nI (wln Wz)), .int co, .ref (h8 15), .int (nI (rPw Wz + ([] : List Int32).length)), .int se, .ref (h8 18), .ref q19, .ref q20])) := ⟨_, rfl⟩
                        have hG : zP E G362 H := by rw [eG362]; exact hG
                        have k363 : G362 a = some (.inr (11, [.int 0, .ref (h8 1), .int (nI 0), .ref (h8 3), .ref (h8 4), .int (nI ((rTL (rs ++ [ne9]) x9 t tm (i)).length)), .ref (h8 6), .ref (h8 7), .ref (h8 8), .ref (h8 9), .ref (h8 10), .ref (h8 11), .ref (h8 12), .int (nI (wln Wz)), .int co, .ref (h8 15), .int (nI (rPw Wz + ([] : List Int32).length)), .int se, .ref (h8 18), .ref q19, .ref q20])) := by rw [eG362]; exact zg_up_self _ _ _
                        have k364 : G362 (h8 4) = some (.inl (E.2.1 4, 2000, .inr (.inr (.inr (.inr fr8))))) := by rw [eG362, zg_up_ne (zg_ne rm48 ra8 (by intro h; simp at h))]; exact rm48
                        have k365 : G362 (h8 3) = some (.inl (E.2.1 0, np_len lo, .inl fo8)) := by rw [eG362, zg_up_ne (zg_ne rn18 ra8 (by intro h; simp at h))]; exact rn18
                        have k366 : G362 (h8 1) = some (.inl (E.2.1 0, 65536, .inl fm8)) := by rw [eG362, zg_up_ne (zg_ne rt18 ra8 (by intro h; simp at h))]; exact rt18
                        have k367 : G362 q19 = some (.inl (E.2.1 0, np_len x9, .inl f_q198)) := by rw [eG362, zg_up_ne (zg_ne n1_q198 ra8 (by intro h; simp at h))]; exact n1_q198
                        obtain ⟨hst7, hs7⟩ := rSt.tk hst8 0 (Nat.zero_le _) _ _ 0 ra8
                        rw [← eG362, List.take_zero] at hst7
                        rw [← eG362] at hs7
                        have hf7 := hf8.tr hs7
                        have hnm7 := hnm8.fr hs7 zKr_0
                        have hiE : i = (rs ++ [ne9]).length := by omega
                        rw [hiE, rTL_e] at hst7
                        obtain ⟨h7, eh07, eh17, eh27, hc7⟩ := id hst7
                        obtain ⟨ra7, rb7, ⟨fm7, rt17, rt27, rt37, rt47⟩, rtl7, ⟨fo7, rn17, rn27, rn37, rn47, rn57⟩, rr7, rg7, ras7⟩ := id hc7
                        rw [eh07] at ra7
                        obtain ⟨⟨fr7, rm47, hfr7⟩, hn27, hRs7⟩ := id rr7.1
                        obtain ⟨f_q197, n1_q197, n2_q197, n3_q197, n4_q197, n5_q197⟩ := id hnm7
                        have sm_q197 := n3_q197.2
                        refine lv_aload_n hx hb d_Mo_put_202 rfl (lv_at hl 0 rfl) ?_
                        refine lv_aload_n hx hb d_Mo_put_203 rfl (lv_at hl 0 rfl) ?_
                        refine zg_get (ci := 11) (C := "ZoneAnswersModel") (T := T_Mo) (N := 21) hx hb hts zi_Mo hown hK hG ra7 rfl 19 (by decide) (hts _ w_1300) (fun _ h9 => h9) rfl d_Mo_put_204 ?_
                        refine lv_iload_n hx hb d_Mo_put_207 rfl (lv_at hl 1 rfl) ?_
                        refine zk_i (va_runV (As := [.ref q19, .int t]) (rest := []) ⟨hx, hb, hml, hown, hts⟩ (t_Mo_size l E G362 ((rs ++ [ne9]).map (rTm x9 t tm)) a (h7 1) (h7 3) (h7 4) (h7 6) (h7 7) (h7 8) (h7 9) (h7 10) (h7 11) (h7 12) (h7 15) (h7 18) 0 (nI (([] : List Int32).length)) (nI (wln Wz)) co (nI (rPw Wz + ([] : List Int32).length)) se (.ref q19) (.ref q20) ra7 rr7.1 q19 x9 f_q197 n1_q197 n2_q197 n3_q197 t) (zcV 2 hts w_1417 w_1419 wp_32 w_30 w_1420 (by decide +kernel) ⟨Nat.le_of_ble_eq_true rfl, Nat.le_of_ble_eq_true rfl⟩) (zc_preV hbase hK hN hQ hG hS ra7 rfl) rfl rfl hl.1 rfl (lv_room (Nat.le_of_ble_eq_true rfl)) d_Mo_put_208 ⟨(by dsimp only; omega), (by dsimp only; omega)⟩) hS (fun r208 G208 H locs hp208 hG hS => ?_)
                        have hG : zP E G362 H := hp208.2 ▸ hG
                        refine zi_as (y := nI (zct ((rs ++ [ne9]).map (rTm x9 t tm)) t x9 ((rs ++ [ne9]).map (rTm x9 t tm)).length)) hp208.1 ?_
                        exact hret _ _ _ _ _ _ _ _ _ hr (rfl) (Or.inl ⟨c6, (zrn ro2 q90 (21, 0)), ((rs ++ [ne9]).map (rTm x9 t tm)), x9, D9, hzr, Or.inr ⟨hnoD, hno5, by rw [rVf_tm]; exact rVf_pt (by rw [hne9]; exact ⟨rfl, rfl, rfl, rfl⟩), by rw [List.length_map, List.length_append]; rfl, by rw [rNu_tm, rNu_app, hne9]; rfl⟩, by rw [zct_all], hst7.o hse, hf7⟩) hG hS (by dsimp only; omega) (by dsimp only; omega) d_Mo_put_211
                      · have b146 : ¬ ((rTL (rs ++ [ne9]) x9 t tm (i)).length) ≤ i := fun q => c146 ((nI_leI (a := ((rTL (rs ++ [ne9]) x9 t tm (i)).length)) (b := i) (by omega) (by omega)).mpr q)
                        have hin : i < (rs ++ [ne9]).length := by omega
                        have hre : re (rTL (rs ++ [ne9]) x9 t tm (i)) i = re (rs ++ [ne9]) i := rTL_re hin
                        have hin8 : i < (rTL (rs ++ [ne9]) x9 t tm (i)).length := by omega
                        have hrr := hRs8 _ (re_mem hin8)
                        rw [hre] at hrr
                        obtain ⟨hr1, ⟨nf, hr2, hr3, hr4, hr5⟩, df, hr6, hr7, hr8⟩ := hrr
                        have hfi := hfr8 i hin8
                        rw [hre] at hfi
                        have sm := hr4.2
                        refine lv_aload_n hx hb d_Mo_put_149 rfl (lv_at hl 0 rfl) ?_
                        refine zg_get (ci := 11) (C := "ZoneAnswersModel") (T := T_Mo) (N := 21) hx hb hts zi_Mo hown hK hG ra8 rfl 4 (by decide) (hts _ w_1285) (fun _ h9 => h9) rfl d_Mo_put_150 ?_
                        refine lv_iload_n hx hb d_Mo_put_153 rfl (lv_at hl 3 rfl) ?_
                        refine zg_aldq hx hb hK hG 4 rm48 rfl (vp_in_nI (by omega) (by omega)) d_Mo_put_154 ?_
                        refine zr_as (y := fr8 i) (by rw [zi_n _ (by omega)]) ?_
                        refine zr_some (a := rA (re (rs ++ [ne9]) i)) (hfi) ?_
                        refine zg_get (ci := 12) (C := "ZoneAnswersModel$Rec") (T := T_Re) (N := 5) hx hb hts zi_Re hown hK hG hr1 rfl 3 (by decide) (hts _ w_1268) (fun _ h9 => h9) rfl d_Mo_put_155 ?_
                        refine lv_iload_n hx hb d_Mo_put_158 rfl (lv_at hl 1 rfl) ?_
                        refine lv_icmp_ne (tgt := 191) hx hb d_Mo_put_159 (by decide) (fun c159 => ?_) (fun c159 => ?_)
                        · have hsk : rTL (rs ++ [ne9]) x9 t tm (i + 1) = rTL (rs ++ [ne9]) x9 t tm (i) := rTL_n hin (fun z => c159 z.1)
                          have hst9 := hst8
                          rw [← hsk] at hst9
                          have hnm9 := hnm8
                          have hf9 := hf8
                          refine lv_iinc (v := nI (i + 1)) (lv' := [(3, .int (nI (i + 1))), (0, .ref a), (1, .int t), (2, .int tm)]) hx hb d_Mo_put_191 hl (k := 3) rfl (nI_add i 1) (by decide) rfl (fun ls hl => ?_)
                          refine lv_goto (tgt := 141) hx hb d_Mo_put_194 (by decide) ?_
                          exact ih Gv (i + 1) _ _ (by omega) (by omega) (hst9) (hnm9) (hf9) hG hS ls (lv_sub hl [1, 2, 3, 0] rfl)
                        · refine lv_aload_n hx hb d_Mo_put_162 rfl (lv_at hl 0 rfl) ?_
                          refine zg_get (ci := 11) (C := "ZoneAnswersModel") (T := T_Mo) (N := 21) hx hb hts zi_Mo hown hK hG ra8 rfl 4 (by decide) (hts _ w_1285) (fun _ h9 => h9) rfl d_Mo_put_163 ?_
                          refine lv_iload_n hx hb d_Mo_put_166 rfl (lv_at hl 3 rfl) ?_
                          refine zg_aldq hx hb hK hG 4 rm48 rfl (vp_in_nI (by omega) (by omega)) d_Mo_put_167 ?_
                          refine zr_as (y := fr8 i) (by rw [zi_n _ (by omega)]) ?_
                          refine zr_some (a := rA (re (rs ++ [ne9]) i)) (hfi) ?_
                          refine zg_get (ci := 12) (C := "ZoneAnswersModel$Rec") (T := T_Re) (N := 5) hx hb hts zi_Re hown hK hG hr1 rfl 0 (by decide) (hts _ w_1265) (fun _ h9 => h9) rfl d_Mo_put_168 ?_
                          refine lv_aload_n hx hb d_Mo_put_171 rfl (lv_at hl 0 rfl) ?_
                          refine zg_get (ci := 11) (C := "ZoneAnswersModel") (T := T_Mo) (N := 21) hx hb hts zi_Mo hown hK hG ra8 rfl 19 (by decide) (hts _ w_1300) (fun _ h9 => h9) rfl d_Mo_put_172 ?_
                          refine zk_i (va_runS (As := [.ref (rN (re (rs ++ [ne9]) i)), .ref q19]) (rest := []) ⟨hx, hb, hml, hown, hts⟩ (t_Ns_same l E Gv (rN (re (rs ++ [ne9]) i)) (np_len (rM (re (rs ++ [ne9]) i))) nf hr2 q19 (np_len x9) f_q198 n1_q198 (by omega) (by omega)) (zcS 2 hts w_1405 w_1406 w_33 w_1407 (by decide +kernel) ⟨Nat.le_of_ble_eq_true rfl, Nat.le_of_ble_eq_true rfl⟩) (zc_pre hbase hK hN hQ hG hS) rfl rfl hl.1 rfl (lv_room (Nat.le_of_ble_eq_true rfl)) d_Mo_put_175 ⟨(by dsimp only; omega), (by dsimp only; omega)⟩) hS (fun r175 G175 H locs hp175 hG hS => ?_)
                          have hG : zP E Gv H := hp175.2 ▸ hG
                          refine lv_if_eq (tgt := 191) hx hb d_Mo_put_178 (by decide) (fun c178 => ?_) (fun c178 => ?_)
                          · have hsk : rTL (rs ++ [ne9]) x9 t tm (i + 1) = rTL (rs ++ [ne9]) x9 t tm (i) := rTL_n hin (fun z => hp175.1.z c178 ((zsm_n hr3 n2_q198 hr4 n3_q198).mpr z.2))
                            have hst9 := hst8
                            rw [← hsk] at hst9
                            have hnm9 := hnm8
                            have hf9 := hf8
                            refine lv_iinc (v := nI (i + 1)) (lv' := [(3, .int (nI (i + 1))), (0, .ref a), (1, .int t), (2, .int tm)]) hx hb d_Mo_put_191 hl (k := 3) rfl (nI_add i 1) (by decide) rfl (fun ls hl => ?_)
                            refine lv_goto (tgt := 141) hx hb d_Mo_put_194 (by decide) ?_
                            exact ih Gv (i + 1) _ _ (by omega) (by omega) (hst9) (hnm9) (hf9) hG hS ls (lv_sub hl [1, 2, 3, 0] rfl)
                          · refine lv_aload_n hx hb d_Mo_put_181 rfl (lv_at hl 0 rfl) ?_
                            refine zg_get (ci := 11) (C := "ZoneAnswersModel") (T := T_Mo) (N := 21) hx hb hts zi_Mo hown hK hG ra8 rfl 4 (by decide) (hts _ w_1285) (fun _ h9 => h9) rfl d_Mo_put_182 ?_
                            refine lv_iload_n hx hb d_Mo_put_185 rfl (lv_at hl 3 rfl) ?_
                            refine zg_aldq hx hb hK hG 4 rm48 rfl (vp_in_nI (by omega) (by omega)) d_Mo_put_186 ?_
                            refine zr_as (y := fr8 i) (by rw [zi_n _ (by omega)]) ?_
                            refine zr_some (a := rA (re (rs ++ [ne9]) i)) (hfi) ?_
                            refine lv_iload_n hx hb d_Mo_put_187 rfl (lv_at hl 2 rfl) ?_
                            refine zg_put (ci := 12) (v := .int tm) (ty := .int) (C := "ZoneAnswersModel$Rec") (T := T_Re) (N := 5) hx hb hts zi_Re t_Re t_Re_ok n_Re hown hK hG hS hr1 rfl 4 (by decide) (hts _ w_1269) (fun _ h9 => h9) rfl (by decide +kernel) rfl rfl (Nat.le_of_ble_eq_true rfl) d_Mo_put_188 (fun H locs hG hS => ?_)
                            obtain ⟨G368, eG368⟩ : ∃ z : zg_G, z = zg_up Gv (rA (re (rs ++ [ne9]) i)) (.inr (12, [.ref (rN (re (rs ++ [ne9]) i)), .ref (rD (re (rs ++ [ne9]) i)), (rV (re (rs ++ [ne9]) i)), .int (rT (re (rs ++ [ne9]) i)), .int tm])) := ⟨_, rfl⟩
                            have hG : zP E G368 H := by rw [eG368]; exact hG
                            have k369 : G368 a = some (.inr (11, [.int 0, .ref (h8 1), .int (nI tp.length), .ref (h8 3), .ref (h8 4), .int (nI ((rTL (rs ++ [ne9]) x9 t tm (i)).length)), .ref (h8 6), .ref (h8 7), .ref (h8 8), .ref (h8 9), .ref (h8 10), .ref (h8 11), .ref (h8 12), .int (nI (wln Wz)), .int co, .ref (h8 15), .int (nI (rPw Wz + ([] : List Int32).length)), .int se, .ref (h8 18), .ref q19, .ref q20])) := by rw [eG368, zg_up_ne (zg_ne ra8 hr1 (by intro h; simp at h))]; exact ra8
                            have k370 : G368 (h8 4) = some (.inl (E.2.1 4, 2000, .inr (.inr (.inr (.inr fr8))))) := by rw [eG368, zg_up_ne (zg_ne rm48 hr1 (by intro h; simp at h))]; exact rm48
                            have k371 : G368 (h8 3) = some (.inl (E.2.1 0, np_len lo, .inl fo8)) := by rw [eG368, zg_up_ne (zg_ne rn18 hr1 (by intro h; simp at h))]; exact rn18
                            have k372 : G368 (h8 1) = some (.inl (E.2.1 0, 65536, .inl fm8)) := by rw [eG368, zg_up_ne (zg_ne rt18 hr1 (by intro h; simp at h))]; exact rt18
                            have k373 : G368 q19 = some (.inl (E.2.1 0, np_len x9, .inl f_q198)) := by rw [eG368, zg_up_ne (zg_ne n1_q198 hr1 (by intro h; simp at h))]; exact n1_q198
                            have k374 : G368 (rA (re (rs ++ [ne9]) i)) = some (.inr (12, [.ref (rN (re (rs ++ [ne9]) i)), .ref (rD (re (rs ++ [ne9]) i)), (rV (re (rs ++ [ne9]) i)), .int (rT (re (rs ++ [ne9]) i)), .int tm])) := by rw [eG368]; exact zg_up_self _ _ _
                            have k375 : G368 (rN (re (rs ++ [ne9]) i)) = some (.inl (E.2.1 0, np_len (rM (re (rs ++ [ne9]) i)), .inl nf)) := by rw [eG368, zg_up_ne (zg_ne hr2 hr1 (by intro h; simp at h))]; exact hr2
                            obtain ⟨hst9, hs9⟩ := rSt.tm (u := tm) hst8 hin ⟨c159, (zsm_n hr3 n2_q198 hr4 n3_q198).mp (hp175.1.nz c178)⟩ hzp.rg.2.2.2
                            rw [← eG368] at hst9 hs9
                            have hnm9 := hnm8.fr hs9 zKr_0
                            have hf9 := hf8.tr hs9
                            refine lv_iinc (v := nI (i + 1)) (lv' := [(3, .int (nI (i + 1))), (0, .ref a), (1, .int t), (2, .int tm)]) hx hb d_Mo_put_191 hl (k := 3) rfl (nI_add i 1) (by decide) rfl (fun ls hl => ?_)
                            refine lv_goto (tgt := 141) hx hb d_Mo_put_194 (by decide) ?_
                            exact ih G368 (i + 1) _ _ (by omega) (by omega) (hst9) (hnm9) (hf9) hG hS ls (lv_sub hl [1, 2, 3, 0] rfl)
                  refine zW_more (cells2 := 4) (slots2 := tp.length + 520) (by dsimp only; omega) (by dsimp only; omega) ?_
                  exact loop141 _ G355 0 _ _ (Nat.lt_succ_self _) (Nat.zero_le _) (hst3) (hnm3) (hf3) hG hS ls (lv_sub hl [1, 2, 3, 0] rfl)
                · refine lv_aload_n hx hb d_Mo_put_73 rfl (lv_at hl 0 rfl) ?_
                  refine lv_aload_n hx hb d_Mo_put_74 rfl (lv_at hl 0 rfl) ?_
                  refine zg_get (ci := 11) (C := "ZoneAnswersModel") (T := T_Mo) (N := 21) hx hb hts zi_Mo hown hK hG ra2 rfl 19 (by decide) (hts _ w_1300) (fun _ h9 => h9) rfl d_Mo_put_75 ?_
                  refine zk_i (va_runV (As := [.ref q19]) (rest := []) ⟨hx, hb, hml, hown, hts⟩ (t_Mo_any_s l hst2 q19 x9 hnm2) (zcV 1 hts w_1413 w_1415 wp_31 w_30 w_1416 (by decide +kernel) ⟨Nat.le_of_ble_eq_true rfl, Nat.le_of_ble_eq_true rfl⟩) (zc_preV hbase hK hN hQ hG hS ra2 rfl) rfl rfl hl.1 rfl (lv_room (Nat.le_of_ble_eq_true rfl)) d_Mo_put_78 ⟨(by dsimp only; omega), (by dsimp only; omega)⟩) hS (fun r78 G78 H locs hp78 hG hS => ?_)
                  have hG : zP E G11 H := hp78.2 ▸ hG
                  refine lv_if_eq (tgt := 90) hx hb d_Mo_put_81 (by decide) (fun c81 => ?_) (fun c81 => ?_)
                  · have hno5 : ¬ (vD (rVf rs) x9 ∧ (t = 5 ∨ (rVf rs) x9 5 ≠ [])) := fun z => hp78.1.z c81 z.1
                    refine zg_new (ci := 12) (fs := [.null, .null, .null, .int 0, .int 0]) (C := "ZoneAnswersModel$Rec") (T := T_Re) (N := 5) hx hb hts zi_Re t_Re t_Re_ok hown (hts _ w_1252) (hts _ w_1260) (hts _ w_31) hK hG hS hbase rfl (fun j hj => by rcases (show j = 0 ∨ j = 1 ∨ j = 2 ∨ j = 3 ∨ j = 4 by omega) with rfl | rfl | rfl | rfl | rfl <;> rfl) (by dsimp only; omega) (by dsimp only; omega) d_Mo_put_90 (fun q90 H n90 hG hS => ?_)
                    obtain ⟨G376, eG376⟩ : ∃ z : zg_G, z = zg_up G11 q90 (.inr (12, [.null, .null, .null, .int 0, .int 0])) := ⟨_, rfl⟩
                    have hG : zP E G376 H := by rw [eG376]; exact hG
                    have ne90_a : a ≠ q90 := zg_fr n90 ra2
                    have k377 : G376 a = some (.inr (11, [.int 0, .ref (h2 1), .int (nI tp.length), .ref (h2 3), .ref (h2 4), .int (nI rs.length), .ref (h2 6), .ref (h2 7), .ref (h2 8), .ref (h2 9), .ref (h2 10), .ref (h2 11), .ref (h2 12), .int (nI (wln Wz)), .int co, .ref (h2 15), .int (nI (rPw Wz + ([] : List Int32).length)), .int se, .ref (h2 18), .ref q19, .ref q20])) := by rw [eG376, zg_up_ne (zg_fr n90 ra2)]; exact ra2
                    have ne90_h2_4 : h2 4 ≠ q90 := zg_fr n90 rm42
                    have k378 : G376 (h2 4) = some (.inl (E.2.1 4, 2000, .inr (.inr (.inr (.inr fr2))))) := by rw [eG376, zg_up_ne (zg_fr n90 rm42)]; exact rm42
                    have ne90_h2_3 : h2 3 ≠ q90 := zg_fr n90 rn12
                    have k379 : G376 (h2 3) = some (.inl (E.2.1 0, np_len lo, .inl fo2)) := by rw [eG376, zg_up_ne (zg_fr n90 rn12)]; exact rn12
                    have ne90_h2_1 : h2 1 ≠ q90 := zg_fr n90 rt12
                    have k380 : G376 (h2 1) = some (.inl (E.2.1 0, 65536, .inl fm2)) := by rw [eG376, zg_up_ne (zg_fr n90 rt12)]; exact rt12
                    have ne90_q19 : q19 ≠ q90 := zg_fr n90 n1_q192
                    have k381 : G376 q19 = some (.inl (E.2.1 0, np_len x9, .inl f_q192)) := by rw [eG376, zg_up_ne (zg_fr n90 n1_q192)]; exact n1_q192
                    have k382 : G376 q90 = some (.inr (12, [.null, .null, .null, .int 0, .int 0])) := by rw [eG376]; exact zg_up_self _ _ _
                    refine lv_dup hx hb d_Mo_put_93 rfl ?_
                    have hGo94 := hG
                    refine zk_v (va_runIN (As := []) (rest := [.ref q90]) ⟨hx, hb, hml, hown, hts⟩ (t_Re_init l E G376 q90) ⟨va_cnB 0 hts (zw_good w_1263) rfl rfl rfl (zN.at hN (w := .methodLinkNest "ZoneAnswersModel" 64 ⟨"ZoneAnswersModel$Rec", "<init>", "()V"⟩ "ZoneAnswersModel") (by decide +kernel)) (hts _ w_31) (by decide +kernel) ⟨Nat.le_of_ble_eq_true rfl, Nat.le_of_ble_eq_true rfl⟩, rfl, hts _ w_1262⟩ (zc_pre hbase hK hN hQ hG hS) rfl rfl hl.1 rfl (lv_room (Nat.le_of_ble_eq_true rfl)) d_Mo_put_94 ⟨(by dsimp only; omega), (by dsimp only; omega)⟩) hS (fun G94 H locs hp94 hG hS => ?_)
                    have hG : zP E G376 H := hp94 ▸ hG
                    refine lv_astore_n (lv' := [(3, .ref q90), (0, .ref a), (1, .int t), (2, .int tm)]) hx hb d_Mo_put_97 rfl hl (by decide) rfl (fun ls hl => ?_)
                    refine lv_aload_n hx hb d_Mo_put_98 rfl (lv_at hl 0 rfl) ?_
                    refine lv_aload_n hx hb d_Mo_put_99 rfl (lv_at hl 1 rfl) ?_
                    refine zg_get (ci := 11) (C := "ZoneAnswersModel") (T := T_Mo) (N := 21) hx hb hts zi_Mo hown hK hG k377 rfl 19 (by decide) (hts _ w_1300) (fun _ h9 => h9) rfl d_Mo_put_100 ?_
                    refine zg_put (ci := 12) (v := .ref q19) (ty := .array .byte) (C := "ZoneAnswersModel$Rec") (T := T_Re) (N := 5) hx hb hts zi_Re t_Re t_Re_ok n_Re hown hK hG hS k382 rfl 0 (by decide) (hts _ w_1265) (fun _ h9 => h9) rfl (by decide +kernel) rfl rfl (Nat.le_of_ble_eq_true rfl) d_Mo_put_103 (fun H locs hG hS => ?_)
                    obtain ⟨G383, eG383⟩ : ∃ z : zg_G, z = zg_up G376 q90 (.inr (12, [.ref q19, .null, .null, .int 0, .int 0])) := ⟨_, rfl⟩
                    have hG : zP E G383 H := by rw [eG383]; exact hG
                    have k384 : G383 a = some (.inr (11, [.int 0, .ref (h2 1), .int (nI tp.length), .ref (h2 3), .ref (h2 4), .int (nI rs.length), .ref (h2 6), .ref (h2 7), .ref (h2 8), .ref (h2 9), .ref (h2 10), .ref (h2 11), .ref (h2 12), .int (nI (wln Wz)), .int co, .ref (h2 15), .int (nI (rPw Wz + ([] : List Int32).length)), .int se, .ref (h2 18), .ref q19, .ref q20])) := by rw [eG383, zg_up_ne (ne90_a)]; exact k377
                    have k385 : G383 (h2 4) = some (.inl (E.2.1 4, 2000, .inr (.inr (.inr (.inr fr2))))) := by rw [eG383, zg_up_ne (ne90_h2_4)]; exact k378
                    have k386 : G383 (h2 3) = some (.inl (E.2.1 0, np_len lo, .inl fo2)) := by rw [eG383, zg_up_ne (ne90_h2_3)]; exact k379
                    have k387 : G383 (h2 1) = some (.inl (E.2.1 0, 65536, .inl fm2)) := by rw [eG383, zg_up_ne (ne90_h2_1)]; exact k380
                    have k388 : G383 q19 = some (.inl (E.2.1 0, np_len x9, .inl f_q192)) := by rw [eG383, zg_up_ne (ne90_q19)]; exact k381
                    have k389 : G383 q90 = some (.inr (12, [.ref q19, .null, .null, .int 0, .int 0])) := by rw [eG383]; exact zg_up_self _ _ _
                    refine lv_aload_n hx hb d_Mo_put_106 rfl (lv_at hl 0 rfl) ?_
                    refine lv_iload_n hx hb d_Mo_put_107 rfl (lv_at hl 2 rfl) ?_
                    refine zg_put (ci := 12) (v := .int t) (ty := .int) (C := "ZoneAnswersModel$Rec") (T := T_Re) (N := 5) hx hb hts zi_Re t_Re t_Re_ok n_Re hown hK hG hS k389 rfl 3 (by decide) (hts _ w_1268) (fun _ h9 => h9) rfl (by decide +kernel) rfl rfl (Nat.le_of_ble_eq_true rfl) d_Mo_put_108 (fun H locs hG hS => ?_)
                    obtain ⟨G390, eG390⟩ : ∃ z : zg_G, z = zg_up G383 q90 (.inr (12, [.ref q19, .null, .null, .int t, .int 0])) := ⟨_, rfl⟩
                    have hG : zP E G390 H := by rw [eG390]; exact hG
                    have k391 : G390 a = some (.inr (11, [.int 0, .ref (h2 1), .int (nI tp.length), .ref (h2 3), .ref (h2 4), .int (nI rs.length), .ref (h2 6), .ref (h2 7), .ref (h2 8), .ref (h2 9), .ref (h2 10), .ref (h2 11), .ref (h2 12), .int (nI (wln Wz)), .int co, .ref (h2 15), .int (nI (rPw Wz + ([] : List Int32).length)), .int se, .ref (h2 18), .ref q19, .ref q20])) := by rw [eG390, zg_up_ne (ne90_a)]; exact k384
                    have k392 : G390 (h2 4) = some (.inl (E.2.1 4, 2000, .inr (.inr (.inr (.inr fr2))))) := by rw [eG390, zg_up_ne (ne90_h2_4)]; exact k385
                    have k393 : G390 (h2 3) = some (.inl (E.2.1 0, np_len lo, .inl fo2)) := by rw [eG390, zg_up_ne (ne90_h2_3)]; exact k386
                    have k394 : G390 (h2 1) = some (.inl (E.2.1 0, 65536, .inl fm2)) := by rw [eG390, zg_up_ne (ne90_h2_1)]; exact k387
                    have k395 : G390 q19 = some (.inl (E.2.1 0, np_len x9, .inl f_q192)) := by rw [eG390, zg_up_ne (ne90_q19)]; exact k388
                    have k396 : G390 q90 = some (.inr (12, [.ref q19, .null, .null, .int t, .int 0])) := by rw [eG390]; exact zg_up_self _ _ _
                    refine lv_aload_n hx hb d_Mo_put_111 rfl (lv_at hl 0 rfl) ?_
                    refine lv_aload_n hx hb d_Mo_put_112 rfl (lv_at hl 1 rfl) ?_
                    refine zg_get (ci := 11) (C := "ZoneAnswersModel") (T := T_Mo) (N := 21) hx hb hts zi_Mo hown hK hG k391 rfl 20 (by decide) (hts _ w_1301) (fun _ h9 => h9) rfl d_Mo_put_113 ?_
                    refine zg_put (ci := 12) (v := .ref q20) (ty := .array .byte) (C := "ZoneAnswersModel$Rec") (T := T_Re) (N := 5) hx hb hts zi_Re t_Re t_Re_ok n_Re hown hK hG hS k396 rfl 1 (by decide) (hts _ w_1266) (fun _ h9 => h9) rfl (by decide +kernel) rfl rfl (Nat.le_of_ble_eq_true rfl) d_Mo_put_116 (fun H locs hG hS => ?_)
                    obtain ⟨G397, eG397⟩ : ∃ z : zg_G, z = zg_up G390 q90 (.inr (12, [.ref q19, .ref q20, .null, .int t, .int 0])) := ⟨_, rfl⟩
                    have hG : zP E G397 H := by rw [eG397]; exact hG
                    have k398 : G397 a = some (.inr (11, [.int 0, .ref (h2 1), .int (nI tp.length), .ref (h2 3), .ref (h2 4), .int (nI rs.length), .ref (h2 6), .ref (h2 7), .ref (h2 8), .ref (h2 9), .ref (h2 10), .ref (h2 11), .ref (h2 12), .int (nI (wln Wz)), .int co, .ref (h2 15), .int (nI (rPw Wz + ([] : List Int32).length)), .int se, .ref (h2 18), .ref q19, .ref q20])) := by rw [eG397, zg_up_ne (ne90_a)]; exact k391
                    have k399 : G397 (h2 4) = some (.inl (E.2.1 4, 2000, .inr (.inr (.inr (.inr fr2))))) := by rw [eG397, zg_up_ne (ne90_h2_4)]; exact k392
                    have k400 : G397 (h2 3) = some (.inl (E.2.1 0, np_len lo, .inl fo2)) := by rw [eG397, zg_up_ne (ne90_h2_3)]; exact k393
                    have k401 : G397 (h2 1) = some (.inl (E.2.1 0, 65536, .inl fm2)) := by rw [eG397, zg_up_ne (ne90_h2_1)]; exact k394
                    have k402 : G397 q19 = some (.inl (E.2.1 0, np_len x9, .inl f_q192)) := by rw [eG397, zg_up_ne (ne90_q19)]; exact k395
                    have k403 : G397 q90 = some (.inr (12, [.ref q19, .ref q20, .null, .int t, .int 0])) := by rw [eG397]; exact zg_up_self _ _ _
                    refine lv_aload_n hx hb d_Mo_put_119 rfl (lv_at hl 1 rfl) ?_
                    refine zg_get (ci := 11) (C := "ZoneAnswersModel") (T := T_Mo) (N := 21) hx hb hts zi_Mo hown hK hG k398 rfl 4 (by decide) (hts _ w_1285) (fun _ h9 => h9) rfl d_Mo_put_120 ?_
                    refine lv_aload_n hx hb d_Mo_put_123 rfl (lv_at hl 1 rfl) ?_
                    refine zg_get (ci := 11) (C := "ZoneAnswersModel") (T := T_Mo) (N := 21) hx hb hts zi_Mo hown hK hG k398 rfl 5 (by decide) (hts _ w_1286) (fun _ h9 => h9) rfl d_Mo_put_124 ?_
                    refine lv_aload_n hx hb d_Mo_put_127 rfl (lv_at hl 0 rfl) ?_
                    refine zg_astq (r := ("ZoneAnswersModel$Rec", T_Re, 5)) hx hb hK hG hS 4 12 k399 rfl k403 rfl (vp_in_nI (by omega) (by omega)) d_Mo_put_128 (fun H locs hG hS => ?_)
                    rw [zi_n rs.length (by omega)] at hG
                    obtain ⟨G404, eG404⟩ : ∃ z : zg_G, z = zg_up G397 (h2 4) (.inl (E.2.1 4, 2000, .inr (.inr (.inr (.inr (va_up fr2 rs.length (some q90))))))) := ⟨_, rfl⟩
                    have hG : zP E G404 H := by rw [eG404]; exact hG
                    have k405 : G404 a = some (.inr (11, [.int 0, .ref (h2 1), .int (nI tp.length), .ref (h2 3), .ref (h2 4), .int (nI rs.length), .ref (h2 6), .ref (h2 7), .ref (h2 8), .ref (h2 9), .ref (h2 10), .ref (h2 11), .ref (h2 12), .int (nI (wln Wz)), .int co, .ref (h2 15), .int (nI (rPw Wz + ([] : List Int32).length)), .int se, .ref (h2 18), .ref q19, .ref q20])) := by rw [eG404, zg_up_ne (zg_ne k398 k399 (by intro h; simp at h))]; exact k398
                    have k406 : G404 (h2 4) = some (.inl (E.2.1 4, 2000, .inr (.inr (.inr (.inr (va_up fr2 rs.length (some q90))))))) := by rw [eG404]; exact zg_up_self _ _ _
                    have k407 : G404 (h2 3) = some (.inl (E.2.1 0, np_len lo, .inl fo2)) := by rw [eG404, zg_up_ne (zg_ne k400 k399 (by intro h; simp at h))]; exact k400
                    have k408 : G404 (h2 1) = some (.inl (E.2.1 0, 65536, .inl fm2)) := by rw [eG404, zg_up_ne (zg_ne k401 k399 (by intro h; simp at h))]; exact k401
                    have k409 : G404 q19 = some (.inl (E.2.1 0, np_len x9, .inl f_q192)) := by rw [eG404, zg_up_ne (zg_ne k402 k399 (by intro h; simp at h))]; exact k402
                    have k410 : G404 q90 = some (.inr (12, [.ref q19, .ref q20, .null, .int t, .int 0])) := by rw [eG404, zg_up_ne (Ne.symm ne90_h2_4)]; exact k403
                    refine lv_aload_n hx hb d_Mo_put_129 rfl (lv_at hl 1 rfl) ?_
                    refine lv_dup hx hb d_Mo_put_130 rfl ?_
                    refine zg_get (ci := 11) (C := "ZoneAnswersModel") (T := T_Mo) (N := 21) hx hb hts zi_Mo hown hK hG k405 rfl 5 (by decide) (hts _ w_1286) (fun _ h9 => h9) rfl d_Mo_put_131 ?_
                    refine lv_iconst (v := 1) hx hb d_Mo_put_134 (by decide) ?_
                    refine lv_iadd hx hb d_Mo_put_135 ?_
                    refine zi_as (y := nI (rs.length + 1)) (nI_add rs.length 1) ?_
                    refine zg_put (ci := 11) (v := .int (nI (rs.length + 1))) (ty := .int) (C := "ZoneAnswersModel") (T := T_Mo) (N := 21) hx hb hts zi_Mo t_Mo t_Mo_ok n_Mo hown hK hG hS k405 rfl 5 (by decide) (hts _ w_1286) (fun _ h9 => h9) rfl (by decide +kernel) rfl rfl (Nat.le_of_ble_eq_true rfl) d_Mo_put_136 (fun H locs hG hS => ?_)
                    obtain ⟨G411, eG411⟩ : ∃ z : zg_G, z = zg_up G404 a (.inr (11, [.int 0, .ref (h2 1), .int (nI tp.length), .ref (h2 3), .ref (h2 4), .int (nI (rs.length + 1)), .ref (h2 6), .ref (h2 7), .ref (h2 8), .ref (h2 9), .ref (h2 10), .ref (h2 11), .ref (h2 12), .int (nI (wln Wz)), .int co, .ref (h2 15), .int (nI (rPw Wz + ([] : List Int32).length)), .int se, .ref (h2 18), .ref q19, .ref q20])) := ⟨_, rfl⟩
                    have hG : zP E G411 H := by rw [eG411]; exact hG
                    have k412 : G411 a = some (.inr (11, [.int 0, .ref (h2 1), .int (nI tp.length), .ref (h2 3), .ref (h2 4), .int (nI (rs.length + 1)), .ref (h2 6), .ref (h2 7), .ref (h2 8), .ref (h2 9), .ref (h2 10), .ref (h2 11), .ref (h2 12), .int (nI (wln Wz)), .int co, .ref (h2 15), .int (nI (rPw Wz + ([] : List Int32).length)), .int se, .ref (h2 18), .ref q19, .ref q20])) := by rw [eG411]; exact zg_up_self _ _ _
                    have k413 : G411 (h2 4) = some (.inl (E.2.1 4, 2000, .inr (.inr (.inr (.inr (va_up fr2 rs.length (some q90))))))) := by rw [eG411, zg_up_ne (zg_ne k406 k405 (by intro h; simp at h))]; exact k406
                    have k414 : G411 (h2 3) = some (.inl (E.2.1 0, np_len lo, .inl fo2)) := by rw [eG411, zg_up_ne (zg_ne k407 k405 (by intro h; simp at h))]; exact k407
                    have k415 : G411 (h2 1) = some (.inl (E.2.1 0, 65536, .inl fm2)) := by rw [eG411, zg_up_ne (zg_ne k408 k405 (by intro h; simp at h))]; exact k408
                    have k416 : G411 q19 = some (.inl (E.2.1 0, np_len x9, .inl f_q192)) := by rw [eG411, zg_up_ne (zg_ne k409 k405 (by intro h; simp at h))]; exact k409
                    have k417 : G411 q90 = some (.inr (12, [.ref q19, .ref q20, .null, .int t, .int 0])) := by rw [eG411, zg_up_ne (Ne.symm ne90_a)]; exact k410
                    obtain ⟨ne9, hne9⟩ : ∃ z : zRt, z = (q90, q19, q20, .null, x9, t, 0, D9) := ⟨_, rfl⟩
                    have eGf := eG411
                    rw [eG404, eG397, eG390, eG383, eG376, zg_up_up, zg_up_up, zg_up_up] at eGf
                    obtain ⟨hst3, hs3⟩ := rSt.addr hc2 eh02 eh12 eh22 hn9 n90 rm42 hfr2 hnm2 hby2 hr20 hne2 hzr.ln.2.2.2 hzp (by omega) hzr.rdt .null hne9 eGf
                    have hf3 := hf2.tr hs3
                    have hnm3 := hnm2.fr hs3 zKr_0
                    obtain ⟨h3, eh03, eh13, eh23, hc3⟩ := id hst3
                    obtain ⟨ra3, rb3, ⟨fm3, rt13, rt23, rt33, rt43⟩, rtl3, ⟨fo3, rn13, rn23, rn33, rn43, rn53⟩, rr3, rg3, ras3⟩ := id hc3
                    rw [eh03] at ra3
                    obtain ⟨⟨fr3, rm43, hfr3⟩, hn23, hRs3⟩ := id rr3.1
                    obtain ⟨f_q193, n1_q193, n2_q193, n3_q193, n4_q193, n5_q193⟩ := id hnm3
                    have sm_q193 := n3_q193.2
                    refine lv_iconst (v := 0) hx hb d_Mo_put_139 (by decide) ?_
                    refine zi_as (y := nI 0) (nI_0.symm) ?_
                    refine lv_istore_n (lv' := [(3, .int (nI 0)), (0, .ref a), (1, .int t), (2, .int tm)]) hx hb d_Mo_put_140 rfl hl (by decide) rfl (fun ls hl => ?_)
                    have loop141 : ∀ (N : Nat) (Gv : zg_G) (i : Nat) (H : Heap) (locs : List Loc), ((rs ++ [ne9]).length - i) < N → (i ≤ (rs ++ [ne9]).length) → (rSt E Gv (zrn ro2 q90 (21, 0)) a c1 c2 lo (rTL (rs ++ [ne9]) x9 t tm (i)) Wz [] False (0, 0, [], []) 0 tp co se (.ref q19) (.ref q20)) → (rNm E Gv (zrn ro2 q90 (21, 0)) q19 x9) → (zfr ro zKr G (zrn ro2 q90 (21, 0)) Gv) → zP E Gv H → zg_S (zc_b E) s.heap H locs → ∀ (ls : Array Slot), lv_has ls 4 [(0, .ref a), (1, .int t), (2, .int tm), (3, .int (nI i))] → W p l e (rm_Mo_put tp.length) s m args below meth c H locs 4 (tp.length + 520) Q (F0 m 141 ls []) := by
                      intro N
                      induction N with
                      | zero =>
                        intro Gv i H locs hlt
                        exact absurd hlt (Nat.not_lt_zero _)
                      | succ N ih =>
                        intro Gv i H locs hlt hi hst8 hnm8 hf8 hG hS ls hl
                        obtain ⟨h8, eh08, eh18, eh28, hc8⟩ := id hst8
                        obtain ⟨ra8, rb8, ⟨fm8, rt18, rt28, rt38, rt48⟩, rtl8, ⟨fo8, rn18, rn28, rn38, rn48, rn58⟩, rr8, rg8, ras8⟩ := id hc8
                        rw [eh08] at ra8
                        obtain ⟨⟨fr8, rm48, hfr8⟩, hn28, hRs8⟩ := id rr8.1
                        obtain ⟨f_q198, n1_q198, n2_q198, n3_q198, n4_q198, n5_q198⟩ := id hnm8
                        have sm_q198 := n3_q198.2
                        have hTl : (rTL (rs ++ [ne9]) x9 t tm (i)).length = (rs ++ [ne9]).length := rTL_len
                        refine lv_iload_n hx hb d_Mo_put_141 rfl (lv_at hl 3 rfl) ?_
                        refine lv_aload_n hx hb d_Mo_put_142 rfl (lv_at hl 0 rfl) ?_
                        refine zg_get (ci := 11) (C := "ZoneAnswersModel") (T := T_Mo) (N := 21) hx hb hts zi_Mo hown hK hG ra8 rfl 5 (by decide) (hts _ w_1286) (fun _ h9 => h9) rfl d_Mo_put_143 ?_
                        refine lv_icmp_ge (tgt := 197) hx hb d_Mo_put_146 (by decide) (fun c146 => ?_) (fun c146 => ?_)
                        · have b146 : ((rTL (rs ++ [ne9]) x9 t tm (i)).length) ≤ i := (nI_leI (a := ((rTL (rs ++ [ne9]) x9 t tm (i)).length)) (b := i) (by omega) (by omega)).mp c146
                          refine lv_aload_n hx hb d_Mo_put_197 rfl (lv_at hl 0 rfl) ?_
                          refine lv_iconst (v := 0) hx hb d_Mo_put_198 (by decide) ?_
                          refine zi_as (y := nI 0) (nI_0.symm) ?_
                          refine zg_put (ci := 11) (v := .int (nI 0)) (ty := .int) (C := "ZoneAnswersModel") (T := T_Mo) (N := 21) hx hb hts zi_Mo t_Mo t_Mo_ok n_Mo hown hK hG hS ra8 rfl 2 (by decide) (hts _ w_1283) (fun _ h9 => h9) rfl (by decide +kernel) rfl rfl (Nat.le_of_ble_eq_true rfl) d_Mo_put_199 (fun H locs hG hS => ?_)
                          obtain ⟨G418, eG418⟩ : ∃ z : zg_G, z = zg_up Gv a (.inr (11, [.int 0, .ref (h8 1), .int (nI 0), .ref (h8 3), .ref (h8 4), .int (nI ((rTL (rs ++ [ne9]) x9 t tm (i)).length)), .ref (h8 6), .ref (h8 7), .ref (h8 8), .ref (h8 9), .ref (h8 10), .ref (h8 11), .ref (h8 12), .int (nI (wln Wz)), .int co, .ref (h8 15), .int (nI (rPw Wz + ([] : List Int32).length)), .int se, .ref (h8 18), .ref q19, .ref q20])) := ⟨_, rfl⟩
                          have hG : zP E G418 H := by rw [eG418]; exact hG
                          have k419 : G418 a = some (.inr (11, [.int 0, .ref (h8 1), .int (nI 0), .ref (h8 3), .ref (h8 4), .int (nI ((rTL (rs ++ [ne9]) x9 t tm (i)).length)), .ref (h8 6), .ref (h8 7), .ref (h8 8), .ref (h8 9), .ref (h8 10), .ref (h8 11), .ref (h8 12), .int (nI (wln Wz)), .int co, .ref (h8 15), .int (nI (rPw Wz + ([] : List Int32).length)), .int se, .ref (h8 18), .ref q19, .ref q20])) := by rw [eG418]; exact zg_up_self _ _ _
                          have k420 : G418 (h8 4) = some (.inl (E.2.1 4, 2000, .inr (.inr (.inr (.inr fr8))))) := by rw [eG418, zg_up_ne (zg_ne rm48 ra8 (by intro h; simp at h))]; exact rm48
                          have k421 : G418 (h8 3) = some (.inl (E.2.1 0, np_len lo, .inl fo8)) := by rw [eG418, zg_up_ne (zg_ne rn18 ra8 (by intro h; simp at h))]; exact rn18
                          have k422 : G418 (h8 1) = some (.inl (E.2.1 0, 65536, .inl fm8)) := by rw [eG418, zg_up_ne (zg_ne rt18 ra8 (by intro h; simp at h))]; exact rt18
                          have k423 : G418 q19 = some (.inl (E.2.1 0, np_len x9, .inl f_q198)) := by rw [eG418, zg_up_ne (zg_ne n1_q198 ra8 (by intro h; simp at h))]; exact n1_q198
                          obtain ⟨hst7, hs7⟩ := rSt.tk hst8 0 (Nat.zero_le _) _ _ 0 ra8
                          rw [← eG418, List.take_zero] at hst7
                          rw [← eG418] at hs7
                          have hf7 := hf8.tr hs7
                          have hnm7 := hnm8.fr hs7 zKr_0
                          have hiE : i = (rs ++ [ne9]).length := by omega
                          rw [hiE, rTL_e] at hst7
                          obtain ⟨h7, eh07, eh17, eh27, hc7⟩ := id hst7
                          obtain ⟨ra7, rb7, ⟨fm7, rt17, rt27, rt37, rt47⟩, rtl7, ⟨fo7, rn17, rn27, rn37, rn47, rn57⟩, rr7, rg7, ras7⟩ := id hc7
                          rw [eh07] at ra7
                          obtain ⟨⟨fr7, rm47, hfr7⟩, hn27, hRs7⟩ := id rr7.1
                          obtain ⟨f_q197, n1_q197, n2_q197, n3_q197, n4_q197, n5_q197⟩ := id hnm7
                          have sm_q197 := n3_q197.2
                          refine lv_aload_n hx hb d_Mo_put_202 rfl (lv_at hl 0 rfl) ?_
                          refine lv_aload_n hx hb d_Mo_put_203 rfl (lv_at hl 0 rfl) ?_
                          refine zg_get (ci := 11) (C := "ZoneAnswersModel") (T := T_Mo) (N := 21) hx hb hts zi_Mo hown hK hG ra7 rfl 19 (by decide) (hts _ w_1300) (fun _ h9 => h9) rfl d_Mo_put_204 ?_
                          refine lv_iload_n hx hb d_Mo_put_207 rfl (lv_at hl 1 rfl) ?_
                          refine zk_i (va_runV (As := [.ref q19, .int t]) (rest := []) ⟨hx, hb, hml, hown, hts⟩ (t_Mo_size l E G418 ((rs ++ [ne9]).map (rTm x9 t tm)) a (h7 1) (h7 3) (h7 4) (h7 6) (h7 7) (h7 8) (h7 9) (h7 10) (h7 11) (h7 12) (h7 15) (h7 18) 0 (nI (([] : List Int32).length)) (nI (wln Wz)) co (nI (rPw Wz + ([] : List Int32).length)) se (.ref q19) (.ref q20) ra7 rr7.1 q19 x9 f_q197 n1_q197 n2_q197 n3_q197 t) (zcV 2 hts w_1417 w_1419 wp_32 w_30 w_1420 (by decide +kernel) ⟨Nat.le_of_ble_eq_true rfl, Nat.le_of_ble_eq_true rfl⟩) (zc_preV hbase hK hN hQ hG hS ra7 rfl) rfl rfl hl.1 rfl (lv_room (Nat.le_of_ble_eq_true rfl)) d_Mo_put_208 ⟨(by dsimp only; omega), (by dsimp only; omega)⟩) hS (fun r208 G208 H locs hp208 hG hS => ?_)
                          have hG : zP E G418 H := hp208.2 ▸ hG
                          refine zi_as (y := nI (zct ((rs ++ [ne9]).map (rTm x9 t tm)) t x9 ((rs ++ [ne9]).map (rTm x9 t tm)).length)) hp208.1 ?_
                          exact hret _ _ _ _ _ _ _ _ _ hr (rfl) (Or.inl ⟨c6, (zrn ro2 q90 (21, 0)), ((rs ++ [ne9]).map (rTm x9 t tm)), x9, D9, hzr, Or.inr ⟨hnoD, hno5, by rw [rVf_tm]; exact rVf_pt (by rw [hne9]; exact ⟨rfl, rfl, rfl, rfl⟩), by rw [List.length_map, List.length_append]; rfl, by rw [rNu_tm, rNu_app, hne9]; rfl⟩, by rw [zct_all], hst7.o hse, hf7⟩) hG hS (by dsimp only; omega) (by dsimp only; omega) d_Mo_put_211
                        · have b146 : ¬ ((rTL (rs ++ [ne9]) x9 t tm (i)).length) ≤ i := fun q => c146 ((nI_leI (a := ((rTL (rs ++ [ne9]) x9 t tm (i)).length)) (b := i) (by omega) (by omega)).mpr q)
                          have hin : i < (rs ++ [ne9]).length := by omega
                          have hre : re (rTL (rs ++ [ne9]) x9 t tm (i)) i = re (rs ++ [ne9]) i := rTL_re hin
                          have hin8 : i < (rTL (rs ++ [ne9]) x9 t tm (i)).length := by omega
                          have hrr := hRs8 _ (re_mem hin8)
                          rw [hre] at hrr
                          obtain ⟨hr1, ⟨nf, hr2, hr3, hr4, hr5⟩, df, hr6, hr7, hr8⟩ := hrr
                          have hfi := hfr8 i hin8
                          rw [hre] at hfi
                          have sm := hr4.2
                          refine lv_aload_n hx hb d_Mo_put_149 rfl (lv_at hl 0 rfl) ?_
                          refine zg_get (ci := 11) (C := "ZoneAnswersModel") (T := T_Mo) (N := 21) hx hb hts zi_Mo hown hK hG ra8 rfl 4 (by decide) (hts _ w_1285) (fun _ h9 => h9) rfl d_Mo_put_150 ?_
                          refine lv_iload_n hx hb d_Mo_put_153 rfl (lv_at hl 3 rfl) ?_
                          refine zg_aldq hx hb hK hG 4 rm48 rfl (vp_in_nI (by omega) (by omega)) d_Mo_put_154 ?_
                          refine zr_as (y := fr8 i) (by rw [zi_n _ (by omega)]) ?_
                          refine zr_some (a := rA (re (rs ++ [ne9]) i)) (hfi) ?_
                          refine zg_get (ci := 12) (C := "ZoneAnswersModel$Rec") (T := T_Re) (N := 5) hx hb hts zi_Re hown hK hG hr1 rfl 3 (by decide) (hts _ w_1268) (fun _ h9 => h9) rfl d_Mo_put_155 ?_
                          refine lv_iload_n hx hb d_Mo_put_158 rfl (lv_at hl 1 rfl) ?_
                          refine lv_icmp_ne (tgt := 191) hx hb d_Mo_put_159 (by decide) (fun c159 => ?_) (fun c159 => ?_)
                          · have hsk : rTL (rs ++ [ne9]) x9 t tm (i + 1) = rTL (rs ++ [ne9]) x9 t tm (i) := rTL_n hin (fun z => c159 z.1)
                            have hst9 := hst8
                            rw [← hsk] at hst9
                            have hnm9 := hnm8
                            have hf9 := hf8
                            refine lv_iinc (v := nI (i + 1)) (lv' := [(3, .int (nI (i + 1))), (0, .ref a), (1, .int t), (2, .int tm)]) hx hb d_Mo_put_191 hl (k := 3) rfl (nI_add i 1) (by decide) rfl (fun ls hl => ?_)
                            refine lv_goto (tgt := 141) hx hb d_Mo_put_194 (by decide) ?_
                            exact ih Gv (i + 1) _ _ (by omega) (by omega) (hst9) (hnm9) (hf9) hG hS ls (lv_sub hl [1, 2, 3, 0] rfl)
                          · refine lv_aload_n hx hb d_Mo_put_162 rfl (lv_at hl 0 rfl) ?_
                            refine zg_get (ci := 11) (C := "ZoneAnswersModel") (T := T_Mo) (N := 21) hx hb hts zi_Mo hown hK hG ra8 rfl 4 (by decide) (hts _ w_1285) (fun _ h9 => h9) rfl d_Mo_put_163 ?_
                            refine lv_iload_n hx hb d_Mo_put_166 rfl (lv_at hl 3 rfl) ?_
                            refine zg_aldq hx hb hK hG 4 rm48 rfl (vp_in_nI (by omega) (by omega)) d_Mo_put_167 ?_
                            refine zr_as (y := fr8 i) (by rw [zi_n _ (by omega)]) ?_
                            refine zr_some (a := rA (re (rs ++ [ne9]) i)) (hfi) ?_
                            refine zg_get (ci := 12) (C := "ZoneAnswersModel$Rec") (T := T_Re) (N := 5) hx hb hts zi_Re hown hK hG hr1 rfl 0 (by decide) (hts _ w_1265) (fun _ h9 => h9) rfl d_Mo_put_168 ?_
                            refine lv_aload_n hx hb d_Mo_put_171 rfl (lv_at hl 0 rfl) ?_
                            refine zg_get (ci := 11) (C := "ZoneAnswersModel") (T := T_Mo) (N := 21) hx hb hts zi_Mo hown hK hG ra8 rfl 19 (by decide) (hts _ w_1300) (fun _ h9 => h9) rfl d_Mo_put_172 ?_
                            refine zk_i (va_runS (As := [.ref (rN (re (rs ++ [ne9]) i)), .ref q19]) (rest := []) ⟨hx, hb, hml, hown, hts⟩ (t_Ns_same l E Gv (rN (re (rs ++ [ne9]) i)) (np_len (rM (re (rs ++ [ne9]) i))) nf hr2 q19 (np_len x9) f_q198 n1_q198 (by omega) (by omega)) (zcS 2 hts w_1405 w_1406 w_33 w_1407 (by decide +kernel) ⟨Nat.le_of_ble_eq_true rfl, Nat.le_of_ble_eq_true rfl⟩) (zc_pre hbase hK hN hQ hG hS) rfl rfl hl.1 rfl (lv_room (Nat.le_of_ble_eq_true rfl)) d_Mo_put_175 ⟨(by dsimp only; omega), (by dsimp only; omega)⟩) hS (fun r175 G175 H locs hp175 hG hS => ?_)
                            have hG : zP E Gv H := hp175.2 ▸ hG
                            refine lv_if_eq (tgt := 191) hx hb d_Mo_put_178 (by decide) (fun c178 => ?_) (fun c178 => ?_)
                            · have hsk : rTL (rs ++ [ne9]) x9 t tm (i + 1) = rTL (rs ++ [ne9]) x9 t tm (i) := rTL_n hin (fun z => hp175.1.z c178 ((zsm_n hr3 n2_q198 hr4 n3_q198).mpr z.2))
                              have hst9 := hst8
                              rw [← hsk] at hst9
                              have hnm9 := hnm8
                              have hf9 := hf8
                              refine lv_iinc (v := nI (i + 1)) (lv' := [(3, .int (nI (i + 1))), (0, .ref a), (1, .int t), (2, .int tm)]) hx hb d_Mo_put_191 hl (k := 3) rfl (nI_add i 1) (by decide) rfl (fun ls hl => ?_)
                              refine lv_goto (tgt := 141) hx hb d_Mo_put_194 (by decide) ?_
                              exact ih Gv (i + 1) _ _ (by omega) (by omega) (hst9) (hnm9) (hf9) hG hS ls (lv_sub hl [1, 2, 3, 0] rfl)
                            · refine lv_aload_n hx hb d_Mo_put_181 rfl (lv_at hl 0 rfl) ?_
                              refine zg_get (ci := 11) (C := "ZoneAnswersModel") (T := T_Mo) (N := 21) hx hb hts zi_Mo hown hK hG ra8 rfl 4 (by decide) (hts _ w_1285) (fun _ h9 => h9) rfl d_Mo_put_182 ?_
                              refine lv_iload_n hx hb d_Mo_put_185 rfl (lv_at hl 3 rfl) ?_
                              refine zg_aldq hx hb hK hG 4 rm48 rfl (vp_in_nI (by omega) (by omega)) d_Mo_put_186 ?_
                              refine zr_as (y := fr8 i) (by rw [zi_n _ (by omega)]) ?_
                              refine zr_some (a := rA (re (rs ++ [ne9]) i)) (hfi) ?_
                              refine lv_iload_n hx hb d_Mo_put_187 rfl (lv_at hl 2 rfl) ?_
                              refine zg_put (ci := 12) (v := .int tm) (ty := .int) (C := "ZoneAnswersModel$Rec") (T := T_Re) (N := 5) hx hb hts zi_Re t_Re t_Re_ok n_Re hown hK hG hS hr1 rfl 4 (by decide) (hts _ w_1269) (fun _ h9 => h9) rfl (by decide +kernel) rfl rfl (Nat.le_of_ble_eq_true rfl) d_Mo_put_188 (fun H locs hG hS => ?_)
                              obtain ⟨G424, eG424⟩ : ∃ z : zg_G, z = zg_up Gv (rA (re (rs ++ [ne9]) i)) (.inr (12, [.ref (rN (re (rs ++ [ne9]) i)), .ref (rD (re (rs ++ [ne9]) i)), (rV (re (rs ++ [ne9]) i)), .int (rT (re (rs ++ [ne9]) i)), .int tm])) := ⟨_, rfl⟩
                              have hG : zP E G424 H := by rw [eG424]; exact hG
                              have k425 : G424 a = some (.inr (11, [.int 0, .ref (h8 1), .int (nI tp.length), .ref (h8 3), .ref (h8 4), .int (nI ((rTL (rs ++ [ne9]) x9 t tm (i)).length)), .ref (h8 6), .ref (h8 7), .ref (h8 8), .ref (h8 9), .ref (h8 10), .ref (h8 11), .ref (h8 12), .int (nI (wln Wz)), .int co, .ref (h8 15), .int (nI (rPw Wz + ([] : List Int32).length)), .int se, .ref (h8 18), .ref q19, .ref q20])) := by rw [eG424, zg_up_ne (zg_ne ra8 hr1 (by intro h; simp at h))]; exact ra8
                              have k426 : G424 (h8 4) = some (.inl (E.2.1 4, 2000, .inr (.inr (.inr (.inr fr8))))) := by rw [eG424, zg_up_ne (zg_ne rm48 hr1 (by intro h; simp at h))]; exact rm48
                              have k427 : G424 (h8 3) = some (.inl (E.2.1 0, np_len lo, .inl fo8)) := by rw [eG424, zg_up_ne (zg_ne rn18 hr1 (by intro h; simp at h))]; exact rn18
                              have k428 : G424 (h8 1) = some (.inl (E.2.1 0, 65536, .inl fm8)) := by rw [eG424, zg_up_ne (zg_ne rt18 hr1 (by intro h; simp at h))]; exact rt18
                              have k429 : G424 q19 = some (.inl (E.2.1 0, np_len x9, .inl f_q198)) := by rw [eG424, zg_up_ne (zg_ne n1_q198 hr1 (by intro h; simp at h))]; exact n1_q198
                              have k430 : G424 (rA (re (rs ++ [ne9]) i)) = some (.inr (12, [.ref (rN (re (rs ++ [ne9]) i)), .ref (rD (re (rs ++ [ne9]) i)), (rV (re (rs ++ [ne9]) i)), .int (rT (re (rs ++ [ne9]) i)), .int tm])) := by rw [eG424]; exact zg_up_self _ _ _
                              have k431 : G424 (rN (re (rs ++ [ne9]) i)) = some (.inl (E.2.1 0, np_len (rM (re (rs ++ [ne9]) i)), .inl nf)) := by rw [eG424, zg_up_ne (zg_ne hr2 hr1 (by intro h; simp at h))]; exact hr2
                              obtain ⟨hst9, hs9⟩ := rSt.tm (u := tm) hst8 hin ⟨c159, (zsm_n hr3 n2_q198 hr4 n3_q198).mp (hp175.1.nz c178)⟩ hzp.rg.2.2.2
                              rw [← eG424] at hst9 hs9
                              have hnm9 := hnm8.fr hs9 zKr_0
                              have hf9 := hf8.tr hs9
                              refine lv_iinc (v := nI (i + 1)) (lv' := [(3, .int (nI (i + 1))), (0, .ref a), (1, .int t), (2, .int tm)]) hx hb d_Mo_put_191 hl (k := 3) rfl (nI_add i 1) (by decide) rfl (fun ls hl => ?_)
                              refine lv_goto (tgt := 141) hx hb d_Mo_put_194 (by decide) ?_
                              exact ih G424 (i + 1) _ _ (by omega) (by omega) (hst9) (hnm9) (hf9) hG hS ls (lv_sub hl [1, 2, 3, 0] rfl)
                    refine zW_more (cells2 := 4) (slots2 := tp.length + 520) (by dsimp only; omega) (by dsimp only; omega) ?_
                    exact loop141 _ G411 0 _ _ (Nat.lt_succ_self _) (Nat.zero_le _) (hst3) (hnm3) (hf3) hG hS ls (lv_sub hl [1, 2, 3, 0] rfl)
                  · have hb5 : vD (rVf rs) x9 ∧ (t = 5 ∨ (rVf rs) x9 5 ≠ []) := ⟨hp78.1.nz c81, Or.inl c70⟩
                    refine lv_aload_n hx hb d_Mo_put_84 rfl (lv_at hl 0 rfl) ?_
                    refine lv_iconst (v := 3) hx hb d_Mo_put_85 (by decide) ?_
                    have hGo86 := hG
                    refine zk_i (va_runV (As := [.int 3]) (rest := []) ⟨hx, hb, hml, hown, hts⟩ (t_Mo_fail l E G11 a (h2 1) (h2 3) (h2 4) (h2 6) (h2 7) (h2 8) (h2 9) (h2 10) (h2 11) (h2 12) (h2 15) (h2 18) 0 (nI tp.length) (nI rs.length) (nI (wln Wz)) co (nI (rPw Wz + ([] : List Int32).length)) se (.ref q19) (.ref q20) ra2 3) (zcV 1 hts w_1354 w_1356 wp_26 w_30 w_1357 (by decide +kernel) ⟨Nat.le_of_ble_eq_true rfl, Nat.le_of_ble_eq_true rfl⟩) (zc_preV hbase hK hN hQ hG hS ra2 rfl) rfl rfl hl.1 rfl (lv_room (Nat.le_of_ble_eq_true rfl)) d_Mo_put_86 ⟨(by dsimp only; omega), (by dsimp only; omega)⟩) hS (fun r86 G86 H locs hp86 hG hS => ?_)
                    refine zi_as (y := 0) hp86.1 ?_
                    obtain ⟨hstf, hsf⟩ := rSt.set hst2 3 co se (.ref q19) (.ref q20) ra2
                    rw [← hp86.2] at hstf hsf
                    have hff := hf2.tr hsf
                    exact hret _ _ _ _ _ _ _ _ _ hr (rfl) (Or.inr (Or.inr ⟨c6, ⟨x9, D9, hzr, hnoD, hb5⟩, rfl, ro2, hstf.o hse, hff⟩)) hG hS (by dsimp only; omega) (by dsimp only; omega) d_Mo_put_89
            · have b46 : rs.length = 2000 := (nI_eq (a := rs.length) (b := 2000) (by omega) (by omega)).mp c46
              exact absurd b46 (by omega)
      · have b14 : 1 = 0 := (nI_eq (a := 1) (b := 0) (by omega) (by omega)).mp c14
        exact absurd c14 (by decide)
    · refine zi_as (y := 0) er11 ?_
      have hf2 := hf1.tr hz2
      obtain ⟨h2, eh02, eh12, eh22, hc2⟩ := id hst2
      obtain ⟨ra2, rb2, ⟨fm2, rt12, rt22, rt32, rt42⟩, rtl2, ⟨fo2, rn12, rn22, rn32, rn42, rn52⟩, rr2, rg2, ras2⟩ := id hc2
      rw [eh02] at ra2
      obtain ⟨⟨fr2, rm42, hfr2⟩, hn22, hRs2⟩ := id rr2.1
      refine lv_if_ne (tgt := 23) hx hb d_Mo_put_14 (by decide) (fun c14 => ?_) (fun c14 => ?_)
      · have b14 : ¬ 0 = 0 := fun q => c14 ((nI_eq (a := 0) (b := 0) (by omega) (by omega)).mpr q)
        exact absurd rfl c14
      · have b14 : 0 = 0 := (nI_eq (a := 0) (b := 0) (by omega) (by omega)).mp c14
        have hbad : tm < 0 ∨ ¬ ∃ x D, zRec tp t lo x D := Or.inr hbad
        refine lv_aload_n hx hb d_Mo_put_17 rfl (lv_at hl 0 rfl) ?_
        refine lv_iconst (v := 1) hx hb d_Mo_put_18 (by decide) ?_
        have hGo19 := hG
        refine zk_i (va_runV (As := [.int 1]) (rest := []) ⟨hx, hb, hml, hown, hts⟩ (t_Mo_fail l E G11 a (h2 1) (h2 3) (h2 4) (h2 6) (h2 7) (h2 8) (h2 9) (h2 10) (h2 11) (h2 12) (h2 15) (h2 18) 0 (nI tp.length) (nI rs.length) (nI (wln Wz)) co (nI (rPw Wz + ([] : List Int32).length)) se w19 w20 ra2 1) (zcV 1 hts w_1354 w_1356 wp_26 w_30 w_1357 (by decide +kernel) ⟨Nat.le_of_ble_eq_true rfl, Nat.le_of_ble_eq_true rfl⟩) (zc_preV hbase hK hN hQ hG hS ra2 rfl) rfl rfl hl.1 rfl (lv_room (Nat.le_of_ble_eq_true rfl)) d_Mo_put_19 ⟨(by dsimp only; omega), (by dsimp only; omega)⟩) hS (fun r19 G19 H locs hp19 hG hS => ?_)
        refine zi_as (y := 0) hp19.1 ?_
        obtain ⟨hstf, hsf⟩ := rSt.set hst2 1 co se w19 w20 ra2
        rw [← hp19.2] at hstf hsf
        have hff := hf2.tr hsf
        exact hret _ _ _ _ _ _ _ _ _ hr (rfl) (Or.inr (Or.inl ⟨hbad, rfl, ro2, hstf.o hse, hff⟩)) hG hS (by dsimp only; omega) (by dsimp only; omega) d_Mo_put_22
