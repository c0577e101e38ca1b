/-! THE CLASS's CALLS AS STEPS -/
theorem zT.imp {l : Launch} {E : zc_E} {y : MethodName} {cc : ByteArray} {maxL : Nat} {ret : Option FieldType} {rm : Room} {av : List Value} {G : zg_G} {p1 p2 : Option Value → zg_G → Prop} {t1 t2 : String → Prop} (h : zT l E y cc maxL ret rm av G p1 t1) (hp : ∀ v G', p1 v G' → p2 v G') (ht : ∀ c, t1 c → t2 c) : zT l E y cc maxL ret rm av G p2 t2 := by
  intro p e ha hc hk s m args below hf hap hP h0
  obtain ⟨k, o, h1, h2, h3, hQ⟩ := h p e ha hc hk s m args below hf hap hP h0
  refine ⟨k, o, h1, h2, h3, ?_⟩
  rcases hQ with ⟨v, G', q1, q2, q3⟩ | ⟨x, cls, ce, q1, q2, q3⟩
  · exact Or.inl ⟨v, G', q1, hp v G' q2, q3⟩
  · exact Or.inr ⟨x, cls, ce, q1, ht cls q2, q3⟩
theorem zMiW.imp {l : Launch} {E : zc_E} {y : MethodName} {cc : ByteArray} {maxL : Nat} {ret : Option FieldType} {hh : List (Nat × Nat × Nat × Nat)} {rm : Room} {av : List Value} {G : zg_G} {p1 p2 : Int32 → zg_G → Prop} (h : zMiW l E y cc maxL ret hh rm av G p1) (hp : ∀ r G', p1 r G' → p2 r G') : zMiW l E y cc maxL ret hh rm av G p2 :=
  zMet.imp h (fun _ _ _ _ ⟨⟨r, u, h1, h2, h3⟩, h4⟩ => ⟨⟨r, u, h1, hp _ _ h2, h3⟩, h4⟩)
/-- the class's state, whatever the number of its records -/
def zOA (E : zc_E) (G : zg_G) (ro : zRo) (xo : Nat) (A : zA4) : Prop := ∃ n, zOS E G ro xo A.1 A.2.1 A.2.2.1 n A.2.2.2
def zKl (r : Nat × Nat) : Prop := 1 ≤ r.1 ∧ r.1 ≤ 15
theorem zKl_c (r : Nat × Nat) (h : zKc r) : zKl r := ⟨h.1, Nat.le_trans h.2 (by decide)⟩
theorem zOS.fr {E : zc_E} {G G2 : zg_G} {ro r2 : zRo} {K : Nat × Nat → Prop} {xo n : Nat} {tp : List Int32} {V : zVt} {top : np_N} {W : zW} (h : zOS E G ro xo tp V top n W) (hf : zfr ro K G r2 G2) (hE0 : G (E.2.2.2 0) = none) (hE : G2 (E.2.2.2 0) = none) (h0 : ¬ K (0, 0)) (hK : ∀ r, zKc r → ¬ K r) : zOS E G2 r2 xo tp V top n W := by
  obtain ⟨k, rc, ty, se, os, d1, d2, d3, t1, t2, t3, b, e0, hOb, h2⟩ := h
  exact ⟨k, rc, ty, se, os, d1, d2, d3, t1, t2, t3, b, e0, hOb.fr (hOb.1.kp hf hE0 hE h0 (fun r z => hK r (zKc_z r z)) (fun r z => hK r (zKc_b r z))) rfl rfl rfl rfl hf h0 ⟨hK _ ⟨by decide, by decide⟩, hK _ ⟨by decide, by decide⟩⟩, h2⟩
theorem zOA.fr {E : zc_E} {G G2 : zg_G} {ro r2 : zRo} {K : Nat × Nat → Prop} {xo : Nat} {A : zA4} (h : zOA E G ro xo A) (hf : zfr ro K G r2 G2) (hE0 : G (E.2.2.2 0) = none) (hE : G2 (E.2.2.2 0) = none) (h0 : ¬ K (0, 0)) (hK : ∀ r, zKc r → ¬ K r) : zOA E G2 r2 xo A := by
  obtain ⟨n, hn⟩ := h
  exact ⟨n, hn.fr hf hE0 hE h0 hK⟩
/-- behind a static of the law's -/
def zLP (E : zc_E) (ro : zRo) (xo out : Nat) (G : zg_G) (s : zStp) (k : Int32) (G2 : zg_G) : Prop := ∃ ro2 B r f2, s k r B ∧ zOA E G2 ro2 xo B ∧ zfr ro zKl G ro2 G2 ∧ G2 out = some (oLg E f2) ∧ ro2 out = (15, 0) ∧ (k = 0 → f2 0 = r.toInt64)
def zLQ (E : zc_E) (ro : zRo) (xo out : Nat) (G : zg_G) (s : zStp) (k : Int32) (G2 : zg_G) : Prop := ∃ ro2 B r f2, s k r B ∧ zOA E G2 ro2 xo B ∧ zfr ro zKl G ro2 G2 ∧ G2 out = some (oLg E f2) ∧ ro2 out = (15, 0)
theorem zLP.ok {E : zc_E} {G G1 : zg_G} {ro ro1 : zRo} {xo out : Nat} {s : zStp} {B : zA4} {r : Int32} {fo f2 : Nat → Int64} (hs : s 0 r B) (hB : zOA E G1 ro1 xo B) (hf : zfr ro zKc G ro1 G1) (hout : G out = some (oLg E fo)) (hro : ro out = (15, 0)) (hE1 : G1 (E.2.2.2 0) = none) (hE2 : zg_up G1 out (oLg E f2) (E.2.2.2 0) = none) (h0 : f2 0 = r.toInt64) : zLP E ro xo out G s 0 (zg_up G1 out (oLg E f2)) := by
  have ho := hf _ _ hout (by rw [hro]; exact fun z => absurd z.2 (by decide))
  have hr1 : ro1 out = (15, 0) := ho.2.trans hro
  have hu : zfr ro1 (fun r => r = (15, 0)) G1 ro1 (zg_up G1 out (oLg E f2)) := zfr.up hr1
  exact ⟨ro1, B, r, f2, hs, hB.fr hu hE1 hE2 (by simp) (fun r z e => by rw [e] at z; exact absurd z.2 (by decide)), (hf.w zKl_c).tr (hu.w (fun r z => by rw [z]; exact ⟨by decide, by decide⟩)), zg_up_self _ _ _, hr1, fun _ => h0⟩
theorem zLP.no {E : zc_E} {G : zg_G} {ro : zRo} {xo out : Nat} {s : zStp} {A : zA4} {k r : Int32} {fo : Nat → Int64} (hs : s k r A) (hA : zOA E G ro xo A) (hout : G out = some (oLg E fo)) (hro : ro out = (15, 0)) (hk : k = 0 → False) : zLP E ro xo out G s k G := ⟨ro, A, r, fo, hs, hA, zfr.rf, hout, hro, fun z => (hk z).elim⟩
/-- no more records than that -/
theorem vsz_nr {os : List zOt} {N : Nat} (h : vsz (zV os) N) : znr os ≤ N := by
  obtain ⟨K, h1, h2⟩ := keys_of (fls os)
  have a := rVf_sum (fls os) K h1 h2
  rw [fls_V, fls_len] at a
  have := h K h1
  omega
theorem wDt_rw {D : Nat} {W : zW} {y z : Int32} {e : aV} (h : wDt D W) (hw : wrw y z W e) : e.2.2.2.length ≤ D := by
  obtain ⟨L, j, h1, -, h3⟩ := hw
  have hm := List.mem_of_getElem? h3
  unfold wsq at h1
  split at h1
  · cases h1; exact h.1 e hm
  · split at h1
    · cases h1; exact h.2.1 e hm
    · split at h1
      · cases h1; exact h.2.2 e hm
      · cases h1
/-- what stays true of tape, records, origin and answering -/
def zIv (A : zA4) : Prop := (∀ x, (A.2.1 x 5).length ≤ 1) ∧ (∀ x, A.2.1 x 47 = []) ∧ (∀ p ∈ A.2.1 A.2.2.1 6, p.2.length ≤ 600) ∧ (∀ x t, ∀ p ∈ A.2.1 x t, p.2.length ≤ 2 ^ 20) ∧ wsm A.2.2.2 ∧ wDt (2 ^ 20) A.2.2.2
theorem t_La_feed_s (l : Launch) (hoff : zl_off l) {E : zc_E} {G : zg_G} {ro : zRo} {xo out : Nat} {fo : Nat → Int64} {A : zA4} (hA : zOA E G ro xo A) (hE0 : G (E.2.2.2 0) = none) (hout : G out = some (oLg E fo)) (hro : ro out = (15, 0)) (p0 p1 p2 p3 p4 : Int32) (B : Nat) (hB : 2 * A.1.length + 40 ≤ B) : zMiW l E y_La_feed c_La_feed 8 (some .int) [(0, 16, 19, 13)] (rm_La_feed_g B) [.ref xo, .int p0, .int p1, .int p2, .int p3, .int p4, .ref out] G (zLP E ro xo out G (sFeed p0 p1 p2 p3 p4 A)) := by
  obtain ⟨tp, V, top, W⟩ := A
  obtain ⟨n, k, rc, ty, se, os, d1, d2, d3, t1, t2, t3, b, rfl, hOb, hGZ, hdw, hdx, hrc, hn, hV, hW⟩ := id hA
  dsimp only at hOb hGZ hV hW
  subst hV
  subst hW
  have hXo := hOb.2.1
  have hTp := hOb.2.2.2.1
  have hlen := hOb.2.2.2.2.2.2
  have hS0 := hOb.st hGZ hdw hdx hrc
  obtain ⟨hTa, nb, fb, hb, hbr⟩ := id hTp
  refine zMiW.imp (t_La_feed_g l hoff E G (k 16) (k 17) (k 1) (k 0) out fo hXo hout p0 p1 p2 p3 p4 B (fun r G1 => tp.length ≤ 65516 ∧ r = nI (tp.length + 20) ∧ ∃ b2, zTp E G1 (k 17) b2 (tp ++ zby p0 ++ zby p1 ++ zby p2 ++ zby p3 ++ zby p4) ∧ (b2 = b ∨ G b2 = none) ∧ zx (fun q => q = k 17 ∨ q = b) G G1) (65516 < tp.length) ((t_ZA_feed_c l hoff E G (k 16) (k 17) (k 1) (k 0) b tp hXo hTp hlen p0 p1 p2 p3 p4 B hB).imp (fun v G1 h => ?_) (fun _ h => h))) (fun r G2 h => ?_)
  · obtain ⟨h1, rfl, h2⟩ := h
    refine ⟨_, rfl, ⟨h1, rfl, h2⟩, ?_⟩
    obtain ⟨b2, -, -, hx⟩ := h2
    exact hx _ _ (fun z => z.elim (zg_ne hout hTa (by intro h; simp at h)) (zg_ne hout hb (by intro h; simp at h))) hout
  · rcases h with ⟨rfl, r9, G1, f2, ⟨h1, rfl, b2, hT2, hb2, hx⟩, h3, rfl, h4, h5, h6⟩ | ⟨rfl, h1, rfl⟩
    · obtain ⟨r2, hOb2, hf⟩ := hOb.tape hT2 hb2 hx hE0 h5 (by simp only [List.length_append, zby_len]; omega)
      exact zLP.ok (B := (tp ++ zby p0 ++ zby p1 ++ zby p2 ++ zby p3 ++ zby p4, _)) (Or.inr ⟨h1, rfl, rfl, rfl⟩) ⟨_, hOb2.st hGZ hdw hdx hrc⟩ hf hout hro h5 h6 h4
    · exact zLP.no (r := 0) (Or.inl ⟨h1, rfl, rfl⟩) hA hout hro n10
theorem t_La_end_s (l : Launch) (hoff : zl_off l) {E : zc_E} {G : zg_G} {ro : zRo} {xo out : Nat} {fo : Nat → Int64} {A : zA4} (hA : zOA E G ro xo A) (hE0 : G (E.2.2.2 0) = none) (hout : G out = some (oLg E fo)) (hro : ro out = (15, 0)) (p0 : Int32) : zMiW l E y_La_end c_La_end 4 (some .int) [(0, 9, 12, 19)] (rm_La_end_g) [.ref xo, .int p0, .ref out] G (zLP E ro xo out G (sEnd p0 A)) := by
  obtain ⟨tp, V, top, W⟩ := A
  obtain ⟨n, k, rc, ty, se, os, d1, d2, d3, t1, t2, t3, b, rfl, hOb, hGZ, hdw, hdx, hrc, hn, hV, hW⟩ := id hA
  dsimp only at hOb hGZ hV hW
  subst hV
  subst hW
  have hXo := hOb.2.1
  have hTp := hOb.2.2.2.1
  have hlen := hOb.2.2.2.2.2.2
  have hS0 := hOb.st hGZ hdw hdx hrc
  obtain ⟨hTa, nb, fb, hb, hbr⟩ := id hTp
  refine zMiW.imp (t_La_end_g l hoff E G (k 16) (k 17) (k 1) (k 0) out fo hXo hout p0  (fun r G1 => r = p0 ∧ ¬ p0 < 0 ∧ ¬ nI tp.length < p0 ∧ G1 = zg_up G (k 17) (.inr (7, [.ref b, .int p0]))) (p0 < 0 ∨ nI tp.length < p0) ((t_ZA_end l hoff E G (k 16) (k 17) (k 1) (k 0) b tp hXo hTp hlen p0).imp (fun v G1 h => ?_) (fun _ h => h))) (fun r G2 h => ?_)
  · obtain ⟨rfl, h1, h2, h3⟩ := h
    exact ⟨_, rfl, ⟨rfl, h1, h2, h3⟩, by rw [h3, zg_up_ne (zg_ne hout hTa (by intro h; simp at h))]; exact hout⟩
  · rcases h with ⟨rfl, r9, G1, f2, ⟨rfl, h1, h2, h3⟩, h7, rfl, h4, h5, h6⟩ | ⟨rfl, h1, rfl⟩
    · obtain ⟨n9, hn9, e9⟩ := nI_of h1
      have hle : n9 ≤ tp.length := Nat.le_of_not_lt (fun q => h2 (by rw [e9]; exact (nI_ltI (by omega) (by omega)).mpr q))
      obtain ⟨hOb2, hf⟩ := hOb.cut hE0 n9 hle (by rw [← e9, ← h3]; exact h5)
      rw [← e9, ← h3] at hOb2 hf
      exact zLP.ok (B := (tp.take n9, _)) (Or.inr ⟨n9, hle, e9, h1, h2, rfl, rfl, rfl⟩) ⟨_, hOb2.st hGZ hdw hdx hrc⟩ hf hout hro h5 h6 h4
    · exact zLP.no (r := 0) (Or.inl ⟨h1, rfl, rfl⟩) hA hout hro n10
theorem t_La_origin_s (l : Launch) (hoff : zl_off l) {E : zc_E} {G : zg_G} {ro : zRo} {xo out : Nat} {fo : Nat → Int64} {A : zA4} (hA : zOA E G ro xo A) (hE0 : G (E.2.2.2 0) = none) (hout : G out = some (oLg E fo)) (hro : ro out = (15, 0)) (p0 p1 p2 p3 p4 : Int32) {N : Nat} (hN : vsz A.2.1 N) (hN9 : N < 1000) (s9 : Nat) (h10 : 10 ≤ s9) (hs9 : ¬ p0 < 0 → (∃ x y z, zOrg A.1 x y z) → 3 * A.1.length + 400 ≤ s9) : zMiW l E y_La_origin c_La_origin 7 (some .int) [(0, 11, 14, 19)] (rm_La_origin_g s9) [.ref xo, .int p0, .int p1, .int p2, .int p3, .int p4] G (zLQ E ro xo out G (sOrg p0 p1 p2 p3 p4 A)) := by
  obtain ⟨tp, V, top, W⟩ := A
  obtain ⟨n, k, rc, ty, se, os, d1, d2, d3, t1, t2, t3, b, rfl, hOb, hGZ, hdw, hdx, hrc, hn, hV, hW⟩ := id hA
  dsimp only at hOb hGZ hV hW
  subst hV
  subst hW
  have hXo := hOb.2.1
  have hTp := hOb.2.2.2.1
  have hlen := hOb.2.2.2.2.2.2
  have hS0 := hOb.st hGZ hdw hdx hrc
  have hzn : znr os < 2000 := by have := vsz_nr hN; omega
  refine zMiW.imp (t_La_origin_g l hoff E G (k 16) (k 17) (k 1) (k 0) out fo hXo hout p0 p1 p2 p3 p4 s9 (fun G1 => ∃ B ro1, sOrg p0 p1 p2 p3 p4 (tp, zV os, top, zWt t1 t2 t3) 0 0 B ∧ zOA E G1 ro1 (k 16) B ∧ zfr ro zKc G ro1 G1) (p0 < 0 ∨ ¬ ∃ x y z, zOrg tp x y z) ((t_ZA_origin l hoff E G k ro rc ty se os top d1 d2 d3 t1 t2 t3 b tp hOb hGZ hdw hdx hrc hzn p0 p1 p2 p3 p4 s9 h10 hs9).imp (fun v G1 h => ?_) (fun _ h => h))) (fun r G2 h => ?_)
  · obtain ⟨h1, ro2, lx, ly, lz, n2, h2, h3, h4, rfl⟩ := h
    exact ⟨rfl, ([], _, np_low lx, _), ro2, Or.inr ⟨h1, rfl, lx, ly, lz, h2, rfl⟩, ⟨n2, h3⟩, h4⟩
  · rcases h with ⟨rfl, ⟨B, ro1, hs, hB, hf⟩, h5⟩ | ⟨rfl, h1, rfl⟩
    · have ho := hf _ _ hout (by rw [hro]; exact fun z => absurd z.2 (by decide))
      exact ⟨ro1, B, 0, fo, hs, hB, hf.w zKl_c, ho.1, ho.2.trans hro⟩
    · exact ⟨ro, _, 0, fo, Or.inl ⟨h1, rfl, rfl⟩, hA, zfr.rf, hout, hro⟩
theorem t_La_put_s (l : Launch) (hoff : zl_off l) {E : zc_E} {G : zg_G} {ro : zRo} {xo out : Nat} {fo : Nat → Int64} {A : zA4} (hA : zOA E G ro xo A) (hE0 : G (E.2.2.2 0) = none) (hout : G out = some (oLg E fo)) (hro : ro out = (15, 0)) (p0 p1 : Int32) {N : Nat} (hN : vsz A.2.1 N) (hN9 : N < 1000) (hb6 : zbg A.2.1) (s9 : Nat) (h10 : A.1.length + 30 ≤ s9) (hs9 : ¬ p1 < 0 → ∀ x D, zRec A.1 p0 A.2.2.1 x D → (∀ q, q ∈ A.2.1 x p0 → q.2 ≠ D) → ¬ pBad A.2.1 x p0 → 3 * A.1.length + 6 * N + 200 ≤ s9) : zMiW l E y_La_put c_La_put 5 (some .int) [(0, 10, 13, 19), (0, 10, 17, 13), (0, 10, 21, 29)] (rm_La_put_g s9) [.ref xo, .int p0, .int p1, .ref out] G (zLP E ro xo out G (sPut p0 p1 A)) := by
  obtain ⟨tp, V, top, W⟩ := A
  obtain ⟨n, k, rc, ty, se, os, d1, d2, d3, t1, t2, t3, b, rfl, hOb, hGZ, hdw, hdx, hrc, hn, hV, hW⟩ := id hA
  dsimp only at hOb hGZ hV hW
  subst hV
  subst hW
  have hXo := hOb.2.1
  have hTp := hOb.2.2.2.1
  have hlen := hOb.2.2.2.2.2.2
  have hS0 := hOb.st hGZ hdw hdx hrc
  have hzn : znr os < 2000 := by have := vsz_nr hN; omega
  refine zMiW.imp (t_La_put_g l hoff E G (k 16) (k 17) (k 1) (k 0) out fo hXo hout p0 p1 s9 (fun r G1 => ∃ B ro1, sPut p0 p1 (tp, zV os, top, zWt t1 t2 t3) 0 r B ∧ zOA E G1 ro1 (k 16) B ∧ zfr ro zKc G ro1 G1) (p1 < 0 ∨ ¬ ∃ x D, zRec tp p0 top x D) (¬ p1 < 0 ∧ ∃ x D, zRec tp p0 top x D ∧ (∀ q, q ∈ zV os x p0 → q.2 ≠ D) ∧ vD (zV os) x ∧ (p0 = 5 ∨ zV os x 5 ≠ [])) ((t_ZA_put l hoff E G k ro rc ty se os top d1 d2 d3 t1 t2 t3 b tp hOb hGZ hdw hdx hrc hzn hb6 p0 p1 s9 h10 (fun z1 x D z2 z3 z4 => by have := hs9 z1 x D z2 z3 z4; have := vsz_nr hN; dsimp only at *; omega)).imp (fun v G1 h => ?_) (fun _ h => h))) (fun r G2 h => ?_)
  · obtain ⟨h1, ro2, x, D, n2, h2, hf, h3⟩ := h
    have ho := (hf _ _ hout (by rw [hro]; exact fun z => absurd z.2 (by decide))).1
    rcases h3 with ⟨h3, h4, rfl⟩ | ⟨h3, h5, h4, rfl⟩
    · exact ⟨_, rfl, ⟨([], _, top, _), ro2, Or.inr (Or.inr ⟨h1, rfl, x, D, h2, Or.inl ⟨h3, rfl⟩, rfl⟩), ⟨n2, h4⟩, hf⟩, ho⟩
    · exact ⟨_, rfl, ⟨([], _, top, _), ro2, Or.inr (Or.inr ⟨h1, rfl, x, D, h2, Or.inr ⟨h3, h5, rfl⟩, rfl⟩), ⟨n2, h4⟩, hf⟩, ho⟩
  · rcases h with ⟨rfl, r9, G1, f2, ⟨B, ro1, hs, hB, hf⟩, h3, rfl, h4, h5, h6⟩ | ⟨rfl, h1, rfl⟩ | ⟨rfl, h1, rfl⟩
    · exact zLP.ok hs hB hf hout hro h5 h6 h4
    · exact zLP.no (r := 0) (Or.inl ⟨h1, rfl, rfl⟩) hA hout hro n10
    · exact zLP.no (r := 0) (Or.inr (Or.inl ⟨h1, rfl, rfl⟩)) hA hout hro n30
theorem t_La_take_s (l : Launch) (hoff : zl_off l) {E : zc_E} {G : zg_G} {ro : zRo} {xo out : Nat} {fo : Nat → Int64} {A : zA4} (hA : zOA E G ro xo A) (hE0 : G (E.2.2.2 0) = none) (hout : G out = some (oLg E fo)) (hro : ro out = (15, 0)) (p0 : Int32) {N : Nat} (hN : vsz A.2.1 N) (hN9 : N < 1000) (hb6 : zbg A.2.1) : zMiW l E y_La_take c_La_take 4 (some .int) [(0, 9, 12, 19), (0, 9, 15, 34)] (rm_La_take_g A.1.length) [.ref xo, .int p0, .ref out] G (zLP E ro xo out G (sTake p0 A)) := by
  obtain ⟨tp, V, top, W⟩ := A
  obtain ⟨n, k, rc, ty, se, os, d1, d2, d3, t1, t2, t3, b, rfl, hOb, hGZ, hdw, hdx, hrc, hn, hV, hW⟩ := id hA
  dsimp only at hOb hGZ hV hW
  subst hV
  subst hW
  have hXo := hOb.2.1
  have hTp := hOb.2.2.2.1
  have hlen := hOb.2.2.2.2.2.2
  have hS0 := hOb.st hGZ hdw hdx hrc
  have hzn : znr os < 2000 := by have := vsz_nr hN; omega
  refine zMiW.imp (t_La_take_g l hoff E G (k 16) (k 17) (k 1) (k 0) out fo hXo hout p0 tp.length (fun r G1 => ∃ B ro1, sTake p0 (tp, zV os, top, zWt t1 t2 t3) 0 r B ∧ zOA E G1 ro1 (k 16) B ∧ zfr ro zKc G ro1 G1) (¬ ∃ x D, zRec tp p0 top x D) (∃ x D, zRec tp p0 top x D ∧ ∀ q, q ∈ zV os x p0 → q.2 ≠ D) ((t_ZA_take l hoff E G k ro rc ty se os top d1 d2 d3 t1 t2 t3 b tp hOb hGZ hdw hdx hrc hzn hb6 p0).imp (fun v G1 h => ?_) (fun _ h => h))) (fun r G2 h => ?_)
  · obtain ⟨ro2, x, D, j, n2, h2, h3, h4, hf, rfl⟩ := h
    exact ⟨_, rfl, ⟨([], _, top, _), ro2, Or.inr (Or.inr ⟨rfl, x, D, j, h2, h3, rfl, rfl⟩), ⟨n2, h4⟩, hf⟩, (hf _ _ hout (by rw [hro]; exact fun z => absurd z.2 (by decide))).1⟩
  · rcases h with ⟨rfl, r9, G1, f2, ⟨B, ro1, hs, hB, hf⟩, h3, rfl, h4, h5, h6⟩ | ⟨rfl, h1, rfl⟩ | ⟨rfl, h1, rfl⟩
    · exact zLP.ok hs hB hf hout hro h5 h6 h4
    · exact zLP.no (r := 0) (Or.inl ⟨h1, rfl, rfl⟩) hA hout hro n10
    · exact zLP.no (r := 0) (Or.inr (Or.inl ⟨h1, rfl, rfl⟩)) hA hout hro n20
theorem t_La_takeAll_s (l : Launch) (hoff : zl_off l) {E : zc_E} {G : zg_G} {ro : zRo} {xo out : Nat} {fo : Nat → Int64} {A : zA4} (hA : zOA E G ro xo A) (hE0 : G (E.2.2.2 0) = none) (hout : G out = some (oLg E fo)) (hro : ro out = (15, 0)) (p0 : Int32) {N : Nat} (hN : vsz A.2.1 N) (hN9 : N < 1000) : zMiW l E y_La_takeAll c_La_takeAll 4 (some .int) [(0, 9, 12, 19)] (rm_La_takeAll_g A.1.length) [.ref xo, .int p0, .ref out] G (zLP E ro xo out G (sAll p0 A)) := by
  obtain ⟨tp, V, top, W⟩ := A
  obtain ⟨n, k, rc, ty, se, os, d1, d2, d3, t1, t2, t3, b, rfl, hOb, hGZ, hdw, hdx, hrc, hn, hV, hW⟩ := id hA
  dsimp only at hOb hGZ hV hW
  subst hV
  subst hW
  have hXo := hOb.2.1
  have hTp := hOb.2.2.2.1
  have hlen := hOb.2.2.2.2.2.2
  have hS0 := hOb.st hGZ hdw hdx hrc
  have hzn : znr os < 2000 := by have := vsz_nr hN; omega
  refine zMiW.imp (t_La_takeAll_g l hoff E G (k 16) (k 17) (k 1) (k 0) out fo hXo hout p0 tp.length (fun r G1 => ∃ B ro1, sAll p0 (tp, zV os, top, zWt t1 t2 t3) 0 r B ∧ zOA E G1 ro1 (k 16) B ∧ zfr ro zKc G ro1 G1) (¬ ∃ ls, zTn tp ls ∧ top <:+ np_low ls ∧ zall p0) ((t_ZA_takeAll l hoff E G k ro rc ty se os top d1 d2 d3 t1 t2 t3 b tp hOb hGZ hdw hdx hrc hzn p0).imp (fun v G1 h => ?_) (fun _ h => h))) (fun r G2 h => ?_)
  · obtain ⟨ro2, ls, n2, h1, h2, h3, h4, hf, n3, h5, rfl⟩ := h
    exact ⟨_, rfl, ⟨([], _, top, _), ro2, Or.inr ⟨rfl, ls, n3, h1, h2, h3, h5, rfl, rfl⟩, ⟨n2, h4⟩, hf⟩, (hf _ _ hout (by rw [hro]; exact fun z => absurd z.2 (by decide))).1⟩
  · rcases h with ⟨rfl, r9, G1, f2, ⟨B, ro1, hs, hB, hf⟩, h3, rfl, h4, h5, h6⟩ | ⟨rfl, h1, rfl⟩
    · exact zLP.ok hs hB hf hout hro h5 h6 h4
    · exact zLP.no (r := 0) (Or.inl ⟨h1, rfl, rfl⟩) hA hout hro n10
theorem t_La_ask_s (l : Launch) (hoff : zl_off l) {E : zc_E} {G : zg_G} {ro : zRo} {xo out : Nat} {fo : Nat → Int64} {A : zA4} (hA : zOA E G ro xo A) (hE0 : G (E.2.2.2 0) = none) (hout : G out = some (oLg E fo)) (hro : ro out = (15, 0)) (p0 p1 : Int32) {N : Nat} (hN : vsz A.2.1 N) (hN9 : N < 1000) (hI : zIv A) (hu : p1 = 0 ∨ p1 = 1) (c9 s9 : Nat) (hs9 : ¬ p0 < 1 → ¬ 65535 < p0 → (∃ ls, zTn A.1 ls) → 6 * N + 128 ≤ c9 ∧ 72 * N + 7024 ≤ s9) : zMiW l E y_La_ask c_La_ask 5 (some .int) [(0, 10, 13, 19)] (rm_La_ask_g A.1.length c9 s9) [.ref xo, .int p0, .int p1, .ref out] G (zLP E ro xo out G (sAsk p0 p1 A)) := by
  obtain ⟨tp, V, top, W⟩ := A
  obtain ⟨n, k, rc, ty, se, os, d1, d2, d3, t1, t2, t3, b, rfl, hOb, hGZ, hdw, hdx, hrc, hn, hV, hW⟩ := id hA
  dsimp only at hOb hGZ hV hW
  subst hV
  subst hW
  have hXo := hOb.2.1
  have hTp := hOb.2.2.2.1
  have hlen := hOb.2.2.2.2.2.2
  have hS0 := hOb.st hGZ hdw hdx hrc
  have hzn : znr os < 2000 := by have := vsz_nr hN; omega
  have h6 : (zV os top 6).length ≤ 1 := by
    obtain ⟨-, -, -, -, -, soa, u, -, -, e, -⟩ := hOb.1.1
    rw [e]; exact Nat.le_refl _
  have hB9 : ¬ p0 < 1 → ¬ 65535 < p0 → ∀ ls, zTn tp ls → zB9 (vask (zV os) top (zscu p1) p0 (np_low ls)).2 ∧ zPc (vask (zV os) top (zscu p1) p0 (np_low ls)).2 + 20 ≤ c9 ∧ zPm os (vask (zV os) top (zscu p1) p0 (np_low ls)).2 + 3000 ≤ s9 := fun z1 z2 ls hl => by
    have q := hs9 z1 z2 ⟨ls, hl⟩
    have hN : vsz (zV os) N := hN
    have w := vask_ok (sec := zscu p1) (t := p0) (x := np_low ls) hN hI.1 h6
    have w2 := vask_lk (V := zV os) (top := top) (sec := zscu p1) (t := p0) (x := np_low ls) hI.2.1
    have w3 := zask_rm hGZ.1 (vsz_nr hN) ⟨w.1.1, w.1.2.1, w.2⟩ w2
    have w4 := w.1.1
    have w5 := w.1.2.1
    have w6 := w.2
    exact ⟨⟨by omega, by omega, by omega⟩, by omega, by omega⟩
  refine zMiW.imp (t_La_ask_g l hoff E G (k 16) (k 17) (k 1) (k 0) out fo hXo hout p0 p1 tp.length c9 s9 (fun r G1 => ∃ B ro1, sAsk p0 p1 (tp, zV os, top, zWt t1 t2 t3) 0 r B ∧ zOA E G1 ro1 (k 16) B ∧ zfr ro zKc G ro1 G1) (p0 < 1 ∨ 65535 < p0 ∨ ¬ ∃ ls, zTn tp ls) ((t_ZA_ask l hoff E G k ro rc ty se os top d1 d2 d3 t1 t2 t3 b tp hOb hGZ hdw hdx hrc hzn p0 p1 hu c9 s9 hB9).imp (fun v G1 h => ?_) (fun _ h => h))) (fun r G2 h => ?_)
  · obtain ⟨h1, h2, ro2, ls, h3, h4, hf, rfl⟩ := h
    exact ⟨_, rfl, ⟨([], _, top, _), ro2, Or.inr ⟨h1, h2, rfl, ls, h3, rfl, rfl⟩, ⟨_, h4⟩, hf⟩, (hf _ _ hout (by rw [hro]; exact fun z => absurd z.2 (by decide))).1⟩
  · rcases h with ⟨rfl, r9, G1, f2, ⟨B, ro1, hs, hB, hf⟩, h3, rfl, h4, h5, h6⟩ | ⟨rfl, h1, rfl⟩
    · exact zLP.ok hs hB hf hout hro h5 h6 h4
    · exact zLP.no (r := 0) (Or.inl ⟨h1, rfl, rfl⟩) hA hout hro n10
theorem t_La_state_s (l : Launch) (hoff : zl_off l) {E : zc_E} {G : zg_G} {ro : zRo} {xo out : Nat} {fo : Nat → Int64} {A : zA4} (hA : zOA E G ro xo A) (hE0 : G (E.2.2.2 0) = none) (hout : G out = some (oLg E fo)) (hro : ro out = (15, 0)) {N : Nat} (hN : vsz A.2.1 N) (hN9 : N < 1000) : zMiW l E y_La_state c_La_state 3 (some .int) [(0, 8, 11, 19)] (rm_La_state_g A.1.length) [.ref xo, .ref out] G (zLP E ro xo out G (sStt A)) := by
  obtain ⟨tp, V, top, W⟩ := A
  obtain ⟨n, k, rc, ty, se, os, d1, d2, d3, t1, t2, t3, b, rfl, hOb, hGZ, hdw, hdx, hrc, hn, hV, hW⟩ := id hA
  dsimp only at hOb hGZ hV hW
  subst hV
  subst hW
  have hXo := hOb.2.1
  have hTp := hOb.2.2.2.1
  have hlen := hOb.2.2.2.2.2.2
  have hS0 := hOb.st hGZ hdw hdx hrc
  have hzn : znr os < 2000 := by have := vsz_nr hN; omega
  refine zMiW.imp (t_La_state_g l hoff E G (k 16) (k 17) (k 1) (k 0) out fo hXo hout  tp.length (fun r G1 => ∃ B ro1, sStt (tp, zV os, top, zWt t1 t2 t3) 0 r B ∧ zOA E G1 ro1 (k 16) B ∧ zfr ro zKc G ro1 G1) (¬ ∃ ls, zTn tp ls) ((t_ZA_state l hoff E G k ro rc ty se os top d1 d2 d3 t1 t2 t3 b tp hOb hGZ hdw hdx hrc hzn).imp (fun v G1 h => ?_) (fun _ h => h))) (fun r G2 h => ?_)
  · obtain ⟨ro2, h4, hf, ls, h3, rfl⟩ := h
    exact ⟨_, rfl, ⟨([], _, top, _), ro2, Or.inr ⟨rfl, ls, h3, rfl, rfl⟩, ⟨_, h4⟩, hf⟩, (hf _ _ hout (by rw [hro]; exact fun z => absurd z.2 (by decide))).1⟩
  · rcases h with ⟨rfl, r9, G1, f2, ⟨B, ro1, hs, hB, hf⟩, h3, rfl, h4, h5, h6⟩ | ⟨rfl, h1, rfl⟩
    · exact zLP.ok hs hB hf hout hro h5 h6 h4
    · exact zLP.no (r := 0) (Or.inl ⟨h1, rfl, rfl⟩) hA hout hro n10
theorem t_La_records_s (l : Launch) (hoff : zl_off l) {E : zc_E} {G : zg_G} {ro : zRo} {xo out : Nat} {fo : Nat → Int64} {A : zA4} (hA : zOA E G ro xo A) (hE0 : G (E.2.2.2 0) = none) (hout : G out = some (oLg E fo)) (hro : ro out = (15, 0)) (p0 : Int32) : zMiW l E y_La_records c_La_records 4 (some .int) [(0, 9, 12, 34)] (rm_La_records_g) [.ref xo, .int p0, .ref out] G (zLP E ro xo out G (sRcs p0 A)) := by
  obtain ⟨tp, V, top, W⟩ := A
  obtain ⟨n, k, rc, ty, se, os, d1, d2, d3, t1, t2, t3, b, rfl, hOb, hGZ, hdw, hdx, hrc, hn, hV, hW⟩ := id hA
  dsimp only at hOb hGZ hV hW
  subst hV
  subst hW
  have hXo := hOb.2.1
  have hTp := hOb.2.2.2.1
  have hlen := hOb.2.2.2.2.2.2
  have hS0 := hOb.st hGZ hdw hdx hrc
  refine zMiW.imp (t_La_records_g l hoff E G (k 16) (k 17) (k 1) (k 0) out fo hXo hout p0  (fun r G1 => sRcs p0 (tp, zV os, top, zWt t1 t2 t3) 0 r (tp, zV os, top, zWt t1 t2 t3) ∧ G1 = G) (zsq p0 t1 t2 t3 = none) ((t_ZA_records l hoff E G (k 16) (k 17) (k 1) (k 0) (k 2) (k 3) (k 4) (k 5) (k 6) (k 7) d1 d2 d3 ty se ro t1 t2 t3 hXo hOb.1.2.1.1 hOb.1.2.1.2.2.1.1 hOb.1.2.1.2.2.2.1.1 hOb.1.2.1.2.2.2.2.1 p0).imp (fun v G1 h => ?_) (fun _ h => h))) (fun r G2 h => ?_)
  · obtain ⟨ts, h1, rfl, rfl⟩ := h
    exact ⟨_, rfl, ⟨Or.inr ⟨rfl, rfl, _, wsq_t h1, by rw [List.length_map]⟩, rfl⟩, hout⟩
  · rcases h with ⟨rfl, r9, G1, f2, ⟨hs, rfl⟩, h3, rfl, h4, h5, h6⟩ | ⟨rfl, h1, rfl⟩
    · exact zLP.ok hs hA zfr.rf hout hro h5 h6 h4
    · exact zLP.no (r := 0) (Or.inl ⟨wsq_n h1, rfl, rfl⟩) hA hout hro n10
theorem t_La_told_s (l : Launch) (hoff : zl_off l) {E : zc_E} {G : zg_G} {ro : zRo} {xo out : Nat} {fo : Nat → Int64} {A : zA4} (hA : zOA E G ro xo A) (hE0 : G (E.2.2.2 0) = none) (hout : G out = some (oLg E fo)) (hro : ro out = (15, 0)) (p0 p1 p2 : Int32) (hI : zIv A) : zMiW l E y_La_told c_La_told 6 (some .int) [(0, 12, 15, 34), (0, 12, 19, 19)] (rm_La_told_g) [.ref xo, .int p0, .int p1, .int p2, .ref out] G (zLP E ro xo out G (sTld p0 p1 p2 A)) := by
  obtain ⟨tp, V, top, W⟩ := A
  obtain ⟨n, k, rc, ty, se, os, d1, d2, d3, t1, t2, t3, b, rfl, hOb, hGZ, hdw, hdx, hrc, hn, hV, hW⟩ := id hA
  dsimp only at hOb hGZ hV hW
  subst hV
  subst hW
  have hXo := hOb.2.1
  have hTp := hOb.2.2.2.1
  have hlen := hOb.2.2.2.2.2.2
  have hS0 := hOb.st hGZ hdw hdx hrc
  have hdl : ∀ t, (∃ ts j, zrw p0 p1 t1 t2 t3 ts j ∧ t = te ts j) → (tB t).2.1.length < 2 ^ 24 := fun t ⟨ts, j, z1, z2⟩ => by
    have q := wDt_rw hI.2.2.2.2.2 (wrw_t z1)
    rw [z2]
    exact Nat.lt_of_le_of_lt q (by decide)
  refine zMiW.imp (t_La_told_g l hoff E G (k 16) (k 17) (k 1) (k 0) out fo hXo hout p0 p1 p2  (fun r G1 => sTld p0 p1 p2 (tp, zV os, top, zWt t1 t2 t3) 0 r (tp, zV os, top, zWt t1 t2 t3) ∧ G1 = G) (zrno p0 p1 t1 t2 t3) ((∃ ts j, zrw p0 p1 t1 t2 t3 ts j) ∧ ¬ p2 = 0 ∧ ¬ p2 = 1 ∧ ¬ p2 = 2 ∧ ¬ p2 = 3) ((t_ZA_told l hoff E G (k 16) (k 17) (k 1) (k 0) (k 2) (k 3) (k 4) (k 5) (k 6) (k 7) d1 d2 d3 ty se ro t1 t2 t3 hXo hOb.1.2.1.1 hOb.1.2.1.2.2.1.1 hOb.1.2.1.2.2.2.1.1 hOb.1.2.1.2.2.2.2.1 p0 p1 p2 hdl).imp (fun v G1 h => ?_) (fun _ h => h))) (fun r G2 h => ?_)
  · obtain ⟨ts, j, h1, h2, rfl⟩ := h
    obtain ⟨r9, h3, rfl⟩ := wtl_t h2
    exact ⟨_, rfl, ⟨Or.inr ⟨_, wrw_t h1, rfl, Or.inl ⟨h3, rfl⟩⟩, rfl⟩, hout⟩
  · rcases h with ⟨rfl, r9, G1, f2, ⟨hs, rfl⟩, h3, rfl, h4, h5, h6⟩ | ⟨rfl, h1, rfl⟩ | ⟨rfl, h1, rfl⟩
    · exact zLP.ok hs hA zfr.rf hout hro h5 h6 h4
    · exact zLP.no (r := 0) (Or.inl ⟨wrw_n hI.2.2.2.2.1 h1, rfl, rfl⟩) hA hout hro n10
    · exact zLP.no (r := 0) (by obtain ⟨⟨ts, j, z1⟩, z2, z3, z4, z5⟩ := h1; exact Or.inr ⟨_, wrw_t z1, rfl, Or.inr ⟨wtl_n z2 z3 z4 z5, rfl⟩⟩) hA hout hro n20
theorem t_La_byteOf_s (l : Launch) (hoff : zl_off l) {E : zc_E} {G : zg_G} {ro : zRo} {xo out : Nat} {fo : Nat → Int64} {A : zA4} (hA : zOA E G ro xo A) (hE0 : G (E.2.2.2 0) = none) (hout : G out = some (oLg E fo)) (hro : ro out = (15, 0)) (p0 p1 p2 : Int32) (hI : zIv A) : zMiW l E y_La_byteOf c_La_byteOf 6 (some .int) [(0, 12, 15, 34), (0, 12, 19, 53)] (rm_La_byteOf_g) [.ref xo, .int p0, .int p1, .int p2, .ref out] G (zLP E ro xo out G (sByt p0 p1 p2 A)) := by
  obtain ⟨tp, V, top, W⟩ := A
  obtain ⟨n, k, rc, ty, se, os, d1, d2, d3, t1, t2, t3, b, rfl, hOb, hGZ, hdw, hdx, hrc, hn, hV, hW⟩ := id hA
  dsimp only at hOb hGZ hV hW
  subst hV
  subst hW
  have hXo := hOb.2.1
  have hTp := hOb.2.2.2.1
  have hlen := hOb.2.2.2.2.2.2
  have hS0 := hOb.st hGZ hdw hdx hrc
  have hdl : ∀ t, (∃ ts j, zrw p0 p1 t1 t2 t3 ts j ∧ t = te ts j) → (tB t).2.1.length < 2 ^ 24 := fun t ⟨ts, j, z1, z2⟩ => by
    have q := wDt_rw hI.2.2.2.2.2 (wrw_t z1)
    rw [z2]
    exact Nat.lt_of_le_of_lt q (by decide)
  refine zMiW.imp (t_La_byteOf_g l hoff E G (k 16) (k 17) (k 1) (k 0) out fo hXo hout p0 p1 p2  (fun r G1 => sByt p0 p1 p2 (tp, zV os, top, zWt t1 t2 t3) 0 r (tp, zV os, top, zWt t1 t2 t3) ∧ G1 = G) (zrno p0 p1 t1 t2 t3) (∃ ts j, zrw p0 p1 t1 t2 t3 ts j ∧ (p2 < 0 ∨ nI ((np_enc (tM (te ts j)) ++ (tB (te ts j)).2.1).length) ≤ p2)) ((t_ZA_byteOf l hoff E G (k 16) (k 17) (k 1) (k 0) (k 2) (k 3) (k 4) (k 5) (k 6) (k 7) d1 d2 d3 ty se ro t1 t2 t3 hXo hOb.1.2.1.1 hOb.1.2.1.2.2.1.1 hOb.1.2.1.2.2.2.1.1 hOb.1.2.1.2.2.2.2.1 p0 p1 p2 hdl).imp (fun v G1 h => ?_) (fun _ h => h))) (fun r G2 h => ?_)
  · obtain ⟨ts, j, i, h1, h2, h3, rfl, rfl⟩ := h
    exact ⟨_, rfl, ⟨Or.inr ⟨_, wrw_t h1, rfl, Or.inl ⟨rfl, i, h2, h3, rfl⟩⟩, rfl⟩, hout⟩
  · rcases h with ⟨rfl, r9, G1, f2, ⟨hs, rfl⟩, h3, rfl, h4, h5, h6⟩ | ⟨rfl, h1, rfl⟩ | ⟨rfl, h1, rfl⟩
    · exact zLP.ok hs hA zfr.rf hout hro h5 h6 h4
    · exact zLP.no (r := 0) (Or.inl ⟨wrw_n hI.2.2.2.2.1 h1, rfl, rfl⟩) hA hout hro n10
    · exact zLP.no (r := 0) (by obtain ⟨ts, j, z1, z2⟩ := h1; exact Or.inr ⟨_, wrw_t z1, rfl, Or.inr ⟨rfl, z2⟩⟩) hA hout hro n20
/-- behind serial and count -/
def zSP (E : zc_E) (ro : zRo) (xo : Nat) (G : zg_G) (s : zStp) (r : Int32) (G2 : zg_G) : Prop := ∃ ro2 B, s 0 r B ∧ zOA E G2 ro2 xo B ∧ zfr ro zKc G ro2 G2
theorem t_ZA_serial_s (l : Launch) {E : zc_E} {G : zg_G} {ro : zRo} {xo : Nat} {A : zA4} (hA : zOA E G ro xo A) (p0 : Int32) {N : Nat} (hN : vsz A.2.1 N) (hN9 : N < 1000) (hI : zIv A) : zMi l E y_ZA_serial c_ZA_serial 3 (some .int) rm_ZA_serial [.ref xo, .int p0] G (zSP E ro xo G (sSer p0 A)) := by
  obtain ⟨tp, V, top, W⟩ := A
  obtain ⟨n, k, rc, ty, se, os, d1, d2, d3, t1, t2, t3, b, rfl, hOb, hGZ, hdw, hdx, hrc, hn, hV, hW⟩ := id hA
  dsimp only at hOb hGZ hV hW
  subst hV
  subst hW
  have hXo := hOb.2.1
  have hTp := hOb.2.2.2.1
  have hlen := hOb.2.2.2.2.2.2
  have hS0 := hOb.st hGZ hdw hdx hrc
  have hzn : znr os < 2000 := by have := vsz_nr hN; omega
  refine zMi.imp (t_ZA_serial l E G k ro rc ty se os top d1 d2 d3 t1 t2 t3 b tp hOb hGZ hdw hdx hrc hzn hI.2.2.1 p0) (fun r G2 h => ?_)
  obtain ⟨ro2, h1, h2, rfl⟩ := h
  exact ⟨ro2, (tp, _, top, _), ⟨rfl, rfl, rfl⟩, ⟨_, h1⟩, h2⟩
theorem t_ZA_count_s (l : Launch) {E : zc_E} {G : zg_G} {ro : zRo} {xo : Nat} {A : zA4} (hA : zOA E G ro xo A) (p0 : Int32) {N : Nat} (hN : vsz A.2.1 N) (hN9 : N < 1000) : zMi l E y_ZA_count c_ZA_count 2 (some .int) rm_ZA_count [.ref xo, .int p0] G (zSP E ro xo G (sCnt p0 A)) := by
  obtain ⟨tp, V, top, W⟩ := A
  obtain ⟨n, k, rc, ty, se, os, d1, d2, d3, t1, t2, t3, b, rfl, hOb, hGZ, hdw, hdx, hrc, hn, hV, hW⟩ := id hA
  dsimp only at hOb hGZ hV hW
  subst hV
  subst hW
  have hXo := hOb.2.1
  have hTp := hOb.2.2.2.1
  have hlen := hOb.2.2.2.2.2.2
  have hS0 := hOb.st hGZ hdw hdx hrc
  have hzn : znr os < 2000 := by have := vsz_nr hN; omega
  have hz := vsz_nr hN
  have hth : zth os os.length ≤ 1 + os.length * 127 := zth_le (fun i hi => ((hGZ.2.2.2.2.1 i hi).2.2.1).count) _ (Nat.le_refl _)
  have hol := hGZ.1.sz.1
  refine zMi.imp (t_ZA_count l E G k ro rc ty se os top d1 d2 d3 t1 t2 t3 b tp hOb hGZ hdw hdx hrc hzn p0 (Nat.le_trans (zsc_le hGZ.1) (by omega)) (by omega)) (fun r G2 h => ?_)
  obtain ⟨h1, rfl⟩ := h
  refine ⟨ro, _, ⟨rfl, rfl, ?_⟩, hA, zfr.rf⟩
  rcases h1 with h1 | ⟨h1, h2⟩ | h1
  · exact Or.inl h1
  · exact Or.inr (Or.inl ⟨h1, fls os, (fls_V os).symm, by rw [fls_len]; exact h2⟩)
  · exact Or.inr (Or.inr h1)

