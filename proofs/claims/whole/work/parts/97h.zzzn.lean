theorem u_tn {n : Nat} (h : n < 2 ^ 64) : (UInt64.ofNat n).toNat = n := Nat.mod_eq_of_lt h
theorem g_and {a b c : Nat} (ha : a < 2 ^ 64) (hb : b < 2 ^ 64) (hc : a &&& b = c) : lN a &&& lN b = lN c := by
  subst hc
  have h : UInt64.ofNat a &&& UInt64.ofNat b = UInt64.ofNat (a &&& b) := UInt64.toNat_inj.mp (by rw [UInt64.toNat_and, u_tn ha, u_tn hb, u_tn (Nat.and_lt_two_pow a hb)])
  have h2 := congrArg UInt64.toInt64 h
  exact h2
theorem g_mask {a s p : Nat} (hp : 2 ^ s = p) (hs : s < 64) (ha : a < 2 ^ 64) : lN a &&& lN (p - 1) = lN (a % p) := by
  subst hp
  have := Nat.pow_lt_pow_right (show 1 < 2 by decide) hs
  exact g_and ha (by omega) (Nat.and_two_pow_sub_one_eq_mod a s)
theorem g_or {k p a b : Nat} (hp : 2 ^ k = p) (ha : a < p) (h : b * p + a < 2 ^ 64) : lN (b * p) ||| lN a = lN (b * p + a) := by
  subst hp
  have h1 : b * 2 ^ k ||| a = b * 2 ^ k + a := by rw [← Nat.shiftLeft_eq, Nat.shiftLeft_add_eq_or_of_lt ha]
  have h3 : UInt64.ofNat (b * 2 ^ k) ||| UInt64.ofNat a = UInt64.ofNat (b * 2 ^ k + a) := UInt64.toNat_inj.mp (by rw [UInt64.toNat_or, u_tn (by omega), u_tn (by omega), u_tn h, h1])
  have h2 := congrArg UInt64.toInt64 h3
  exact h2
theorem g_shl {a k p : Nat} {y : Int64} (hy : y.toBitVec.smod 64 = BitVec.ofNat 64 k) (hk : k < 64) (hp : 2 ^ k = p) (ha : a < 2 ^ 64) : lN a <<< y = lN (a * p) := by
  subst hp
  apply Int64.toBitVec_inj.mp
  rw [Int64.toBitVec_shiftLeft, hy]
  apply BitVec.eq_of_toNat_eq
  have hb : (lN a).toBitVec.toNat = a := Nat.mod_eq_of_lt ha
  have hk' : (BitVec.ofNat 64 k).toNat = k := Nat.mod_eq_of_lt (by omega)
  have h : ((lN a).toBitVec <<< BitVec.ofNat 64 k).toNat = (a * 2 ^ k) % 2 ^ 64 := by simp only [BitVec.shiftLeft_eq', BitVec.toNat_shiftLeft, hb, hk', Nat.shiftLeft_eq]
  exact h
/-! four bytes as a number, in 32 and in 64 bits -/
theorem ni_or {k a b : Nat} (ha : a < 2 ^ k) (h : b * 2 ^ k + a < 2 ^ 32) : nI (b * 2 ^ k) ||| nI a = nI (b * 2 ^ k + a) := by
  have h1 : b * 2 ^ k ||| a = b * 2 ^ k + a := by rw [← Nat.shiftLeft_eq, Nat.shiftLeft_add_eq_or_of_lt ha]
  apply Int32.toBitVec_inj.mp
  apply BitVec.eq_of_toNat_eq
  rw [Int32.toBitVec_or, BitVec.toNat_or]
  show (BitVec.ofNat 32 _).toNat ||| (BitVec.ofNat 32 _).toNat = (BitVec.ofNat 32 _).toNat
  rw [BitVec.toNat_ofNat, BitVec.toNat_ofNat, BitVec.toNat_ofNat, Nat.mod_eq_of_lt (by omega), Nat.mod_eq_of_lt (by omega), Nat.mod_eq_of_lt h, h1]
def b4 (x0 x1 x2 x3 : Nat) : Nat := ((x0 * 256 + x1) * 256 + x2) * 256 + x3
theorem b4_lt {x0 x1 x2 x3 : Nat} (h0 : x0 < 256) (h1 : x1 < 256) (h2 : x2 < 256) (h3 : x3 < 256) : b4 x0 x1 x2 x3 < 2 ^ 32 := by unfold b4; omega
theorem zr4_n {f : Nat → Int32} {k x0 x1 x2 x3 : Nat} (h0 : x0 < 256) (h1 : x1 < 256) (h2 : x2 < 256) (h3 : x3 < 256) (e0 : f k &&& 255 = nI x0) (e1 : f (k + 1) &&& 255 = nI x1) (e2 : f (k + 2) &&& 255 = nI x2) (e3 : f (k + 3) &&& 255 = nI x3) : zr4 f k = nI (b4 x0 x1 x2 x3) := by
  unfold zr4
  rw [e0, e1, e2, e3, pk_shlN (24 &&& 31) 24 (by decide) (by omega), pk_shlN (16 &&& 31) 16 (by decide) (by omega), pk_shlN (8 &&& 31) 8 (by decide) (by omega)]
  have a1 : nI (x0 * 2 ^ 24) ||| nI (x1 * 2 ^ 16) = nI ((x0 * 256 + x1) * 2 ^ 16) := by
    have := ni_or (k := 24) (a := x1 * 2 ^ 16) (b := x0) (by omega) (by omega)
    rw [this]; exact congrArg nI (by omega)
  rw [a1]
  have a2 : nI ((x0 * 256 + x1) * 2 ^ 16) ||| nI (x2 * 2 ^ 8) = nI (((x0 * 256 + x1) * 256 + x2) * 2 ^ 8) := by
    have := ni_or (k := 16) (a := x2 * 2 ^ 8) (b := x0 * 256 + x1) (by omega) (by omega)
    rw [this]; exact congrArg nI (by omega)
  rw [a2, ni_or (k := 8) (a := x3) (b := (x0 * 256 + x1) * 256 + x2) (by omega) (by omega)]
  rfl
theorem zl_st {a b : Nat} (ha : a < 2 ^ 24) (hb : b < 256) : lN a <<< ((8 : Int32).toInt64 &&& 63) ||| (nI b).toInt64 = lN (a * 256 + b) := by
  rw [nI_l (by omega), g_shl (k := 8) (p := 256) (by decide) (by decide) (by decide) (by omega)]
  exact g_or (k := 8) (p := 256) (by decide) hb (by omega)
theorem zl4_n {f : Nat → Int32} {k x0 x1 x2 x3 : Nat} (h0 : x0 < 256) (h1 : x1 < 256) (h2 : x2 < 256) (h3 : x3 < 256) (e0 : f k &&& 255 = nI x0) (e1 : f (k + 1) &&& 255 = nI x1) (e2 : f (k + 2) &&& 255 = nI x2) (e3 : f (k + 3) &&& 255 = nI x3) : zl4 f k = lN (b4 x0 x1 x2 x3) := by
  unfold zl4
  rw [Nat.add_zero, e0, e1, e2, e3, show (0 : Int64) = lN 0 from rfl, zl_st (by omega) h0, zl_st (by omega) h1, zl_st (by omega) h2, zl_st (by omega) h3]
  unfold b4; exact congrArg lN (by omega)
theorem by_n {v : Int32} (h : fits .byte (.int v) = true) : ∃ b, b < 256 ∧ v &&& 255 = nI b := by
  obtain ⟨c, hc, rfl⟩ := zu8 h
  exact ⟨c, hc, (sb_byte c hc).1⟩
/-- both readings of four bytes -/
theorem zlr {f : Nat → Int32} (hf : sb_Fit f) (k : Nat) : ∃ m, m < 2 ^ 32 ∧ zl4 f k = lN m ∧ zr4 f k = nI m := by
  obtain ⟨x0, h0, e0⟩ := by_n (hf k)
  obtain ⟨x1, h1, e1⟩ := by_n (hf (k + 1))
  obtain ⟨x2, h2, e2⟩ := by_n (hf (k + 2))
  obtain ⟨x3, h3, e3⟩ := by_n (hf (k + 3))
  exact ⟨b4 x0 x1 x2 x3, b4_lt h0 h1 h2 h3, zl4_n h0 h1 h2 h3 e0 e1 e2 e3, zr4_n h0 h1 h2 h3 e0 e1 e2 e3⟩
theorem nI_neg {m : Nat} (h : 2 ^ 31 ≤ m) (h2 : m < 2 ^ 32) : nI m < 0 := by
  rw [Int32.lt_iff_toInt_lt]
  show (BitVec.ofNat 32 m).toInt < 0
  rw [BitVec.toInt_eq_toNat_cond, BitVec.toNat_ofNat, Nat.mod_eq_of_lt h2, if_neg (by omega)]
  omega
theorem zltm {m : Nat} {u : Int32} (hm : m < 2 ^ 32) (hu : 0 ≤ u) : (if lN m < (u.toInt64 &&& 4294967295) then lN m else (u.toInt64 &&& 4294967295)).toInt32 = (if nI m < 0 then u else if nI m < u then nI m else u) := by
  obtain ⟨k, hk, rfl⟩ := nI_of (Int32.not_lt.mpr hu)
  have e1 : (nI k).toInt64 &&& 4294967295 = lN k := by
    rw [nI_l hk]
    have := g_mask (a := k) (s := 32) (p := 4294967296) (by decide) (by decide) (by omega)
    rw [Nat.mod_eq_of_lt (by omega)] at this
    exact this
  rw [e1]
  by_cases h : m < 2 ^ 31
  · rw [if_neg (nI_pos h)]
    by_cases z : m < k
    · rw [if_pos ((pk_lLT (by omega) (by omega)).mpr z), if_pos ((nI_ltI h hk).mpr z), lN_i]
    · rw [if_neg (fun q => z ((pk_lLT (by omega) (by omega)).mp q)), if_neg (fun q => z ((nI_ltI h hk).mp q)), lN_i]
  · rw [if_pos (nI_neg (by omega) hm), if_neg (fun q => by have := (pk_lLT (by omega) (by omega)).mp q; omega), lN_i]
theorem zl4_cg {f g : Nat → Int32} {q : Nat} (h : ∀ j, q ≤ j → j < q + 4 → f j = g j) : zl4 f q = zl4 g q := by
  unfold zl4
  rw [h (q + 0) (by omega) (by omega), h (q + 1) (by omega) (by omega), h (q + 2) (by omega) (by omega), h (q + 3) (by omega) (by omega)]
theorem zBy.fit {E : zc_E} {G : zg_G} {b : Nat} {D : List Int32} (h : zBy E G b D) : sb_Fit (fun j => D.getD j 0) := by
  obtain ⟨f, h1, h2, h3⟩ := h
  intro j
  show fits .byte (.int (D.getD j 0)) = true
  by_cases z : j < D.length
  · rw [← h2 j z]; exact h3 j
  · rw [List.getD_eq_getElem?_getD, List.getElem?_eq_none (by omega)]; rfl
theorem t_Mo_linkTime_s (l : Launch) {E : zc_E} {G : zg_G} {ro : zRo} {a c1 c2 : Nat} {lo : np_N} {rs : List zRt} {W : zW} {px : List Int32} {qp : Prop} {nq : Nat × Int32 × np_N × zWs} {th co se : Int32} {tp : List Int32} {v19 v20 : Value} (hs : rSt E G ro a c1 c2 lo rs W px qp nq th tp co se v19 v20) : zMi l E y_Mo_linkTime c_Mo_linkTime 1 (some .int) rm_Mo_linkTime [.ref a] G (fun (r : Int32) G2 => r = vlt (rVf rs) lo ∧ G2 = G) := by
  obtain ⟨h, rfl, rfl, rfl, a1, a2, ⟨fm, a3⟩, a4, ⟨fo, o1, o2, o3, o4, o5⟩, rr, rg, as⟩ := hs
  obtain ⟨x1, x2, hsoa⟩ := rg.2.2.2.1
  have hBy := (rr.1.2.2 _ (re_mem rg.1)).2.2
  have hlt : ∀ df : Nat → Int32, (∀ j, j < (rB (re rs 0)).length → df j = (rB (re rs 0)).getD j 0) → (if zl4 df (np_len x1 + np_len x2 + 16) < ((rU (re rs 0)).toInt64 &&& 4294967295) then zl4 df (np_len x1 + np_len x2 + 16) else ((rU (re rs 0)).toInt64 &&& 4294967295)).toInt32 = vlt (rVf rs) lo := fun df hd => by
    have hl := hsoa.2.2
    rw [zl4_cg (g := fun j => (rB (re rs 0)).getD j 0) (fun j j1 j2 => hd j (by omega))]
    obtain ⟨m, hm, e1, e2⟩ := zlr hBy.fit (np_len x1 + np_len x2 + 16)
    rw [e1, zltm hm rg.2.2.2.2.1, ← e2]
    unfold vlt
    rw [rg.six]
    show _ = zLt (rB (re rs 0)) (rU (re rs 0))
    unfold zLt
    rw [show (rB (re rs 0)).length - 4 = np_len x1 + np_len x2 + 16 by omega]
  exact (t_Mo_linkTime l E G rs (h 0) (h 1) (h 3) (h 4) (h 6) (h 7) (h 8) (h 9) (h 10) (h 11) (h 12) (h 15) (h 18) th (nI tp.length) (nI (wln W)) co (nI (rPw W + px.length)) se v19 v20 a1 rr.1 rg.1 x1 x2 hsoa).imp (fun r G9 z => ⟨by obtain ⟨df, z1, z2⟩ := z.1; rw [z2]; exact hlt df z1, z.2⟩)

