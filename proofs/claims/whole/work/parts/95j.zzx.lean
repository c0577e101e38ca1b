theorem vam_1 (V : zVt) (top : np_N) (W : zW) (e : aV) : (vam V top W e).1 = W.1 := by
  have ha : ∀ W x t, (vad V W x t).1 = W.1 := fun W x t => by
    unfold vad
    by_cases z : aHas W.2.2 x t ∨ aHas W.1 x t
    · rw [zif_y z]
    · rw [zif_n z]; rfl
  unfold vam
  split
  · unfold vao; rw [ha, ha]
  · rfl
theorem vam_f (V : zVt) (top : np_N) (L : List aV) (W : zW) : (L.foldl (vam V top) W).1 = W.1 := by
  induction L generalizing W with
  | nil => rfl
  | cons e L ih => rw [List.foldl_cons, ih, vam_1]
theorem vam_le (V : zVt) (top : np_N) (W : zW) (e : aV) : zLe W (vam V top W e) := by
  unfold vam
  split
  · exact vao_le V W _
  · exact zLe.rf _
theorem vam_n {V : zVt} {top : np_N} {W : zW} {e : aV} (h : ¬ (e.2.1 = 2 ∨ e.2.1 = 15 ∨ e.2.1 = 33) ∨ ¬ vco V top (vtg e.2.1 e.2.2.2) = none) : vam V top W e = W := if_neg (fun z => h.elim (fun q => q z.1) (fun q => q z.2))
theorem vam_y {V : zVt} {top : np_N} {W : zW} {e : aV} (h1 : e.2.1 = 2 ∨ e.2.1 = 15 ∨ e.2.1 = 33) (h2 : vco V top (vtg e.2.1 e.2.2.2) = none) : vam V top W e = vao V W (vtg e.2.1 e.2.2.2) := if_pos ⟨h1, h2⟩
theorem vam_0 {V : zVt} {top : np_N} {W : zW} {e : aV} (h : ∀ t, V (vtg e.2.1 e.2.2.2) t = []) : vam V top W e = W := by
  unfold vam
  split
  · exact vao_0 h
  · rfl
theorem zGZ.c0 {os : List zOt} {top : np_N} (h : zGZ os top) {i : Nat} (hi : i < os.length) : oC (oe os i) = none ↔ vco (zV os) top (oM (oe os i)) = none := by
  rw [h.mk9 hi, h.co i hi, Option.map_eq_none_iff, Option.map_eq_none_iff]
def ku (k : Nat → Nat) (n v : Nat) : Nat → Nat := fun j => if j = n then v else k j
def zKb (r : Nat × Nat) : Prop := zKa r ∨ r = (14, 0)
theorem zKb_0 : ¬ zKb (0, 0) := by rintro (h | h); exact zKa_0 h; simp at h
theorem zKb_z (r : Nat × Nat) (h : zKz r) : ¬ zKb r := by
  rintro (e | e)
  · exact zKa_z r h e
  · rw [e] at h
    rcases h with h | h | h
    · have := h.2; simp at this
    · simp at h
    · simp at h
section ZCB
variable {E : zc_E} {G G2 : zg_G} {ro : zRo} {k : Nat → Nat} {rc ty se : Int32} {os : List zOt} {top : np_N} {d1 d2 d3 : Nat} {t1 t2 t3 : List zTt}
theorem zES.clr {sa la dd ix c0 : Nat} {ts : List zTt} (h : zES E G ro sa la dd ts ix c0) (hE : G2 (E.2.2.2 0) = none) (hx : zx (fun q => q = la ∨ q = dd) G G2) (hL : zL E G2 la dd []) : zES E G2 ro sa la dd [] ix (zcG G2 dd) ∧ zfr ro (zKs ix) G ro G2 := by
  have hf : zfr ro (zKs ix) G ro G2 := zfr.of (h.1.2.1.zk hx) zro.rf (fun k z => z)
  exact ⟨⟨⟨(hf _ _ h.1.1 (by rw [h.2.1]; exact zKs_0)).1, h.1.2.1.del hE hL, fun t ht => absurd ht List.not_mem_nil⟩, h.2.1, rfl⟩, hf⟩
theorem zCx.c1 (h : zCx E G ro k rc ty se os top d1 d2 d3 t1 t2 t3) (hE0 : G (E.2.2.2 0) = none) (hE : G2 (E.2.2.2 0) = none) (hx : zx (fun q => q = k 5 ∨ q = d1) G G2) (hL : zL E G2 (k 5) d1 []) : zCx E G2 ro (ku k 8 (zcG G2 d1)) rc ty se os top d1 d2 d3 [] t2 t3 ∧ zfr ro zKb G ro G2 := by
  obtain ⟨h1, ⟨a1, a2, a3, a4, a5⟩, h3⟩ := h
  obtain ⟨q1, hf⟩ := a3.clr hE hx hL
  have q := hf _ _ a1 (by rw [a2]; rintro (z | z) <;> simp at z)
  exact ⟨⟨h1.fr hf hE zKs_0 zKs_z, ⟨q.1, a2, q1, a4.fr hf hE0 hE zKs_0 (zKs_ne (by decide)).1 (zKs_ne (by decide)).2, a5.fr hf hE0 hE zKs_0 (zKs_ne (by decide)).1 (zKs_ne (by decide)).2⟩, fun t ht => absurd ht List.not_mem_nil⟩, hf.w (fun r z => Or.inl (zKs_a r z))⟩
theorem zCx.c2 (h : zCx E G ro k rc ty se os top d1 d2 d3 t1 t2 t3) (hE0 : G (E.2.2.2 0) = none) (hE : G2 (E.2.2.2 0) = none) (hx : zx (fun q => q = k 6 ∨ q = d2) G G2) (hL : zL E G2 (k 6) d2 []) : zCx E G2 ro (ku k 9 (zcG G2 d2)) rc ty se os top d1 d2 d3 t1 [] t3 ∧ zfr ro zKb G ro G2 := by
  obtain ⟨h1, ⟨a1, a2, a3, a4, a5⟩, h3⟩ := h
  obtain ⟨q1, hf⟩ := a4.clr hE hx hL
  have q := hf _ _ a1 (by rw [a2]; rintro (z | z) <;> simp at z)
  exact ⟨⟨h1.fr hf hE zKs_0 zKs_z, ⟨q.1, a2, a3.fr hf hE0 hE zKs_0 (zKs_ne (by decide)).1 (zKs_ne (by decide)).2, q1, a5.fr hf hE0 hE zKs_0 (zKs_ne (by decide)).1 (zKs_ne (by decide)).2⟩, h3⟩, hf.w (fun r z => Or.inl (zKs_a r z))⟩
theorem zCx.c3 (h : zCx E G ro k rc ty se os top d1 d2 d3 t1 t2 t3) (hE0 : G (E.2.2.2 0) = none) (hE : G2 (E.2.2.2 0) = none) (hx : zx (fun q => q = k 7 ∨ q = d3) G G2) (hL : zL E G2 (k 7) d3 []) : zCx E G2 ro (ku k 10 (zcG G2 d3)) rc ty se os top d1 d2 d3 t1 t2 [] ∧ zfr ro zKb G ro G2 := by
  obtain ⟨h1, ⟨a1, a2, a3, a4, a5⟩, h3⟩ := h
  obtain ⟨q1, hf⟩ := a5.clr hE hx hL
  have q := hf _ _ a1 (by rw [a2]; rintro (z | z) <;> simp at z)
  exact ⟨⟨h1.fr hf hE zKs_0 zKs_z, ⟨q.1, a2, a3.fr hf hE0 hE zKs_0 (zKs_ne (by decide)).1 (zKs_ne (by decide)).2, a4.fr hf hE0 hE zKs_0 (zKs_ne (by decide)).1 (zKs_ne (by decide)).2, q1⟩, h3⟩, hf.w (fun r z => Or.inl (zKs_a r z))⟩
theorem zCx.up0 {ty2 se2 : Int32} (h : zCx E G ro k rc ty se os top d1 d2 d3 t1 t2 t3) (hE0 : G (E.2.2.2 0) = none) (hE : zg_up G (k 0) (.inr (1, [.ref (k 1), .ref (k 2), .ref (k 3), .ref (k 4), .int ty2, .int se2])) (E.2.2.2 0) = none) : zCx E (zg_up G (k 0) (.inr (1, [.ref (k 1), .ref (k 2), .ref (k 3), .ref (k 4), .int ty2, .int se2]))) ro k rc ty2 se2 os top d1 d2 d3 t1 t2 t3 ∧ zfr ro zKb G ro (zg_up G (k 0) (.inr (1, [.ref (k 1), .ref (k 2), .ref (k 3), .ref (k 4), .int ty2, .int se2]))) := by
  obtain ⟨h1, ⟨a1, a2, a3, a4, a5⟩, h3⟩ := h
  have hf : zfr ro (fun r => r = (14, 0)) G ro (zg_up G (k 0) (.inr (1, [.ref (k 1), .ref (k 2), .ref (k 3), .ref (k 4), .int ty2, .int se2]))) := zfr.up a2
  have hz : ∀ r, zKz r → ¬ r = (14, 0) := fun r z w => zKb_z r z (Or.inr w)
  exact ⟨⟨h1.fr hf hE (by simp) hz, ⟨zg_up_self _ _ _, a2, a3.fr hf hE0 hE (by simp) (by simp) (by simp), a4.fr hf hE0 hE (by simp) (by simp) (by simp), a5.fr hf hE0 hE (by simp) (by simp) (by simp)⟩, h3⟩, hf.w (fun r z => Or.inr z)⟩
end ZCB
theorem w_211 : (.fieldLink "ZoneAnswers$Answer" 183 "ZoneAnswers$Owner" "cut" "LZoneAnswers$Owner;" : Cond) ∈ zw := zw_at 211 (by decide +kernel) (by decide +kernel)
theorem w_1012 : (.methodLink "ZoneAnswers$Answer" 28 ⟨"ZoneAnswers$Section", "clear", "()V"⟩ : Cond) ∈ zw := zw_at 1012 (by decide +kernel) (by decide +kernel)
theorem w_1013 : (.instanceMethod ⟨"ZoneAnswers$Section", "clear", "()V"⟩ : Cond) ∈ zw := zw_at 1013 (by decide +kernel) (by decide +kernel)
theorem w_1014 : (.selects "ZoneAnswers$Section" ⟨"ZoneAnswers$Section", "clear", "()V"⟩ ⟨"ZoneAnswers$Section", "clear", "()V"⟩ : Cond) ∈ zw := zw_at 1014 (by decide +kernel) (by decide +kernel)
theorem w_1015 : (.code ⟨"ZoneAnswers$Section", "clear", "()V"⟩ prog_7_method_2_code 1 none : Cond) ∈ zw := zw_at 1015 (by decide +kernel) (by decide +kernel)
theorem w_1051 : (.fieldLink "ZoneAnswers$Answer" 178 "ZoneAnswers$Told" "type" "I" : Cond) ∈ zw := zw_at 1051 (by decide +kernel) (by decide +kernel)
theorem w_1056 : (.fieldLink "ZoneAnswers$Answer" 179 "ZoneAnswers$Told" "datum" "LZoneAnswers$Datum;" : Cond) ∈ zw := zw_at 1056 (by decide +kernel) (by decide +kernel)
theorem w_1188 : (.methodLink "ZoneAnswers$Answer" 173 ⟨"ZoneAnswers$Section", "size", "()I"⟩ : Cond) ∈ zw := zw_at 1188 (by decide +kernel) (by decide +kernel)
theorem w_1192 : (.methodLink "ZoneAnswers$Answer" 174 ⟨"ZoneAnswers$Section", "row", "(I)LZoneAnswers$Told;"⟩ : Cond) ∈ zw := zw_at 1192 (by decide +kernel) (by decide +kernel)
abbrev c_An_addAddresses : ByteArray := prog_2_method_10_code
abbrev y_An_addAddresses : MethodName := ⟨"ZoneAnswers$Answer", "addAddresses", "()V"⟩
theorem d_An_addAddresses_0 : decode c_An_addAddresses 0 = .ok (.iconst 0, 1) := by decide +kernel
theorem d_An_addAddresses_1 : decode c_An_addAddresses 1 = .ok (.istore_n 1, 1) := by decide +kernel
theorem d_An_addAddresses_2 : decode c_An_addAddresses 2 = .ok (.iload_n 1, 1) := by decide +kernel
theorem d_An_addAddresses_3 : decode c_An_addAddresses 3 = .ok (.aload_n 0, 1) := by decide +kernel
theorem d_An_addAddresses_4 : decode c_An_addAddresses 4 = .ok (.getfield 18, 3) := by decide +kernel
theorem d_An_addAddresses_7 : decode c_An_addAddresses 7 = .ok (.invokevirtual 173, 3) := by decide +kernel
theorem d_An_addAddresses_10 : decode c_An_addAddresses 10 = .ok (.if_icmp .ge 83, 3) := by decide +kernel
theorem d_An_addAddresses_13 : decode c_An_addAddresses 13 = .ok (.aload_n 0, 1) := by decide +kernel
theorem d_An_addAddresses_14 : decode c_An_addAddresses 14 = .ok (.getfield 18, 3) := by decide +kernel
theorem d_An_addAddresses_17 : decode c_An_addAddresses 17 = .ok (.iload_n 1, 1) := by decide +kernel
theorem d_An_addAddresses_18 : decode c_An_addAddresses 18 = .ok (.invokevirtual 174, 3) := by decide +kernel
theorem d_An_addAddresses_21 : decode c_An_addAddresses 21 = .ok (.astore_n 2, 1) := by decide +kernel
theorem d_An_addAddresses_22 : decode c_An_addAddresses 22 = .ok (.aload_n 2, 1) := by decide +kernel
theorem d_An_addAddresses_23 : decode c_An_addAddresses 23 = .ok (.ifnull 64, 3) := by decide +kernel
theorem d_An_addAddresses_26 : decode c_An_addAddresses 26 = .ok (.aload_n 2, 1) := by decide +kernel
theorem d_An_addAddresses_27 : decode c_An_addAddresses 27 = .ok (.getfield 178, 3) := by decide +kernel
theorem d_An_addAddresses_30 : decode c_An_addAddresses 30 = .ok (.iconst 2, 1) := by decide +kernel
theorem d_An_addAddresses_31 : decode c_An_addAddresses 31 = .ok (.if_icmp .eq 21, 3) := by decide +kernel
theorem d_An_addAddresses_34 : decode c_An_addAddresses 34 = .ok (.aload_n 2, 1) := by decide +kernel
theorem d_An_addAddresses_35 : decode c_An_addAddresses 35 = .ok (.getfield 178, 3) := by decide +kernel
theorem d_An_addAddresses_38 : decode c_An_addAddresses 38 = .ok (.bipush 15, 2) := by decide +kernel
theorem d_An_addAddresses_40 : decode c_An_addAddresses 40 = .ok (.if_icmp .eq 12, 3) := by decide +kernel
theorem d_An_addAddresses_43 : decode c_An_addAddresses 43 = .ok (.aload_n 2, 1) := by decide +kernel
theorem d_An_addAddresses_44 : decode c_An_addAddresses 44 = .ok (.getfield 178, 3) := by decide +kernel
theorem d_An_addAddresses_47 : decode c_An_addAddresses 47 = .ok (.bipush 33, 2) := by decide +kernel
theorem d_An_addAddresses_49 : decode c_An_addAddresses 49 = .ok (.if_icmp .ne 38, 3) := by decide +kernel
theorem d_An_addAddresses_52 : decode c_An_addAddresses 52 = .ok (.aload_n 0, 1) := by decide +kernel
theorem d_An_addAddresses_53 : decode c_An_addAddresses 53 = .ok (.getfield 9, 3) := by decide +kernel
theorem d_An_addAddresses_56 : decode c_An_addAddresses 56 = .ok (.aload_n 2, 1) := by decide +kernel
theorem d_An_addAddresses_57 : decode c_An_addAddresses 57 = .ok (.getfield 179, 3) := by decide +kernel
theorem d_An_addAddresses_60 : decode c_An_addAddresses 60 = .ok (.getfield 132, 3) := by decide +kernel
theorem d_An_addAddresses_63 : decode c_An_addAddresses 63 = .ok (.invokevirtual 79, 3) := by decide +kernel
theorem d_An_addAddresses_66 : decode c_An_addAddresses 66 = .ok (.astore_n 3, 1) := by decide +kernel
theorem d_An_addAddresses_67 : decode c_An_addAddresses 67 = .ok (.aload_n 0, 1) := by decide +kernel
theorem d_An_addAddresses_68 : decode c_An_addAddresses 68 = .ok (.aload_n 3, 1) := by decide +kernel
theorem d_An_addAddresses_69 : decode c_An_addAddresses 69 = .ok (.ifnull 10, 3) := by decide +kernel
theorem d_An_addAddresses_72 : decode c_An_addAddresses 72 = .ok (.aload_n 3, 1) := by decide +kernel
theorem d_An_addAddresses_73 : decode c_An_addAddresses 73 = .ok (.getfield 183, 3) := by decide +kernel
theorem d_An_addAddresses_76 : decode c_An_addAddresses 76 = .ok (.ifnull 7, 3) := by decide +kernel
theorem d_An_addAddresses_79 : decode c_An_addAddresses 79 = .ok (.aconst_null, 1) := by decide +kernel
theorem d_An_addAddresses_80 : decode c_An_addAddresses 80 = .ok (.goto 4, 3) := by decide +kernel
theorem d_An_addAddresses_83 : decode c_An_addAddresses 83 = .ok (.aload_n 3, 1) := by decide +kernel
theorem d_An_addAddresses_84 : decode c_An_addAddresses 84 = .ok (.invokevirtual 135, 3) := by decide +kernel
theorem d_An_addAddresses_87 : decode c_An_addAddresses 87 = .ok (.iinc 1 1, 3) := by decide +kernel
theorem d_An_addAddresses_90 : decode c_An_addAddresses 90 = .ok (.goto (-88), 3) := by decide +kernel
theorem d_An_addAddresses_93 : decode c_An_addAddresses 93 = .ok (.return_, 1) := by decide +kernel
abbrev c_An_begin : ByteArray := prog_2_method_3_code
abbrev y_An_begin : MethodName := ⟨"ZoneAnswers$Answer", "begin", "(IZ)V"⟩
theorem d_An_begin_0 : decode c_An_begin 0 = .ok (.aload_n 0, 1) := by decide +kernel
theorem d_An_begin_1 : decode c_An_begin 1 = .ok (.getfield 18, 3) := by decide +kernel
theorem d_An_begin_4 : decode c_An_begin 4 = .ok (.invokevirtual 28, 3) := by decide +kernel
theorem d_An_begin_7 : decode c_An_begin 7 = .ok (.aload_n 0, 1) := by decide +kernel
theorem d_An_begin_8 : decode c_An_begin 8 = .ok (.getfield 22, 3) := by decide +kernel
theorem d_An_begin_11 : decode c_An_begin 11 = .ok (.invokevirtual 28, 3) := by decide +kernel
theorem d_An_begin_14 : decode c_An_begin 14 = .ok (.aload_n 0, 1) := by decide +kernel
theorem d_An_begin_15 : decode c_An_begin 15 = .ok (.getfield 25, 3) := by decide +kernel
theorem d_An_begin_18 : decode c_An_begin 18 = .ok (.invokevirtual 28, 3) := by decide +kernel
theorem d_An_begin_21 : decode c_An_begin 21 = .ok (.aload_n 0, 1) := by decide +kernel
theorem d_An_begin_22 : decode c_An_begin 22 = .ok (.iload_n 1, 1) := by decide +kernel
theorem d_An_begin_23 : decode c_An_begin 23 = .ok (.putfield 31, 3) := by decide +kernel
theorem d_An_begin_26 : decode c_An_begin 26 = .ok (.aload_n 0, 1) := by decide +kernel
theorem d_An_begin_27 : decode c_An_begin 27 = .ok (.iload_n 2, 1) := by decide +kernel
theorem d_An_begin_28 : decode c_An_begin 28 = .ok (.putfield 35, 3) := by decide +kernel
theorem d_An_begin_31 : decode c_An_begin 31 = .ok (.return_, 1) := by decide +kernel
abbrev rm_An_addAddresses (c9 s9 : Nat) : Room := { frames := 12, cells := c9, slots := s9, locals := 420 }
set_option maxHeartbeats 4000000 in
set_option maxRecDepth 100000 in
/-- Answer.addAddresses() -/
theorem t_An_addAddresses (l : Launch) (E : zc_E) (G : zg_G) (k : Nat → Nat) (ro : zRo) (rc ty se : Int32) (os : List zOt) (top : np_N) (d1 d2 d3 : Nat) (t1 t2 t3 : List zTt) (hCx : zCx E G ro k rc ty se os top d1 d2 d3 t1 t2 t3) (hGZ : zGZ os top) (hdw : zdw os) (hzn : znr os < 2000) (hB9 : zB9 ((zWt t1 t2 t3).1.foldl (vam (zV os) top) (zWt t1 t2 t3))) : zMv l E y_An_addAddresses c_An_addAddresses 4 (rm_An_addAddresses (zPc ((zWt t1 t2 t3).1.foldl (vam (zV os) top) (zWt t1 t2 t3)) - zPc (zWt t1 t2 t3)) (zPh os k ((zWt t1 t2 t3).1.foldl (vam (zV os) top) (zWt t1 t2 t3)) - zPh os k (zWt t1 t2 t3))) [.ref (k 0)] G (fun (G2 : zg_G) => ∃ ro2 e1 e2 e3 u1 u2 u3, zCx E G2 ro2 k rc ty se os top e1 e2 e3 u1 u2 u3 ∧ zfr ro zKa G ro2 G2 ∧ zWt u1 u2 u3 = (zWt t1 t2 t3).1.foldl (vam (zV os) top) (zWt t1 t2 t3)) := by
  refine zMv.of (by decide) (Nat.le_of_ble_eq_true rfl) ?_
  intro p e s m args below meth c Q hZ hG hret ls hl
  obtain ⟨hx, hb, hr, hts, hown, hlocks, hml, hnm, hbase, hK, hN, hQ⟩ := hZ
  have hl : lv_has ls 4 [(0, .ref (k 0))] := hl
  have hS : zg_S (zc_b E) s.heap s.heap [] := va_S.rf
  obtain ⟨⟨hz1, hz2, hz3, hz4, hz5, soa, u9, hz6, hz7, hz8, hz9, hzA⟩, ⟨ha1, ha2, hs1, hs2, hs3⟩, hT1⟩ := id hCx
  obtain ⟨bo, fo, hno1, hno2, hno3, hno4, hno5, -⟩ := id hz4
  have hne : 0 < os.length := hGZ.2.2.1
  have hsz := hGZ.1.sz
  have hol : os.length ≤ 2000 := by have := hsz.1; omega
  have hso := hGZ.1.1
  have hE00 : G (E.2.2.2 0) = none := hQ.out hG
  have hl0 := zWt_l t1 t2 t3
  have hleF : zLe (zWt t1 t2 t3) ((zWt t1 t2 t3).1.foldl (vam (zV os) top) (zWt t1 t2 t3)) := vfold_le _ (fun W e => vam_le (zV os) top W e) _ _
  have hpaF := zPh_le (os := os) (k := k) hleF
  have hpdF := zPc_le hleF
  have hb1 : t1.length < 2000 := by have q := (hB9.le hleF).1; rw [hl0.1] at q; exact q
  refine lv_iconst (v := 0) hx hb d_An_addAddresses_0 (by decide) ?_
  refine zi_as (y := nI 0) (nI_0.symm) ?_
  refine lv_istore_n (lv' := [(1, .int (nI 0)), (0, .ref (k 0))]) hx hb d_An_addAddresses_1 rfl hl (by decide) rfl (fun ls hl => ?_)
  have loop2 : ∀ (N : Nat) (Gv : zg_G) (i : Nat) (ro8 : zRo) (d18 : Nat) (d28 : Nat) (d38 : Nat) (t18 : List zTt) (t28 : List zTt) (t38 : List zTt) (H : Heap) (locs : List Loc), (t1.length - i) < N → (i ≤ t1.length) → (zCx E Gv ro8 k rc ty se os top d18 d28 d38 t18 t28 t38) → (zfr ro zKa G ro8 Gv) → (zWt t18 t28 t38 = ((zWt t1 t2 t3).1.take i).foldl (vam (zV os) top) (zWt t1 t2 t3)) → zP E Gv H → zg_S (zc_b E) s.heap H locs → ∀ (ls : Array Slot), lv_has ls 4 [(0, .ref (k 0)), (1, .int (nI i))] → W p l e (rm_An_addAddresses (zPc ((zWt t1 t2 t3).1.foldl (vam (zV os) top) (zWt t1 t2 t3)) - zPc (zWt t1 t2 t3)) (zPh os k ((zWt t1 t2 t3).1.foldl (vam (zV os) top) (zWt t1 t2 t3)) - zPh os k (zWt t1 t2 t3))) s m args below meth c H locs (zPc (((zWt t1 t2 t3).1.take i).foldl (vam (zV os) top) (zWt t1 t2 t3)) - zPc (zWt t1 t2 t3)) (zPh os k (((zWt t1 t2 t3).1.take i).foldl (vam (zV os) top) (zWt t1 t2 t3)) - zPh os k (zWt t1 t2 t3)) Q (F0 m 2 ls []) := by
    intro N
    induction N with
    | zero =>
      intro Gv i ro8 d18 d28 d38 t18 t28 t38 H locs hlt
      exact absurd hlt (Nat.not_lt_zero _)
    | succ N ih =>
      intro Gv i ro8 d18 d28 d38 t18 t28 t38 H locs hlt hi hC8 hf8 hW8 hG hS ls hl
      obtain ⟨⟨hz18, hz28, hz38, hz48, hz58, soa8, u98, hz68, hz78, hz88, hz98, hzA8⟩, ⟨ha18, ha28, hs18, hs28, hs38⟩, hT18⟩ := id hC8
      obtain ⟨bo8, fo8, hno18, hno28, hno38, hno48, hno58, -⟩ := id hz48
      have hE8 : Gv (E.2.2.2 0) = none := hQ.out hG
      obtain ⟨⟨⟨kq8, hql8⟩, -⟩, -⟩ := id hs18.1.2.1
      rw [List.length_map] at hql8
      have ht1m : t18.map tV = t1.map tV := by have q := congrArg Prod.fst hW8; rw [vam_f] at q; exact q
      have ht1l : t18.length = t1.length := by have q := congrArg List.length ht1m; rw [List.length_map, List.length_map] at q; exact q
      have hle8 : zLe (zWt t1 t2 t3) (((zWt t1 t2 t3).1.take i).foldl (vam (zV os) top) (zWt t1 t2 t3)) := vfold_le _ (fun W e => vam_le (zV os) top W e) _ _
      have hle8b : zLe (((zWt t1 t2 t3).1.take i).foldl (vam (zV os) top) (zWt t1 t2 t3)) ((zWt t1 t2 t3).1.foldl (vam (zV os) top) (zWt t1 t2 t3)) := vfold_tk (fun W e => vam_le (zV os) top W e)
      have hpa8 := zPh_le (os := os) (k := k) hle8
      have hpd8 := zPc_le hle8
      have hpa8b := zPh_le (os := os) (k := k) hle8b
      have hpd8b := zPc_le hle8b
      refine lv_iload_n hx hb d_An_addAddresses_2 rfl (lv_at hl 1 rfl) ?_
      refine lv_aload_n hx hb d_An_addAddresses_3 rfl (lv_at hl 0 rfl) ?_
      refine zg_get (ci := 1) (C := "ZoneAnswers$Answer") (T := T_An) (N := 6) hx hb hts zi_An hown hK hG ha18 rfl 1 (by decide) (hts _ w_685) (fun _ h9 => h9) rfl d_An_addAddresses_4 ?_
      refine zk_i (va_runV (As := []) (rest := [.int (nI i)]) ⟨hx, hb, hml, hown, hts⟩ (t_Se_size l E Gv (k 2) (k 5) (.ref d18) (nI t18.length) kq8 hql8 hs18.1.1) (zcV 0 hts w_1188 w_1189 w_1190 w_29 w_1191 (by decide +kernel) ⟨Nat.le_of_ble_eq_true rfl, Nat.le_of_ble_eq_true rfl⟩) (zc_preV hbase hK hN hQ hG hS hs18.1.1 rfl) rfl rfl hl.1 rfl (lv_room (Nat.le_of_ble_eq_true rfl)) d_An_addAddresses_7 ⟨(by dsimp only; omega), (by dsimp only; omega)⟩) hS (fun r7 G7 H locs hp7 hG hS => ?_)
      have hG : zP E Gv H := hp7.2 ▸ hG
      refine zi_as (y := nI t18.length) hp7.1 ?_
      refine lv_icmp_ge (tgt := 93) hx hb d_An_addAddresses_10 (by decide) (fun c10 => ?_) (fun c10 => ?_)
      · have b10 : t18.length ≤ i := (nI_leI (a := t18.length) (b := i) (by omega) (by omega)).mp c10
        exact hret _ _ _ _ _ _ _ (⟨ro8, d18, d28, d38, t18, t28, t38, hC8, hf8, by rw [hW8, show i = (zWt t1 t2 t3).1.length by rw [hl0.1]; omega, List.take_length]⟩) hG hS (by dsimp only; omega) (by dsimp only; omega) d_An_addAddresses_93
      · have b10 : ¬ t18.length ≤ i := fun q => c10 ((nI_leI (a := t18.length) (b := i) (by omega) (by omega)).mpr q)
        have hin : i < t1.length := by omega
        have hin8 : i < t18.length := by omega
        refine lv_aload_n hx hb d_An_addAddresses_13 rfl (lv_at hl 0 rfl) ?_
        refine zg_get (ci := 1) (C := "ZoneAnswers$Answer") (T := T_An) (N := 6) hx hb hts zi_An hown hK hG ha18 rfl 1 (by decide) (hts _ w_685) (fun _ h9 => h9) rfl d_An_addAddresses_14 ?_
        refine lv_iload_n hx hb d_An_addAddresses_17 rfl (lv_at hl 1 rfl) ?_
        have hGo18 := hG
        refine zk_q (va_runV (As := [.int (nI i)]) (rest := []) ⟨hx, hb, hml, hown, hts⟩ (t_Se_row_t l hs18.1 (nI i)) (zcV 1 hts w_1192 w_1193 w_1194 w_29 w_1195 (by decide +kernel) ⟨Nat.le_of_ble_eq_true rfl, Nat.le_of_ble_eq_true rfl⟩) (zc_preV hbase hK hN hQ hG hS hs18.1.1 rfl) rfl rfl hl.1 rfl (lv_room (Nat.le_of_ble_eq_true rfl)) d_An_addAddresses_18 ⟨(by dsimp only; omega), (by dsimp only; omega)⟩) hS (fun r18 G18 H locs hp18 hG hS => ?_)
        rcases hp18 with ⟨⟨jr, hjr, ejr0, er18⟩ | ⟨hrn, er18⟩, eg18⟩
        · have hG : zP E Gv H := eg18 ▸ hG
          have ejr : jr = i := by
            have q := congrArg Int32.toNatClampNeg ejr0; rw [zi_n _ (by omega), zi_n _ (by omega)] at q; exact q.symm
          refine zr_some (a := tA (te t18 i)) (er18.trans (by rw [ejr])) ?_
          have htr8 := hs18.1.2.2 _ (te_mem hin8)
          have hWi : (zWt t1 t2 t3).1[i]? = some (tV (te t18 i)) := by show (t1.map tV)[i]? = _; rw [← ht1m, List.getElem?_map, List.getElem?_eq_getElem hin8, te_at hin8]; rfl
          have hWn : ((zWt t1 t2 t3).1.take (i + 1)).foldl (vam (zV os) top) (zWt t1 t2 t3) = vam (zV os) top (((zWt t1 t2 t3).1.take i).foldl (vam (zV os) top) (zWt t1 t2 t3)) (tV (te t18 i)) := fold_take hWi
          refine lv_astore_n (lv' := [(2, .ref (tA (te t18 i))), (0, .ref (k 0)), (1, .int (nI i))]) hx hb d_An_addAddresses_21 rfl hl (by decide) rfl (fun ls hl => ?_)
          refine lv_aload_n hx hb d_An_addAddresses_22 rfl (lv_at hl 0 rfl) ?_
          refine lv_ifnull hx hb d_An_addAddresses_23 ?_
          refine lv_aload_n hx hb d_An_addAddresses_26 rfl (lv_at hl 0 rfl) ?_
          refine zg_get (ci := 8) (C := "ZoneAnswers$Told") (T := T_To) (N := 4) hx hb hts zi_To hown hK hG htr8.1 rfl 1 (by decide) (hts _ w_1051) (fun _ h9 => h9) rfl d_An_addAddresses_27 ?_
          refine lv_iconst (v := 2) hx hb d_An_addAddresses_30 (by decide) ?_
          refine lv_icmp_eq (tgt := 52) hx hb d_An_addAddresses_31 (by decide) (fun c31 => ?_) (fun c31 => ?_)
          · refine lv_aload_n hx hb d_An_addAddresses_52 rfl (lv_at hl 1 rfl) ?_
            refine zg_get (ci := 1) (C := "ZoneAnswers$Answer") (T := T_An) (N := 6) hx hb hts zi_An hown hK hG ha18 rfl 0 (by decide) (hts _ w_684) (fun _ h9 => h9) rfl d_An_addAddresses_53 ?_
            refine lv_aload_n hx hb d_An_addAddresses_56 rfl (lv_at hl 0 rfl) ?_
            have hty9 : tT (te t18 i) = 2 ∨ tT (te t18 i) = 15 ∨ tT (te t18 i) = 33 := by first | exact Or.inl c31 | exact Or.inr (Or.inl c40) | exact Or.inr (Or.inr c49)
            obtain ⟨lsd, ed1, ed2, ed3⟩ := hT18 _ (te_mem hin8) (by rcases hty9 with z | z | z; exact Or.inl z; exact Or.inr (Or.inr (Or.inr (Or.inl z))); exact Or.inr (Or.inr (Or.inr (Or.inr z))))
            obtain ⟨bd9, yt9, hdc9, hNt9⟩ := htr8.2.2.1.tg ed1
            obtain ⟨bt9, ft9, hq19, hq29, hq39, hq49, hq59, -⟩ := id hNt9
            have etg : vtg (tV (te t18 i)).2.1 (tV (te t18 i)).2.2.2 = lsd := vnm_y ed2 ed3
            refine zg_get (ci := 8) (C := "ZoneAnswers$Told") (T := T_To) (N := 4) hx hb hts zi_To hown hK hG htr8.1 rfl 3 (by decide) (hts _ w_1056) (fun _ h9 => h9) rfl d_An_addAddresses_57 ?_
            refine zg_get (ci := 2) (C := "ZoneAnswers$Datum") (T := T_Da) (N := 2) hx hb hts zi_Da hown hK hG hdc9 rfl 1 (by decide) (hts _ w_144) (fun _ h9 => h9) rfl d_An_addAddresses_60 ?_
            have hGo63 := hG
            refine zk_q (va_runV (As := [.ref yt9]) (rest := []) ⟨hx, hb, hml, hown, hts⟩ (t_Zo_at_t l hz18 hz38 hne hso hq19 hq29 hq39 hq49 hq59) (zcV 1 hts w_1137 w_880 w_881 w_3 w_882 (by decide +kernel) ⟨Nat.le_of_ble_eq_true rfl, Nat.le_of_ble_eq_true rfl⟩) (zc_preV hbase hK hN hQ hG hS hz18 rfl) rfl rfl hl.1 rfl (lv_room (Nat.le_of_ble_eq_true rfl)) d_An_addAddresses_63 ⟨(by dsimp only; omega), (by dsimp only; omega)⟩) hS (fun r63 G63 H locs hp63 hG hS => ?_)
            rcases hp63 with ⟨⟨it, hit1, hit2, er63⟩ | ⟨hitn, er63⟩, eg63⟩
            · have hG : zP E Gv H := eg63 ▸ hG
              refine zr_some (a := oA (oe os it)) er63 ?_
              refine lv_astore_n (lv' := [(3, .ref (oA (oe os it))), (2, .ref (tA (te t18 i))), (0, .ref (k 0)), (1, .int (nI i))]) hx hb d_An_addAddresses_66 rfl hl (by decide) rfl (fun ls hl => ?_)
              refine lv_aload_n hx hb d_An_addAddresses_67 rfl (lv_at hl 2 rfl) ?_
              refine lv_aload_n hx hb d_An_addAddresses_68 rfl (lv_at hl 0 rfl) ?_
              refine lv_ifnull hx hb d_An_addAddresses_69 ?_
              refine lv_aload_n hx hb d_An_addAddresses_72 rfl (lv_at hl 0 rfl) ?_
              refine zg_get (ci := 4) (C := "ZoneAnswers$Owner") (T := T_Ow) (N := 3) hx hb hts zi_Ow hown hK hG (hz38.2 _ (oe_mem hit1)).1 rfl 2 (by decide) (hts _ w_211) (fun _ h9 => h9) rfl d_An_addAddresses_73 ?_
              rcases hq76 : oC (oe os it) with _ | x76
              · refine W.eq (g2 := F0 m 76 ls [.null, .ref (k 0)]) (by first | rfl | (rw [hq76]; rfl)) ?_
                have hvc : vco (zV os) top lsd = none := by rw [← hit2]; exact (hGZ.c0 hit1).mp hq76
                have hWv : ((zWt t1 t2 t3).1.take (i + 1)).foldl (vam (zV os) top) (zWt t1 t2 t3) = vao (zV os) (((zWt t1 t2 t3).1.take i).foldl (vam (zV os) top) (zWt t1 t2 t3)) lsd := by rw [hWn, vam_y hty9 (by rw [etg]; exact hvc), etg]
                have hle9 : zLe (vao (zV os) (((zWt t1 t2 t3).1.take i).foldl (vam (zV os) top) (zWt t1 t2 t3)) lsd) ((zWt t1 t2 t3).1.foldl (vam (zV os) top) (zWt t1 t2 t3)) := by rw [← hWv]; exact vfold_tk (fun W e => vam_le (zV os) top W e)
                have hpa9 := zPh_le (os := os) (k := k) hle9
                have hpd9 := zPc_le hle9
                have hle0 := vao_le (zV os) (((zWt t1 t2 t3).1.take i).foldl (vam (zV os) top) (zWt t1 t2 t3)) lsd
                have hpa0 := zPh_le (os := os) (k := k) hle0
                have hpd0 := zPc_le hle0
                refine lv_ifnullN (tgt := 83) hx hb d_An_addAddresses_76 (by decide) ?_
                refine lv_aload_n hx hb d_An_addAddresses_83 rfl (lv_at hl 0 rfl) ?_
                have hq84 := t_An_addAddressesOf l E Gv k ro8 rc ty se os top d18 d28 d38 t18 t28 t38 hC8 hGZ hdw hzn it hit1 (by rw [hW8]; exact by rw [hit2]; exact hB9.le hle9)
                rw [hW8] at hq84
                rw [hit2] at hq84
                have hGo84 := hG
                refine zk_v (va_runV (As := [.ref (oA (oe os it))]) (rest := []) ⟨hx, hb, hml, hown, hts⟩ (hq84) (zcV 1 hts w_1138 w_1140 wp_19 w_28 w_1141 (by decide +kernel) ⟨Nat.le_of_ble_eq_true rfl, Nat.le_of_ble_eq_true rfl⟩) (zc_preV hbase hK hN hQ hG hS ha18 rfl) rfl rfl hl.1 rfl (lv_room (Nat.le_of_ble_eq_true rfl)) d_An_addAddresses_84 ⟨(by dsimp only; omega), (by dsimp only; omega)⟩) hS (fun G84 H locs hp84 hG hS => ?_)
                obtain ⟨ro_84, d1_84, d2_84, d3_84, t1_84, t2_84, t3_84, hC_84, hf0_84, hW0_84⟩ := hp84
                have hf_84 : zfr ro zKa G ro_84 G84 := hf8.tr hf0_84
                have hW_84 : zWt t1_84 t2_84 t3_84 = vao (zV os) (((zWt t1 t2 t3).1.take i).foldl (vam (zV os) top) (zWt t1 t2 t3)) lsd := hW0_84
                have hE_84 : G84 (E.2.2.2 0) = none := hQ.out hG
                obtain ⟨⟨hz1_84, hz2_84, hz3_84, hz4_84, hz5_84, soa_84, u9_84, hz6_84, hz7_84, hz8_84, hz9_84, hzA_84⟩, ⟨ha1_84, ha2_84, hs1_84, hs2_84, hs3_84⟩, hT1_84⟩ := id hC_84
                obtain ⟨bo_84, fo_84, hno1_84, hno2_84, hno3_84, hno4_84, hno5_84, -⟩ := id hz4_84
                have hl_84 := zWt_l t1_84 t2_84 t3_84
                refine lv_iinc (v := nI (i + 1)) (lv' := [(1, .int (nI (i + 1))), (3, .ref (oA (oe os it))), (2, .ref (tA (te t18 i))), (0, .ref (k 0))]) hx hb d_An_addAddresses_87 hl (k := 3) rfl (nI_add i 1) (by decide) rfl (fun ls hl => ?_)
                refine lv_goto (tgt := 2) hx hb d_An_addAddresses_90 (by decide) ?_
                refine zW_more (cells2 := zPc (((zWt t1 t2 t3).1.take (i + 1)).foldl (vam (zV os) top) (zWt t1 t2 t3)) - zPc (zWt t1 t2 t3)) (slots2 := zPh os k (((zWt t1 t2 t3).1.take (i + 1)).foldl (vam (zV os) top) (zWt t1 t2 t3)) - zPh os k (zWt t1 t2 t3)) (by first | (rw [hWv]; dsimp only; omega) | (rw [hv0]; dsimp only; omega) | (have hle9 := vam_le (zV os) top (((zWt t1 t2 t3).1.take i).foldl (vam (zV os) top) (zWt t1 t2 t3)) (tV (te t18 i)); rw [← hWn] at hle9; have q := zPc_le hle9; dsimp only; omega)) (by first | (rw [hWv]; dsimp only; omega) | (rw [hv0]; dsimp only; omega) | (have hle9 := vam_le (zV os) top (((zWt t1 t2 t3).1.take i).foldl (vam (zV os) top) (zWt t1 t2 t3)) (tV (te t18 i)); rw [← hWn] at hle9; have q := zPh_le (os := os) (k := k) hle9; dsimp only; omega)) ?_
                exact ih G84 (i + 1) ro_84 d1_84 d2_84 d3_84 t1_84 t2_84 t3_84 _ _ (by omega) (by omega) (hC_84) (hf_84) (by rw [hWv]; exact hW_84) hG hS ls (lv_sub hl [3, 0] rfl)
              · refine W.eq (g2 := F0 m 76 ls [.ref x76, .ref (k 0)]) (by first | rfl | (rw [hq76]; rfl)) ?_
                have hvc : ¬ vco (zV os) top lsd = none := fun z => by have q := (hGZ.c0 hit1).mpr (by rw [hit2]; exact z); rw [hq76] at q; cases q
                have hv0 : ((zWt t1 t2 t3).1.take (i + 1)).foldl (vam (zV os) top) (zWt t1 t2 t3) = ((zWt t1 t2 t3).1.take i).foldl (vam (zV os) top) (zWt t1 t2 t3) := by rw [hWn]; exact vam_n (Or.inr (by rw [etg]; exact hvc))
                refine lv_ifnull hx hb d_An_addAddresses_76 ?_
                refine lv_null hx hb d_An_addAddresses_79 ?_
                refine lv_goto (tgt := 84) hx hb d_An_addAddresses_80 (by decide) ?_
                have hGo84 := hG
                refine zk_v (va_runV (As := [.null]) (rest := []) ⟨hx, hb, hml, hown, hts⟩ (t_An_addAddressesOf_n l E Gv (k 0) _ ha18) (zcV 1 hts w_1138 w_1140 wp_19 w_28 w_1141 (by decide +kernel) ⟨Nat.le_of_ble_eq_true rfl, Nat.le_of_ble_eq_true rfl⟩) (zc_preV hbase hK hN hQ hG hS ha18 rfl) rfl rfl hl.1 rfl (lv_room (Nat.le_of_ble_eq_true rfl)) d_An_addAddresses_84 ⟨(by dsimp only; omega), (by dsimp only; omega)⟩) hS (fun G84 H locs hp84 hG hS => ?_)
                have hG : zP E Gv H := hp84 ▸ hG
                refine lv_iinc (v := nI (i + 1)) (lv' := [(1, .int (nI (i + 1))), (3, .ref (oA (oe os it))), (2, .ref (tA (te t18 i))), (0, .ref (k 0))]) hx hb d_An_addAddresses_87 hl (k := 3) rfl (nI_add i 1) (by decide) rfl (fun ls hl => ?_)
                refine lv_goto (tgt := 2) hx hb d_An_addAddresses_90 (by decide) ?_
                refine zW_more (cells2 := zPc (((zWt t1 t2 t3).1.take (i + 1)).foldl (vam (zV os) top) (zWt t1 t2 t3)) - zPc (zWt t1 t2 t3)) (slots2 := zPh os k (((zWt t1 t2 t3).1.take (i + 1)).foldl (vam (zV os) top) (zWt t1 t2 t3)) - zPh os k (zWt t1 t2 t3)) (by first | (rw [hWv]; dsimp only; omega) | (rw [hv0]; dsimp only; omega) | (have hle9 := vam_le (zV os) top (((zWt t1 t2 t3).1.take i).foldl (vam (zV os) top) (zWt t1 t2 t3)) (tV (te t18 i)); rw [← hWn] at hle9; have q := zPc_le hle9; dsimp only; omega)) (by first | (rw [hWv]; dsimp only; omega) | (rw [hv0]; dsimp only; omega) | (have hle9 := vam_le (zV os) top (((zWt t1 t2 t3).1.take i).foldl (vam (zV os) top) (zWt t1 t2 t3)) (tV (te t18 i)); rw [← hWn] at hle9; have q := zPh_le (os := os) (k := k) hle9; dsimp only; omega)) ?_
                exact ih Gv (i + 1) ro8 d18 d28 d38 t18 t28 t38 _ _ (by omega) (by omega) (hC8) (hf8) (by rw [hv0]; exact hW8) hG hS ls (lv_sub hl [3, 0] rfl)
            · have hG : zP E Gv H := eg63 ▸ hG
              refine zr_none er63 ?_
              have hv0 : ((zWt t1 t2 t3).1.take (i + 1)).foldl (vam (zV os) top) (zWt t1 t2 t3) = ((zWt t1 t2 t3).1.take i).foldl (vam (zV os) top) (zWt t1 t2 t3) := by rw [hWn]; exact vam_0 (fun t => by rw [etg]; exact zV_nil hitn)
              refine lv_astore_nN (lv' := [(3, .null), (2, .ref (tA (te t18 i))), (0, .ref (k 0)), (1, .int (nI i))]) hx hb d_An_addAddresses_66 rfl hl (by decide) rfl (fun ls hl => ?_)
              refine lv_aload_n hx hb d_An_addAddresses_67 rfl (lv_at hl 2 rfl) ?_
              refine lv_aload_nN hx hb d_An_addAddresses_68 rfl (lv_at hl 0 rfl) ?_
              refine lv_ifnullN (tgt := 79) hx hb d_An_addAddresses_69 (by decide) ?_
              refine lv_null hx hb d_An_addAddresses_79 ?_
              refine lv_goto (tgt := 84) hx hb d_An_addAddresses_80 (by decide) ?_
              have hGo84 := hG
              refine zk_v (va_runV (As := [.null]) (rest := []) ⟨hx, hb, hml, hown, hts⟩ (t_An_addAddressesOf_n l E Gv (k 0) _ ha18) (zcV 1 hts w_1138 w_1140 wp_19 w_28 w_1141 (by decide +kernel) ⟨Nat.le_of_ble_eq_true rfl, Nat.le_of_ble_eq_true rfl⟩) (zc_preV hbase hK hN hQ hG hS ha18 rfl) rfl rfl hl.1 rfl (lv_room (Nat.le_of_ble_eq_true rfl)) d_An_addAddresses_84 ⟨(by dsimp only; omega), (by dsimp only; omega)⟩) hS (fun G84 H locs hp84 hG hS => ?_)
              have hG : zP E Gv H := hp84 ▸ hG
              refine lv_iinc (v := nI (i + 1)) (lv' := [(1, .int (nI (i + 1))), (3, .null), (2, .ref (tA (te t18 i))), (0, .ref (k 0))]) hx hb d_An_addAddresses_87 hl (k := 3) rfl (nI_add i 1) (by decide) rfl (fun ls hl => ?_)
              refine lv_goto (tgt := 2) hx hb d_An_addAddresses_90 (by decide) ?_
              refine zW_more (cells2 := zPc (((zWt t1 t2 t3).1.take (i + 1)).foldl (vam (zV os) top) (zWt t1 t2 t3)) - zPc (zWt t1 t2 t3)) (slots2 := zPh os k (((zWt t1 t2 t3).1.take (i + 1)).foldl (vam (zV os) top) (zWt t1 t2 t3)) - zPh os k (zWt t1 t2 t3)) (by first | (rw [hWv]; dsimp only; omega) | (rw [hv0]; dsimp only; omega) | (have hle9 := vam_le (zV os) top (((zWt t1 t2 t3).1.take i).foldl (vam (zV os) top) (zWt t1 t2 t3)) (tV (te t18 i)); rw [← hWn] at hle9; have q := zPc_le hle9; dsimp only; omega)) (by first | (rw [hWv]; dsimp only; omega) | (rw [hv0]; dsimp only; omega) | (have hle9 := vam_le (zV os) top (((zWt t1 t2 t3).1.take i).foldl (vam (zV os) top) (zWt t1 t2 t3)) (tV (te t18 i)); rw [← hWn] at hle9; have q := zPh_le (os := os) (k := k) hle9; dsimp only; omega)) ?_
              exact ih Gv (i + 1) ro8 d18 d28 d38 t18 t28 t38 _ _ (by omega) (by omega) (hC8) (hf8) (by rw [hv0]; exact hW8) hG hS ls (lv_sub hl [3, 0] rfl)
          · refine lv_aload_n hx hb d_An_addAddresses_34 rfl (lv_at hl 0 rfl) ?_
            refine zg_get (ci := 8) (C := "ZoneAnswers$Told") (T := T_To) (N := 4) hx hb hts zi_To hown hK hG htr8.1 rfl 1 (by decide) (hts _ w_1051) (fun _ h9 => h9) rfl d_An_addAddresses_35 ?_
            refine lv_bipush (v := 15) hx hb d_An_addAddresses_38 (by decide) ?_
            refine lv_icmp_eq (tgt := 52) hx hb d_An_addAddresses_40 (by decide) (fun c40 => ?_) (fun c40 => ?_)
            · refine lv_aload_n hx hb d_An_addAddresses_52 rfl (lv_at hl 1 rfl) ?_
              refine zg_get (ci := 1) (C := "ZoneAnswers$Answer") (T := T_An) (N := 6) hx hb hts zi_An hown hK hG ha18 rfl 0 (by decide) (hts _ w_684) (fun _ h9 => h9) rfl d_An_addAddresses_53 ?_
              refine lv_aload_n hx hb d_An_addAddresses_56 rfl (lv_at hl 0 rfl) ?_
              have hty9 : tT (te t18 i) = 2 ∨ tT (te t18 i) = 15 ∨ tT (te t18 i) = 33 := by first | exact Or.inl c31 | exact Or.inr (Or.inl c40) | exact Or.inr (Or.inr c49)
              obtain ⟨lsd, ed1, ed2, ed3⟩ := hT18 _ (te_mem hin8) (by rcases hty9 with z | z | z; exact Or.inl z; exact Or.inr (Or.inr (Or.inr (Or.inl z))); exact Or.inr (Or.inr (Or.inr (Or.inr z))))
              obtain ⟨bd9, yt9, hdc9, hNt9⟩ := htr8.2.2.1.tg ed1
              obtain ⟨bt9, ft9, hq19, hq29, hq39, hq49, hq59, -⟩ := id hNt9
              have etg : vtg (tV (te t18 i)).2.1 (tV (te t18 i)).2.2.2 = lsd := vnm_y ed2 ed3
              refine zg_get (ci := 8) (C := "ZoneAnswers$Told") (T := T_To) (N := 4) hx hb hts zi_To hown hK hG htr8.1 rfl 3 (by decide) (hts _ w_1056) (fun _ h9 => h9) rfl d_An_addAddresses_57 ?_
              refine zg_get (ci := 2) (C := "ZoneAnswers$Datum") (T := T_Da) (N := 2) hx hb hts zi_Da hown hK hG hdc9 rfl 1 (by decide) (hts _ w_144) (fun _ h9 => h9) rfl d_An_addAddresses_60 ?_
              have hGo63 := hG
              refine zk_q (va_runV (As := [.ref yt9]) (rest := []) ⟨hx, hb, hml, hown, hts⟩ (t_Zo_at_t l hz18 hz38 hne hso hq19 hq29 hq39 hq49 hq59) (zcV 1 hts w_1137 w_880 w_881 w_3 w_882 (by decide +kernel) ⟨Nat.le_of_ble_eq_true rfl, Nat.le_of_ble_eq_true rfl⟩) (zc_preV hbase hK hN hQ hG hS hz18 rfl) rfl rfl hl.1 rfl (lv_room (Nat.le_of_ble_eq_true rfl)) d_An_addAddresses_63 ⟨(by dsimp only; omega), (by dsimp only; omega)⟩) hS (fun r63 G63 H locs hp63 hG hS => ?_)
              rcases hp63 with ⟨⟨it, hit1, hit2, er63⟩ | ⟨hitn, er63⟩, eg63⟩
              · have hG : zP E Gv H := eg63 ▸ hG
                refine zr_some (a := oA (oe os it)) er63 ?_
                refine lv_astore_n (lv' := [(3, .ref (oA (oe os it))), (2, .ref (tA (te t18 i))), (0, .ref (k 0)), (1, .int (nI i))]) hx hb d_An_addAddresses_66 rfl hl (by decide) rfl (fun ls hl => ?_)
                refine lv_aload_n hx hb d_An_addAddresses_67 rfl (lv_at hl 2 rfl) ?_
                refine lv_aload_n hx hb d_An_addAddresses_68 rfl (lv_at hl 0 rfl) ?_
                refine lv_ifnull hx hb d_An_addAddresses_69 ?_
                refine lv_aload_n hx hb d_An_addAddresses_72 rfl (lv_at hl 0 rfl) ?_
                refine zg_get (ci := 4) (C := "ZoneAnswers$Owner") (T := T_Ow) (N := 3) hx hb hts zi_Ow hown hK hG (hz38.2 _ (oe_mem hit1)).1 rfl 2 (by decide) (hts _ w_211) (fun _ h9 => h9) rfl d_An_addAddresses_73 ?_
                rcases hq76 : oC (oe os it) with _ | x76
                · refine W.eq (g2 := F0 m 76 ls [.null, .ref (k 0)]) (by first | rfl | (rw [hq76]; rfl)) ?_
                  have hvc : vco (zV os) top lsd = none := by rw [← hit2]; exact (hGZ.c0 hit1).mp hq76
                  have hWv : ((zWt t1 t2 t3).1.take (i + 1)).foldl (vam (zV os) top) (zWt t1 t2 t3) = vao (zV os) (((zWt t1 t2 t3).1.take i).foldl (vam (zV os) top) (zWt t1 t2 t3)) lsd := by rw [hWn, vam_y hty9 (by rw [etg]; exact hvc), etg]
                  have hle9 : zLe (vao (zV os) (((zWt t1 t2 t3).1.take i).foldl (vam (zV os) top) (zWt t1 t2 t3)) lsd) ((zWt t1 t2 t3).1.foldl (vam (zV os) top) (zWt t1 t2 t3)) := by rw [← hWv]; exact vfold_tk (fun W e => vam_le (zV os) top W e)
                  have hpa9 := zPh_le (os := os) (k := k) hle9
                  have hpd9 := zPc_le hle9
                  have hle0 := vao_le (zV os) (((zWt t1 t2 t3).1.take i).foldl (vam (zV os) top) (zWt t1 t2 t3)) lsd
                  have hpa0 := zPh_le (os := os) (k := k) hle0
                  have hpd0 := zPc_le hle0
                  refine lv_ifnullN (tgt := 83) hx hb d_An_addAddresses_76 (by decide) ?_
                  refine lv_aload_n hx hb d_An_addAddresses_83 rfl (lv_at hl 0 rfl) ?_
                  have hq84 := t_An_addAddressesOf l E Gv k ro8 rc ty se os top d18 d28 d38 t18 t28 t38 hC8 hGZ hdw hzn it hit1 (by rw [hW8]; exact by rw [hit2]; exact hB9.le hle9)
                  rw [hW8] at hq84
                  rw [hit2] at hq84
                  have hGo84 := hG
                  refine zk_v (va_runV (As := [.ref (oA (oe os it))]) (rest := []) ⟨hx, hb, hml, hown, hts⟩ (hq84) (zcV 1 hts w_1138 w_1140 wp_19 w_28 w_1141 (by decide +kernel) ⟨Nat.le_of_ble_eq_true rfl, Nat.le_of_ble_eq_true rfl⟩) (zc_preV hbase hK hN hQ hG hS ha18 rfl) rfl rfl hl.1 rfl (lv_room (Nat.le_of_ble_eq_true rfl)) d_An_addAddresses_84 ⟨(by dsimp only; omega), (by dsimp only; omega)⟩) hS (fun G84 H locs hp84 hG hS => ?_)
                  obtain ⟨ro_84, d1_84, d2_84, d3_84, t1_84, t2_84, t3_84, hC_84, hf0_84, hW0_84⟩ := hp84
                  have hf_84 : zfr ro zKa G ro_84 G84 := hf8.tr hf0_84
                  have hW_84 : zWt t1_84 t2_84 t3_84 = vao (zV os) (((zWt t1 t2 t3).1.take i).foldl (vam (zV os) top) (zWt t1 t2 t3)) lsd := hW0_84
                  have hE_84 : G84 (E.2.2.2 0) = none := hQ.out hG
                  obtain ⟨⟨hz1_84, hz2_84, hz3_84, hz4_84, hz5_84, soa_84, u9_84, hz6_84, hz7_84, hz8_84, hz9_84, hzA_84⟩, ⟨ha1_84, ha2_84, hs1_84, hs2_84, hs3_84⟩, hT1_84⟩ := id hC_84
                  obtain ⟨bo_84, fo_84, hno1_84, hno2_84, hno3_84, hno4_84, hno5_84, -⟩ := id hz4_84
                  have hl_84 := zWt_l t1_84 t2_84 t3_84
                  refine lv_iinc (v := nI (i + 1)) (lv' := [(1, .int (nI (i + 1))), (3, .ref (oA (oe os it))), (2, .ref (tA (te t18 i))), (0, .ref (k 0))]) hx hb d_An_addAddresses_87 hl (k := 3) rfl (nI_add i 1) (by decide) rfl (fun ls hl => ?_)
                  refine lv_goto (tgt := 2) hx hb d_An_addAddresses_90 (by decide) ?_
                  refine zW_more (cells2 := zPc (((zWt t1 t2 t3).1.take (i + 1)).foldl (vam (zV os) top) (zWt t1 t2 t3)) - zPc (zWt t1 t2 t3)) (slots2 := zPh os k (((zWt t1 t2 t3).1.take (i + 1)).foldl (vam (zV os) top) (zWt t1 t2 t3)) - zPh os k (zWt t1 t2 t3)) (by first | (rw [hWv]; dsimp only; omega) | (rw [hv0]; dsimp only; omega) | (have hle9 := vam_le (zV os) top (((zWt t1 t2 t3).1.take i).foldl (vam (zV os) top) (zWt t1 t2 t3)) (tV (te t18 i)); rw [← hWn] at hle9; have q := zPc_le hle9; dsimp only; omega)) (by first | (rw [hWv]; dsimp only; omega) | (rw [hv0]; dsimp only; omega) | (have hle9 := vam_le (zV os) top (((zWt t1 t2 t3).1.take i).foldl (vam (zV os) top) (zWt t1 t2 t3)) (tV (te t18 i)); rw [← hWn] at hle9; have q := zPh_le (os := os) (k := k) hle9; dsimp only; omega)) ?_
                  exact ih G84 (i + 1) ro_84 d1_84 d2_84 d3_84 t1_84 t2_84 t3_84 _ _ (by omega) (by omega) (hC_84) (hf_84) (by rw [hWv]; exact hW_84) hG hS ls (lv_sub hl [3, 0] rfl)
                · refine W.eq (g2 := F0 m 76 ls [.ref x76, .ref (k 0)]) (by first | rfl | (rw [hq76]; rfl)) ?_
                  have hvc : ¬ vco (zV os) top lsd = none := fun z => by have q := (hGZ.c0 hit1).mpr (by rw [hit2]; exact z); rw [hq76] at q; cases q
                  have hv0 : ((zWt t1 t2 t3).1.take (i + 1)).foldl (vam (zV os) top) (zWt t1 t2 t3) = ((zWt t1 t2 t3).1.take i).foldl (vam (zV os) top) (zWt t1 t2 t3) := by rw [hWn]; exact vam_n (Or.inr (by rw [etg]; exact hvc))
                  refine lv_ifnull hx hb d_An_addAddresses_76 ?_
                  refine lv_null hx hb d_An_addAddresses_79 ?_
                  refine lv_goto (tgt := 84) hx hb d_An_addAddresses_80 (by decide) ?_
                  have hGo84 := hG
                  refine zk_v (va_runV (As := [.null]) (rest := []) ⟨hx, hb, hml, hown, hts⟩ (t_An_addAddressesOf_n l E Gv (k 0) _ ha18) (zcV 1 hts w_1138 w_1140 wp_19 w_28 w_1141 (by decide +kernel) ⟨Nat.le_of_ble_eq_true rfl, Nat.le_of_ble_eq_true rfl⟩) (zc_preV hbase hK hN hQ hG hS ha18 rfl) rfl rfl hl.1 rfl (lv_room (Nat.le_of_ble_eq_true rfl)) d_An_addAddresses_84 ⟨(by dsimp only; omega), (by dsimp only; omega)⟩) hS (fun G84 H locs hp84 hG hS => ?_)
                  have hG : zP E Gv H := hp84 ▸ hG
                  refine lv_iinc (v := nI (i + 1)) (lv' := [(1, .int (nI (i + 1))), (3, .ref (oA (oe os it))), (2, .ref (tA (te t18 i))), (0, .ref (k 0))]) hx hb d_An_addAddresses_87 hl (k := 3) rfl (nI_add i 1) (by decide) rfl (fun ls hl => ?_)
                  refine lv_goto (tgt := 2) hx hb d_An_addAddresses_90 (by decide) ?_
                  refine zW_more (cells2 := zPc (((zWt t1 t2 t3).1.take (i + 1)).foldl (vam (zV os) top) (zWt t1 t2 t3)) - zPc (zWt t1 t2 t3)) (slots2 := zPh os k (((zWt t1 t2 t3).1.take (i + 1)).foldl (vam (zV os) top) (zWt t1 t2 t3)) - zPh os k (zWt t1 t2 t3)) (by first | (rw [hWv]; dsimp only; omega) | (rw [hv0]; dsimp only; omega) | (have hle9 := vam_le (zV os) top (((zWt t1 t2 t3).1.take i).foldl (vam (zV os) top) (zWt t1 t2 t3)) (tV (te t18 i)); rw [← hWn] at hle9; have q := zPc_le hle9; dsimp only; omega)) (by first | (rw [hWv]; dsimp only; omega) | (rw [hv0]; dsimp only; omega) | (have hle9 := vam_le (zV os) top (((zWt t1 t2 t3).1.take i).foldl (vam (zV os) top) (zWt t1 t2 t3)) (tV (te t18 i)); rw [← hWn] at hle9; have q := zPh_le (os := os) (k := k) hle9; dsimp only; omega)) ?_
                  exact ih Gv (i + 1) ro8 d18 d28 d38 t18 t28 t38 _ _ (by omega) (by omega) (hC8) (hf8) (by rw [hv0]; exact hW8) hG hS ls (lv_sub hl [3, 0] rfl)
              · have hG : zP E Gv H := eg63 ▸ hG
                refine zr_none er63 ?_
                have hv0 : ((zWt t1 t2 t3).1.take (i + 1)).foldl (vam (zV os) top) (zWt t1 t2 t3) = ((zWt t1 t2 t3).1.take i).foldl (vam (zV os) top) (zWt t1 t2 t3) := by rw [hWn]; exact vam_0 (fun t => by rw [etg]; exact zV_nil hitn)
                refine lv_astore_nN (lv' := [(3, .null), (2, .ref (tA (te t18 i))), (0, .ref (k 0)), (1, .int (nI i))]) hx hb d_An_addAddresses_66 rfl hl (by decide) rfl (fun ls hl => ?_)
                refine lv_aload_n hx hb d_An_addAddresses_67 rfl (lv_at hl 2 rfl) ?_
                refine lv_aload_nN hx hb d_An_addAddresses_68 rfl (lv_at hl 0 rfl) ?_
                refine lv_ifnullN (tgt := 79) hx hb d_An_addAddresses_69 (by decide) ?_
                refine lv_null hx hb d_An_addAddresses_79 ?_
                refine lv_goto (tgt := 84) hx hb d_An_addAddresses_80 (by decide) ?_
                have hGo84 := hG
                refine zk_v (va_runV (As := [.null]) (rest := []) ⟨hx, hb, hml, hown, hts⟩ (t_An_addAddressesOf_n l E Gv (k 0) _ ha18) (zcV 1 hts w_1138 w_1140 wp_19 w_28 w_1141 (by decide +kernel) ⟨Nat.le_of_ble_eq_true rfl, Nat.le_of_ble_eq_true rfl⟩) (zc_preV hbase hK hN hQ hG hS ha18 rfl) rfl rfl hl.1 rfl (lv_room (Nat.le_of_ble_eq_true rfl)) d_An_addAddresses_84 ⟨(by dsimp only; omega), (by dsimp only; omega)⟩) hS (fun G84 H locs hp84 hG hS => ?_)
                have hG : zP E Gv H := hp84 ▸ hG
                refine lv_iinc (v := nI (i + 1)) (lv' := [(1, .int (nI (i + 1))), (3, .null), (2, .ref (tA (te t18 i))), (0, .ref (k 0))]) hx hb d_An_addAddresses_87 hl (k := 3) rfl (nI_add i 1) (by decide) rfl (fun ls hl => ?_)
                refine lv_goto (tgt := 2) hx hb d_An_addAddresses_90 (by decide) ?_
                refine zW_more (cells2 := zPc (((zWt t1 t2 t3).1.take (i + 1)).foldl (vam (zV os) top) (zWt t1 t2 t3)) - zPc (zWt t1 t2 t3)) (slots2 := zPh os k (((zWt t1 t2 t3).1.take (i + 1)).foldl (vam (zV os) top) (zWt t1 t2 t3)) - zPh os k (zWt t1 t2 t3)) (by first | (rw [hWv]; dsimp only; omega) | (rw [hv0]; dsimp only; omega) | (have hle9 := vam_le (zV os) top (((zWt t1 t2 t3).1.take i).foldl (vam (zV os) top) (zWt t1 t2 t3)) (tV (te t18 i)); rw [← hWn] at hle9; have q := zPc_le hle9; dsimp only; omega)) (by first | (rw [hWv]; dsimp only; omega) | (rw [hv0]; dsimp only; omega) | (have hle9 := vam_le (zV os) top (((zWt t1 t2 t3).1.take i).foldl (vam (zV os) top) (zWt t1 t2 t3)) (tV (te t18 i)); rw [← hWn] at hle9; have q := zPh_le (os := os) (k := k) hle9; dsimp only; omega)) ?_
                exact ih Gv (i + 1) ro8 d18 d28 d38 t18 t28 t38 _ _ (by omega) (by omega) (hC8) (hf8) (by rw [hv0]; exact hW8) hG hS ls (lv_sub hl [3, 0] rfl)
            · refine lv_aload_n hx hb d_An_addAddresses_43 rfl (lv_at hl 0 rfl) ?_
              refine zg_get (ci := 8) (C := "ZoneAnswers$Told") (T := T_To) (N := 4) hx hb hts zi_To hown hK hG htr8.1 rfl 1 (by decide) (hts _ w_1051) (fun _ h9 => h9) rfl d_An_addAddresses_44 ?_
              refine lv_bipush (v := 33) hx hb d_An_addAddresses_47 (by decide) ?_
              refine lv_icmp_ne (tgt := 87) hx hb d_An_addAddresses_49 (by decide) (fun c49 => ?_) (fun c49 => ?_)
              · refine lv_iinc (v := nI (i + 1)) (lv' := [(1, .int (nI (i + 1))), (2, .ref (tA (te t18 i))), (0, .ref (k 0))]) hx hb d_An_addAddresses_87 hl (k := 2) rfl (nI_add i 1) (by decide) rfl (fun ls hl => ?_)
                refine lv_goto (tgt := 2) hx hb d_An_addAddresses_90 (by decide) ?_
                refine zW_more (cells2 := zPc (((zWt t1 t2 t3).1.take (i + 1)).foldl (vam (zV os) top) (zWt t1 t2 t3)) - zPc (zWt t1 t2 t3)) (slots2 := zPh os k (((zWt t1 t2 t3).1.take (i + 1)).foldl (vam (zV os) top) (zWt t1 t2 t3)) - zPh os k (zWt t1 t2 t3)) (by first | (rw [hWv]; dsimp only; omega) | (rw [hv0]; dsimp only; omega) | (have hle9 := vam_le (zV os) top (((zWt t1 t2 t3).1.take i).foldl (vam (zV os) top) (zWt t1 t2 t3)) (tV (te t18 i)); rw [← hWn] at hle9; have q := zPc_le hle9; dsimp only; omega)) (by first | (rw [hWv]; dsimp only; omega) | (rw [hv0]; dsimp only; omega) | (have hle9 := vam_le (zV os) top (((zWt t1 t2 t3).1.take i).foldl (vam (zV os) top) (zWt t1 t2 t3)) (tV (te t18 i)); rw [← hWn] at hle9; have q := zPh_le (os := os) (k := k) hle9; dsimp only; omega)) ?_
                exact ih Gv (i + 1) ro8 d18 d28 d38 t18 t28 t38 _ _ (by omega) (by omega) (hC8) (hf8) (by rw [hWn, vam_n (Or.inl (fun z => by rcases z with z | z | z; exact c31 z; exact c40 z; exact c49 z))]; exact hW8) hG hS ls (lv_sub hl [2, 0] rfl)
              · refine lv_aload_n hx hb d_An_addAddresses_52 rfl (lv_at hl 1 rfl) ?_
                refine zg_get (ci := 1) (C := "ZoneAnswers$Answer") (T := T_An) (N := 6) hx hb hts zi_An hown hK hG ha18 rfl 0 (by decide) (hts _ w_684) (fun _ h9 => h9) rfl d_An_addAddresses_53 ?_
                refine lv_aload_n hx hb d_An_addAddresses_56 rfl (lv_at hl 0 rfl) ?_
                have hty9 : tT (te t18 i) = 2 ∨ tT (te t18 i) = 15 ∨ tT (te t18 i) = 33 := by first | exact Or.inl c31 | exact Or.inr (Or.inl c40) | exact Or.inr (Or.inr c49)
                obtain ⟨lsd, ed1, ed2, ed3⟩ := hT18 _ (te_mem hin8) (by rcases hty9 with z | z | z; exact Or.inl z; exact Or.inr (Or.inr (Or.inr (Or.inl z))); exact Or.inr (Or.inr (Or.inr (Or.inr z))))
                obtain ⟨bd9, yt9, hdc9, hNt9⟩ := htr8.2.2.1.tg ed1
                obtain ⟨bt9, ft9, hq19, hq29, hq39, hq49, hq59, -⟩ := id hNt9
                have etg : vtg (tV (te t18 i)).2.1 (tV (te t18 i)).2.2.2 = lsd := vnm_y ed2 ed3
                refine zg_get (ci := 8) (C := "ZoneAnswers$Told") (T := T_To) (N := 4) hx hb hts zi_To hown hK hG htr8.1 rfl 3 (by decide) (hts _ w_1056) (fun _ h9 => h9) rfl d_An_addAddresses_57 ?_
                refine zg_get (ci := 2) (C := "ZoneAnswers$Datum") (T := T_Da) (N := 2) hx hb hts zi_Da hown hK hG hdc9 rfl 1 (by decide) (hts _ w_144) (fun _ h9 => h9) rfl d_An_addAddresses_60 ?_
                have hGo63 := hG
                refine zk_q (va_runV (As := [.ref yt9]) (rest := []) ⟨hx, hb, hml, hown, hts⟩ (t_Zo_at_t l hz18 hz38 hne hso hq19 hq29 hq39 hq49 hq59) (zcV 1 hts w_1137 w_880 w_881 w_3 w_882 (by decide +kernel) ⟨Nat.le_of_ble_eq_true rfl, Nat.le_of_ble_eq_true rfl⟩) (zc_preV hbase hK hN hQ hG hS hz18 rfl) rfl rfl hl.1 rfl (lv_room (Nat.le_of_ble_eq_true rfl)) d_An_addAddresses_63 ⟨(by dsimp only; omega), (by dsimp only; omega)⟩) hS (fun r63 G63 H locs hp63 hG hS => ?_)
                rcases hp63 with ⟨⟨it, hit1, hit2, er63⟩ | ⟨hitn, er63⟩, eg63⟩
                · have hG : zP E Gv H := eg63 ▸ hG
                  refine zr_some (a := oA (oe os it)) er63 ?_
                  refine lv_astore_n (lv' := [(3, .ref (oA (oe os it))), (2, .ref (tA (te t18 i))), (0, .ref (k 0)), (1, .int (nI i))]) hx hb d_An_addAddresses_66 rfl hl (by decide) rfl (fun ls hl => ?_)
                  refine lv_aload_n hx hb d_An_addAddresses_67 rfl (lv_at hl 2 rfl) ?_
                  refine lv_aload_n hx hb d_An_addAddresses_68 rfl (lv_at hl 0 rfl) ?_
                  refine lv_ifnull hx hb d_An_addAddresses_69 ?_
                  refine lv_aload_n hx hb d_An_addAddresses_72 rfl (lv_at hl 0 rfl) ?_
                  refine zg_get (ci := 4) (C := "ZoneAnswers$Owner") (T := T_Ow) (N := 3) hx hb hts zi_Ow hown hK hG (hz38.2 _ (oe_mem hit1)).1 rfl 2 (by decide) (hts _ w_211) (fun _ h9 => h9) rfl d_An_addAddresses_73 ?_
                  rcases hq76 : oC (oe os it) with _ | x76
                  · refine W.eq (g2 := F0 m 76 ls [.null, .ref (k 0)]) (by first | rfl | (rw [hq76]; rfl)) ?_
                    have hvc : vco (zV os) top lsd = none := by rw [← hit2]; exact (hGZ.c0 hit1).mp hq76
                    have hWv : ((zWt t1 t2 t3).1.take (i + 1)).foldl (vam (zV os) top) (zWt t1 t2 t3) = vao (zV os) (((zWt t1 t2 t3).1.take i).foldl (vam (zV os) top) (zWt t1 t2 t3)) lsd := by rw [hWn, vam_y hty9 (by rw [etg]; exact hvc), etg]
                    have hle9 : zLe (vao (zV os) (((zWt t1 t2 t3).1.take i).foldl (vam (zV os) top) (zWt t1 t2 t3)) lsd) ((zWt t1 t2 t3).1.foldl (vam (zV os) top) (zWt t1 t2 t3)) := by rw [← hWv]; exact vfold_tk (fun W e => vam_le (zV os) top W e)
                    have hpa9 := zPh_le (os := os) (k := k) hle9
                    have hpd9 := zPc_le hle9
                    have hle0 := vao_le (zV os) (((zWt t1 t2 t3).1.take i).foldl (vam (zV os) top) (zWt t1 t2 t3)) lsd
                    have hpa0 := zPh_le (os := os) (k := k) hle0
                    have hpd0 := zPc_le hle0
                    refine lv_ifnullN (tgt := 83) hx hb d_An_addAddresses_76 (by decide) ?_
                    refine lv_aload_n hx hb d_An_addAddresses_83 rfl (lv_at hl 0 rfl) ?_
                    have hq84 := t_An_addAddressesOf l E Gv k ro8 rc ty se os top d18 d28 d38 t18 t28 t38 hC8 hGZ hdw hzn it hit1 (by rw [hW8]; exact by rw [hit2]; exact hB9.le hle9)
                    rw [hW8] at hq84
                    rw [hit2] at hq84
                    have hGo84 := hG
                    refine zk_v (va_runV (As := [.ref (oA (oe os it))]) (rest := []) ⟨hx, hb, hml, hown, hts⟩ (hq84) (zcV 1 hts w_1138 w_1140 wp_19 w_28 w_1141 (by decide +kernel) ⟨Nat.le_of_ble_eq_true rfl, Nat.le_of_ble_eq_true rfl⟩) (zc_preV hbase hK hN hQ hG hS ha18 rfl) rfl rfl hl.1 rfl (lv_room (Nat.le_of_ble_eq_true rfl)) d_An_addAddresses_84 ⟨(by dsimp only; omega), (by dsimp only; omega)⟩) hS (fun G84 H locs hp84 hG hS => ?_)
                    obtain ⟨ro_84, d1_84, d2_84, d3_84, t1_84, t2_84, t3_84, hC_84, hf0_84, hW0_84⟩ := hp84
                    have hf_84 : zfr ro zKa G ro_84 G84 := hf8.tr hf0_84
                    have hW_84 : zWt t1_84 t2_84 t3_84 = vao (zV os) (((zWt t1 t2 t3).1.take i).foldl (vam (zV os) top) (zWt t1 t2 t3)) lsd := hW0_84
                    have hE_84 : G84 (E.2.2.2 0) = none := hQ.out hG
                    obtain ⟨⟨hz1_84, hz2_84, hz3_84, hz4_84, hz5_84, soa_84, u9_84, hz6_84, hz7_84, hz8_84, hz9_84, hzA_84⟩, ⟨ha1_84, ha2_84, hs1_84, hs2_84, hs3_84⟩, hT1_84⟩ := id hC_84
                    obtain ⟨bo_84, fo_84, hno1_84, hno2_84, hno3_84, hno4_84, hno5_84, -⟩ := id hz4_84
                    have hl_84 := zWt_l t1_84 t2_84 t3_84
                    refine lv_iinc (v := nI (i + 1)) (lv' := [(1, .int (nI (i + 1))), (3, .ref (oA (oe os it))), (2, .ref (tA (te t18 i))), (0, .ref (k 0))]) hx hb d_An_addAddresses_87 hl (k := 3) rfl (nI_add i 1) (by decide) rfl (fun ls hl => ?_)
                    refine lv_goto (tgt := 2) hx hb d_An_addAddresses_90 (by decide) ?_
                    refine zW_more (cells2 := zPc (((zWt t1 t2 t3).1.take (i + 1)).foldl (vam (zV os) top) (zWt t1 t2 t3)) - zPc (zWt t1 t2 t3)) (slots2 := zPh os k (((zWt t1 t2 t3).1.take (i + 1)).foldl (vam (zV os) top) (zWt t1 t2 t3)) - zPh os k (zWt t1 t2 t3)) (by first | (rw [hWv]; dsimp only; omega) | (rw [hv0]; dsimp only; omega) | (have hle9 := vam_le (zV os) top (((zWt t1 t2 t3).1.take i).foldl (vam (zV os) top) (zWt t1 t2 t3)) (tV (te t18 i)); rw [← hWn] at hle9; have q := zPc_le hle9; dsimp only; omega)) (by first | (rw [hWv]; dsimp only; omega) | (rw [hv0]; dsimp only; omega) | (have hle9 := vam_le (zV os) top (((zWt t1 t2 t3).1.take i).foldl (vam (zV os) top) (zWt t1 t2 t3)) (tV (te t18 i)); rw [← hWn] at hle9; have q := zPh_le (os := os) (k := k) hle9; dsimp only; omega)) ?_
                    exact ih G84 (i + 1) ro_84 d1_84 d2_84 d3_84 t1_84 t2_84 t3_84 _ _ (by omega) (by omega) (hC_84) (hf_84) (by rw [hWv]; exact hW_84) hG hS ls (lv_sub hl [3, 0] rfl)
                  · refine W.eq (g2 := F0 m 76 ls [.ref x76, .ref (k 0)]) (by first | rfl | (rw [hq76]; rfl)) ?_
                    have hvc : ¬ vco (zV os) top lsd = none := fun z => by have q := (hGZ.c0 hit1).mpr (by rw [hit2]; exact z); rw [hq76] at q; cases q
                    have hv0 : ((zWt t1 t2 t3).1.take (i + 1)).foldl (vam (zV os) top) (zWt t1 t2 t3) = ((zWt t1 t2 t3).1.take i).foldl (vam (zV os) top) (zWt t1 t2 t3) := by rw [hWn]; exact vam_n (Or.inr (by rw [etg]; exact hvc))
                    refine lv_ifnull hx hb d_An_addAddresses_76 ?_
                    refine lv_null hx hb d_An_addAddresses_79 ?_
                    refine lv_goto (tgt := 84) hx hb d_An_addAddresses_80 (by decide) ?_
                    have hGo84 := hG
                    refine zk_v (va_runV (As := [.null]) (rest := []) ⟨hx, hb, hml, hown, hts⟩ (t_An_addAddressesOf_n l E Gv (k 0) _ ha18) (zcV 1 hts w_1138 w_1140 wp_19 w_28 w_1141 (by decide +kernel) ⟨Nat.le_of_ble_eq_true rfl, Nat.le_of_ble_eq_true rfl⟩) (zc_preV hbase hK hN hQ hG hS ha18 rfl) rfl rfl hl.1 rfl (lv_room (Nat.le_of_ble_eq_true rfl)) d_An_addAddresses_84 ⟨(by dsimp only; omega), (by dsimp only; omega)⟩) hS (fun G84 H locs hp84 hG hS => ?_)
                    have hG : zP E Gv H := hp84 ▸ hG
                    refine lv_iinc (v := nI (i + 1)) (lv' := [(1, .int (nI (i + 1))), (3, .ref (oA (oe os it))), (2, .ref (tA (te t18 i))), (0, .ref (k 0))]) hx hb d_An_addAddresses_87 hl (k := 3) rfl (nI_add i 1) (by decide) rfl (fun ls hl => ?_)
                    refine lv_goto (tgt := 2) hx hb d_An_addAddresses_90 (by decide) ?_
                    refine zW_more (cells2 := zPc (((zWt t1 t2 t3).1.take (i + 1)).foldl (vam (zV os) top) (zWt t1 t2 t3)) - zPc (zWt t1 t2 t3)) (slots2 := zPh os k (((zWt t1 t2 t3).1.take (i + 1)).foldl (vam (zV os) top) (zWt t1 t2 t3)) - zPh os k (zWt t1 t2 t3)) (by first | (rw [hWv]; dsimp only; omega) | (rw [hv0]; dsimp only; omega) | (have hle9 := vam_le (zV os) top (((zWt t1 t2 t3).1.take i).foldl (vam (zV os) top) (zWt t1 t2 t3)) (tV (te t18 i)); rw [← hWn] at hle9; have q := zPc_le hle9; dsimp only; omega)) (by first | (rw [hWv]; dsimp only; omega) | (rw [hv0]; dsimp only; omega) | (have hle9 := vam_le (zV os) top (((zWt t1 t2 t3).1.take i).foldl (vam (zV os) top) (zWt t1 t2 t3)) (tV (te t18 i)); rw [← hWn] at hle9; have q := zPh_le (os := os) (k := k) hle9; dsimp only; omega)) ?_
                    exact ih Gv (i + 1) ro8 d18 d28 d38 t18 t28 t38 _ _ (by omega) (by omega) (hC8) (hf8) (by rw [hv0]; exact hW8) hG hS ls (lv_sub hl [3, 0] rfl)
                · have hG : zP E Gv H := eg63 ▸ hG
                  refine zr_none er63 ?_
                  have hv0 : ((zWt t1 t2 t3).1.take (i + 1)).foldl (vam (zV os) top) (zWt t1 t2 t3) = ((zWt t1 t2 t3).1.take i).foldl (vam (zV os) top) (zWt t1 t2 t3) := by rw [hWn]; exact vam_0 (fun t => by rw [etg]; exact zV_nil hitn)
                  refine lv_astore_nN (lv' := [(3, .null), (2, .ref (tA (te t18 i))), (0, .ref (k 0)), (1, .int (nI i))]) hx hb d_An_addAddresses_66 rfl hl (by decide) rfl (fun ls hl => ?_)
                  refine lv_aload_n hx hb d_An_addAddresses_67 rfl (lv_at hl 2 rfl) ?_
                  refine lv_aload_nN hx hb d_An_addAddresses_68 rfl (lv_at hl 0 rfl) ?_
                  refine lv_ifnullN (tgt := 79) hx hb d_An_addAddresses_69 (by decide) ?_
                  refine lv_null hx hb d_An_addAddresses_79 ?_
                  refine lv_goto (tgt := 84) hx hb d_An_addAddresses_80 (by decide) ?_
                  have hGo84 := hG
                  refine zk_v (va_runV (As := [.null]) (rest := []) ⟨hx, hb, hml, hown, hts⟩ (t_An_addAddressesOf_n l E Gv (k 0) _ ha18) (zcV 1 hts w_1138 w_1140 wp_19 w_28 w_1141 (by decide +kernel) ⟨Nat.le_of_ble_eq_true rfl, Nat.le_of_ble_eq_true rfl⟩) (zc_preV hbase hK hN hQ hG hS ha18 rfl) rfl rfl hl.1 rfl (lv_room (Nat.le_of_ble_eq_true rfl)) d_An_addAddresses_84 ⟨(by dsimp only; omega), (by dsimp only; omega)⟩) hS (fun G84 H locs hp84 hG hS => ?_)
                  have hG : zP E Gv H := hp84 ▸ hG
                  refine lv_iinc (v := nI (i + 1)) (lv' := [(1, .int (nI (i + 1))), (3, .null), (2, .ref (tA (te t18 i))), (0, .ref (k 0))]) hx hb d_An_addAddresses_87 hl (k := 3) rfl (nI_add i 1) (by decide) rfl (fun ls hl => ?_)
                  refine lv_goto (tgt := 2) hx hb d_An_addAddresses_90 (by decide) ?_
                  refine zW_more (cells2 := zPc (((zWt t1 t2 t3).1.take (i + 1)).foldl (vam (zV os) top) (zWt t1 t2 t3)) - zPc (zWt t1 t2 t3)) (slots2 := zPh os k (((zWt t1 t2 t3).1.take (i + 1)).foldl (vam (zV os) top) (zWt t1 t2 t3)) - zPh os k (zWt t1 t2 t3)) (by first | (rw [hWv]; dsimp only; omega) | (rw [hv0]; dsimp only; omega) | (have hle9 := vam_le (zV os) top (((zWt t1 t2 t3).1.take i).foldl (vam (zV os) top) (zWt t1 t2 t3)) (tV (te t18 i)); rw [← hWn] at hle9; have q := zPc_le hle9; dsimp only; omega)) (by first | (rw [hWv]; dsimp only; omega) | (rw [hv0]; dsimp only; omega) | (have hle9 := vam_le (zV os) top (((zWt t1 t2 t3).1.take i).foldl (vam (zV os) top) (zWt t1 t2 t3)) (tV (te t18 i)); rw [← hWn] at hle9; have q := zPh_le (os := os) (k := k) hle9; dsimp only; omega)) ?_
                  exact ih Gv (i + 1) ro8 d18 d28 d38 t18 t28 t38 _ _ (by omega) (by omega) (hC8) (hf8) (by rw [hv0]; exact hW8) hG hS ls (lv_sub hl [3, 0] rfl)
        · exact absurd hrn (by rintro (z | z); exact zi_lt0 (by omega) z; exact absurd ((nI_leI (by omega) (by omega)).mp z) (by omega))
  refine zW_more (cells2 := zPc (((zWt t1 t2 t3).1.take 0).foldl (vam (zV os) top) (zWt t1 t2 t3)) - zPc (zWt t1 t2 t3)) (slots2 := zPh os k (((zWt t1 t2 t3).1.take 0).foldl (vam (zV os) top) (zWt t1 t2 t3)) - zPh os k (zWt t1 t2 t3)) (by omega) (by omega) ?_
  exact loop2 _ G 0 ro d1 d2 d3 t1 t2 t3 _ _ (Nat.lt_succ_self _) (Nat.zero_le _) (hCx) (zfr.rf) (rfl) hG hS ls (lv_sub hl [1, 0] rfl)
abbrev rm_An_begin : Room := { frames := 2, cells := 0, slots := 0, locals := 70 }
set_option maxHeartbeats 4000000 in
set_option maxRecDepth 100000 in
/-- Answer.begin(type, secure) -/
theorem t_An_begin (l : Launch) (E : zc_E) (G : zg_G) (k : Nat → Nat) (ro : zRo) (rc ty se : Int32) (os : List zOt) (top : np_N) (d1 d2 d3 : Nat) (t1 t2 t3 : List zTt) (hCx : zCx E G ro k rc ty se os top d1 d2 d3 t1 t2 t3) (hGZ : zGZ os top) (hdw : zdw os) (hzn : znr os < 2000) (ty2 se2 : Int32) (hse2 : se2 = 0 ∨ se2 = 1) : zMv l E y_An_begin c_An_begin 3 rm_An_begin [.ref (k 0), .int ty2, .int se2] G (fun (G2 : zg_G) => ∃ k2, (∀ n, n ≠ 8 → n ≠ 9 → n ≠ 10 → k2 n = k n) ∧ zCx E G2 ro k2 rc ty2 se2 os top d1 d2 d3 [] [] [] ∧ zfr ro zKb G ro G2) := by
  refine zMv.of (by decide) (Nat.le_of_ble_eq_true rfl) ?_
  intro p e s m args below meth c Q hZ hG hret ls hl
  obtain ⟨hx, hb, hr, hts, hown, hlocks, hml, hnm, hbase, hK, hN, hQ⟩ := hZ
  have hl : lv_has ls 3 [(0, .ref (k 0)), (1, .int ty2), (2, .int se2)] := hl
  have hS : zg_S (zc_b E) s.heap s.heap [] := va_S.rf
  obtain ⟨⟨hz1, hz2, hz3, hz4, hz5, soa, u9, hz6, hz7, hz8, hz9, hzA⟩, ⟨ha1, ha2, hs1, hs2, hs3⟩, hT1⟩ := id hCx
  obtain ⟨bo, fo, hno1, hno2, hno3, hno4, hno5, -⟩ := id hz4
  have hne : 0 < os.length := hGZ.2.2.1
  have hsz := hGZ.1.sz
  have hol : os.length ≤ 2000 := by have := hsz.1; omega
  have hso := hGZ.1.1
  have hE00 : G (E.2.2.2 0) = none := hQ.out hG
  have hl0 := zWt_l t1 t2 t3
  refine lv_aload_n hx hb d_An_begin_0 rfl (lv_at hl 0 rfl) ?_
  refine zg_get (ci := 1) (C := "ZoneAnswers$Answer") (T := T_An) (N := 6) hx hb hts zi_An hown hK hG ha1 rfl 1 (by decide) (hts _ w_685) (fun _ h9 => h9) rfl d_An_begin_1 ?_
  have hGo4 := hG
  refine zk_v (va_runV (As := []) (rest := []) ⟨hx, hb, hml, hown, hts⟩ (t_Se_clear l E G (k 2) (k 5) d1 (t1.map tA) hs1.1.1 hs1.1.2.1.1) (zcV 0 hts w_1012 w_1013 w_1014 w_29 w_1015 (by decide +kernel) ⟨Nat.le_of_ble_eq_true rfl, Nat.le_of_ble_eq_true rfl⟩) (zc_preV hbase hK hN hQ hG hS hs1.1.1 rfl) rfl rfl hl.1 rfl (lv_room (Nat.le_of_ble_eq_true rfl)) d_An_begin_4 ⟨(by decide), (by decide)⟩) hS (fun G4 H locs hp4 hG hS => ?_)
  have hEc0 : G4 (E.2.2.2 0) = none := hQ.out hG
  obtain ⟨hCc0, hfq0⟩ := hCx.c1 (hQ.out hGo4) hEc0 hp4.2 hp4.1
  have hfc0 : zfr ro zKb G ro G4 := (zfr.rf (r := ro) (G := G)).tr hfq0
  obtain ⟨⟨hz1c0, hz2c0, hz3c0, hz4c0, hz5c0, soac0, u9c0, hz6c0, hz7c0, hz8c0, hz9c0, hzAc0⟩, ⟨ha1c0, ha2c0, hs1c0, hs2c0, hs3c0⟩, hT1c0⟩ := id hCc0
  obtain ⟨boc0, foc0, hno1c0, hno2c0, hno3c0, hno4c0, hno5c0, -⟩ := id hz4c0
  have ha1x0 : G4 (k 0) = some (.inr (1, [.ref (k 1), .ref (k 2), .ref (k 3), .ref (k 4), .int ty, .int se])) := ha1c0
  have hse02 : G4 (k 3) = some (.inr (6, [.ref (k 6)])) := hs2c0.1.1
  have hse03 : G4 (k 4) = some (.inr (6, [.ref (k 7)])) := hs3c0.1.1
  refine lv_aload_n hx hb d_An_begin_7 rfl (lv_at hl 0 rfl) ?_
  refine zg_get (ci := 1) (C := "ZoneAnswers$Answer") (T := T_An) (N := 6) hx hb hts zi_An hown hK hG ha1x0 rfl 2 (by decide) (hts _ w_686) (fun _ h9 => h9) rfl d_An_begin_8 ?_
  have hGo11 := hG
  refine zk_v (va_runV (As := []) (rest := []) ⟨hx, hb, hml, hown, hts⟩ (t_Se_clear l E G4 (k 3) (k 6) d2 (t2.map tA) hse02 hs2c0.1.2.1.1) (zcV 0 hts w_1012 w_1013 w_1014 w_29 w_1015 (by decide +kernel) ⟨Nat.le_of_ble_eq_true rfl, Nat.le_of_ble_eq_true rfl⟩) (zc_preV hbase hK hN hQ hG hS hse02 rfl) rfl rfl hl.1 rfl (lv_room (Nat.le_of_ble_eq_true rfl)) d_An_begin_11 ⟨(by decide), (by decide)⟩) hS (fun G11 H locs hp11 hG hS => ?_)
  have hEc1 : G11 (E.2.2.2 0) = none := hQ.out hG
  obtain ⟨hCc1, hfq1⟩ := hCc0.c2 (hQ.out hGo11) hEc1 hp11.2 hp11.1
  have hfc1 : zfr ro zKb G ro G11 := hfc0.tr hfq1
  obtain ⟨⟨hz1c1, hz2c1, hz3c1, hz4c1, hz5c1, soac1, u9c1, hz6c1, hz7c1, hz8c1, hz9c1, hzAc1⟩, ⟨ha1c1, ha2c1, hs1c1, hs2c1, hs3c1⟩, hT1c1⟩ := id hCc1
  obtain ⟨boc1, foc1, hno1c1, hno2c1, hno3c1, hno4c1, hno5c1, -⟩ := id hz4c1
  have ha1x1 : G11 (k 0) = some (.inr (1, [.ref (k 1), .ref (k 2), .ref (k 3), .ref (k 4), .int ty, .int se])) := ha1c1
  have hse12 : G11 (k 3) = some (.inr (6, [.ref (k 6)])) := hs2c1.1.1
  have hse13 : G11 (k 4) = some (.inr (6, [.ref (k 7)])) := hs3c1.1.1
  refine lv_aload_n hx hb d_An_begin_14 rfl (lv_at hl 0 rfl) ?_
  refine zg_get (ci := 1) (C := "ZoneAnswers$Answer") (T := T_An) (N := 6) hx hb hts zi_An hown hK hG ha1x1 rfl 3 (by decide) (hts _ w_687) (fun _ h9 => h9) rfl d_An_begin_15 ?_
  have hGo18 := hG
  refine zk_v (va_runV (As := []) (rest := []) ⟨hx, hb, hml, hown, hts⟩ (t_Se_clear l E G11 (k 4) (k 7) d3 (t3.map tA) hse13 hs3c1.1.2.1.1) (zcV 0 hts w_1012 w_1013 w_1014 w_29 w_1015 (by decide +kernel) ⟨Nat.le_of_ble_eq_true rfl, Nat.le_of_ble_eq_true rfl⟩) (zc_preV hbase hK hN hQ hG hS hse13 rfl) rfl rfl hl.1 rfl (lv_room (Nat.le_of_ble_eq_true rfl)) d_An_begin_18 ⟨(by decide), (by decide)⟩) hS (fun G18 H locs hp18 hG hS => ?_)
  have hEc2 : G18 (E.2.2.2 0) = none := hQ.out hG
  obtain ⟨hCc2, hfq2⟩ := hCc1.c3 (hQ.out hGo18) hEc2 hp18.2 hp18.1
  have hfc2 : zfr ro zKb G ro G18 := hfc1.tr hfq2
  obtain ⟨⟨hz1c2, hz2c2, hz3c2, hz4c2, hz5c2, soac2, u9c2, hz6c2, hz7c2, hz8c2, hz9c2, hzAc2⟩, ⟨ha1c2, ha2c2, hs1c2, hs2c2, hs3c2⟩, hT1c2⟩ := id hCc2
  obtain ⟨boc2, foc2, hno1c2, hno2c2, hno3c2, hno4c2, hno5c2, -⟩ := id hz4c2
  have ha1x2 : G18 (k 0) = some (.inr (1, [.ref (k 1), .ref (k 2), .ref (k 3), .ref (k 4), .int ty, .int se])) := ha1c2
  have hse22 : G18 (k 3) = some (.inr (6, [.ref (k 6)])) := hs2c2.1.1
  have hse23 : G18 (k 4) = some (.inr (6, [.ref (k 7)])) := hs3c2.1.1
  refine lv_aload_n hx hb d_An_begin_21 rfl (lv_at hl 0 rfl) ?_
  refine lv_iload_n hx hb d_An_begin_22 rfl (lv_at hl 1 rfl) ?_
  refine zg_put (ci := 1) (v := .int ty2) (ty := .int) (C := "ZoneAnswers$Answer") (T := T_An) (N := 6) hx hb hts zi_An t_An t_An_ok n_An hown hK hG hS ha1x2 rfl 4 (by decide) (hts _ w_688) (fun _ h9 => h9) rfl (by decide +kernel) rfl rfl (Nat.le_of_ble_eq_true rfl) d_An_begin_23 (fun H locs hG hS => ?_)
  obtain ⟨G1, eG1⟩ : ∃ z : zg_G, z = zg_up G18 (k 0) (.inr (1, [.ref (k 1), .ref (k 2), .ref (k 3), .ref (k 4), .int ty2, .int se])) := ⟨_, rfl⟩
  have hG : zP E G1 H := by rw [eG1]; exact hG
  have k2 : G1 (k 0) = some (.inr (1, [.ref (k 1), .ref (k 2), .ref (k 3), .ref (k 4), .int ty2, .int se])) := by rw [eG1]; exact zg_up_self _ _ _
  have hEp1 : G1 (E.2.2.2 0) = none := hQ.out hG
  refine lv_aload_n hx hb d_An_begin_26 rfl (lv_at hl 0 rfl) ?_
  refine lv_iload_n hx hb d_An_begin_27 rfl (lv_at hl 2 rfl) ?_
  refine zg_put (ci := 1) (v := .int se2) (ty := .boolean) (C := "ZoneAnswers$Answer") (T := T_An) (N := 6) hx hb hts zi_An t_An t_An_ok n_An hown hK hG hS k2 rfl 5 (by decide) (hts _ w_689) (fun _ h9 => h9) rfl (by decide +kernel) (by rcases hse2 with z | z <;> rw [z] <;> rfl) (by rcases hse2 with z | z <;> rw [z] <;> rfl) (Nat.le_of_ble_eq_true rfl) d_An_begin_28 (fun H locs hG hS => ?_)
  obtain ⟨G3, eG3⟩ : ∃ z : zg_G, z = zg_up G1 (k 0) (.inr (1, [.ref (k 1), .ref (k 2), .ref (k 3), .ref (k 4), .int ty2, .int se2])) := ⟨_, rfl⟩
  have hG : zP E G3 H := by rw [eG3]; exact hG
  have k4 : G3 (k 0) = some (.inr (1, [.ref (k 1), .ref (k 2), .ref (k 3), .ref (k 4), .int ty2, .int se2])) := by rw [eG3]; exact zg_up_self _ _ _
  obtain ⟨hCd, hfd⟩ := hCc2.up0 (ty2 := ty2) (se2 := se) hEc2 (by have q := hEp1; rw [eG1] at q; exact q)
  obtain ⟨hCe, hfe⟩ := hCd.up0 (ty2 := ty2) (se2 := se2) (by have q := hEp1; rw [eG1] at q; exact q) (by have q : G3 (E.2.2.2 0) = none := hQ.out hG; rw [eG3, eG1] at q; exact q)
  have hCf : zCx E G3 ro (ku (ku (ku k 8 (zcG G4 d1)) 9 (zcG G11 d2)) 10 (zcG G18 d3)) rc ty2 se2 os top d1 d2 d3 [] [] [] := by rw [eG3, eG1]; exact hCe
  have hff : zfr ro zKb G ro G3 := by rw [eG3, eG1]; exact (hfc2.tr hfd).tr hfe
  exact hret _ _ _ _ _ _ _ (⟨ku (ku (ku k 8 (zcG G4 d1)) 9 (zcG G11 d2)) 10 (zcG G18 d3), fun n h1 h2 h3 => by unfold ku; rw [if_neg h3, if_neg h2, if_neg h1], hCf, hff⟩) hG hS (Nat.le_refl _) (Nat.le_refl _) d_An_begin_31
