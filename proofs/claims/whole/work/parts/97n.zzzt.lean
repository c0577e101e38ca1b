/-! THE REFERENCE: from alias to alias -/
theorem rSt.set {E : zc_E} {G : zg_G} {ro : zRo} {a c1 c2 : Nat} {lo : np_N} {rs : List zRt} {W : zW} {px : List Int32} {qp : Prop} {nq : Nat × Int32 × np_N × zWs} {th co se : Int32} {tp : List Int32} {v19 v20 : Value} (hs : rSt E G ro a c1 c2 lo rs W px qp nq th tp co se v19 v20) {h : Nat → Nat} (th2 co2 se2 : Int32) (w19 w20 : Value) (he : G a = some (.inr (11, [.int th, .ref (h 1), .int (nI tp.length), .ref (h 3), .ref (h 4), .int (nI rs.length), .ref (h 6), .ref (h 7), .ref (h 8), .ref (h 9), .ref (h 10), .ref (h 11), .ref (h 12), .int (nI (wln W)), .int co, .ref (h 15), .int (nI (rPw W + px.length)), .int se, .ref (h 18), v19, v20]))) : rSt E (zg_up G a (.inr (11, [.int th2, .ref (h 1), .int (nI tp.length), .ref (h 3), .ref (h 4), .int (nI rs.length), .ref (h 6), .ref (h 7), .ref (h 8), .ref (h 9), .ref (h 10), .ref (h 11), .ref (h 12), .int (nI (wln W)), .int co2, .ref (h 15), .int (nI (rPw W + px.length)), .int se2, .ref (h 18), w19, w20]))) ro a c1 c2 lo rs W px qp nq th2 tp co2 se2 w19 w20 ∧ zfr ro zKr G ro (zg_up G a (.inr (11, [.int th2, .ref (h 1), .int (nI tp.length), .ref (h 3), .ref (h 4), .int (nI rs.length), .ref (h 6), .ref (h 7), .ref (h 8), .ref (h 9), .ref (h 10), .ref (h 11), .ref (h 12), .int (nI (wln W)), .int co2, .ref (h 15), .int (nI (rPw W + px.length)), .int se2, .ref (h 18), w19, w20]))) := by
  obtain ⟨k, rfl, e1, e2, hc⟩ := hs
  have q := hc.cell (th2 := th2) (co2 := co2) (se2 := se2) (w19 := w19) (w20 := w20) tp.length (Nat.le_refl _)
  rw [List.take_length] at q
  have ha := hc.1
  rw [he] at ha
  have e := (Prod.mk.inj (Sum.inr.inj (Option.some.inj ha))).2
  simp only [List.cons.injEq, Value.ref.injEq, and_true, true_and] at e
  obtain ⟨k1, k3, k4, k6, k7, k8, k9, k10, k11, k12, k15, k18⟩ := e
  rw [k1, k3, k4, k6, k7, k8, k9, k10, k11, k12, k15, k18]
  exact ⟨⟨k, rfl, e1, e2, q.1⟩, q.2⟩
theorem rNm.new {E : zc_E} {G G2 : zg_G} {ro : zRo} {q : Nat} {ls : np_N} {f : Nat → Int32} (hq : G q = none) (hx : zx z0 G G2) (h2 : G2 q = some (.inl (E.2.1 0, np_len ls, .inl f))) (hf : np_f ls f) (hg : np_g ls) (hft : sb_Fit f) : rNm E G2 (zrn ro q (0, 0)) q ls ∧ zfr ro (fun _ => False) G (zrn ro q (0, 0)) G2 := ⟨⟨f, h2, hf, hg, hft, zrn_self _ _ _⟩, zfr.z hx (zro.nw hq)⟩
theorem np_pos_0 {x : np_N} {k : Nat} (hk : k ≤ x.length) : np_pos x k = 0 ↔ k = 0 := by
  have := np_pos_z (x := x) (k := x.length - k) (by omega)
  rw [show x.length - (x.length - k) = k by omega] at this
  rw [this]; omega
theorem np_f_star {x : np_N} {f f2 : Nat → Int32} {k : Nat} (hk : k ≤ x.length) (hf : np_f x f) (h0 : f2 0 = 1) (h1 : f2 1 = 42) (h2 : ∀ j, j < np_len x - np_pos x k → f2 (2 + j) = f (np_pos x k + j)) : np_f ([42] :: x.drop k) f2 ∧ np_len ([42] :: x.drop k) = np_len x - np_pos x k + 2 := by
  have hl := np_len_drop x k hk
  have hd := hf.drop hk
  have e2 : np_len ([42] :: x.drop k) = np_len (x.drop k) + 2 := by
    rw [← np_enc_len, ← np_enc_len]
    show (nI 1 :: ([42] ++ np_enc (x.drop k))).length = _
    simp
  refine ⟨fun j hj => ?_, by rw [e2]; omega⟩
  show f2 j = (nI 1 :: ([42] ++ np_enc (x.drop k))).getD j 0
  rcases (show j = 0 ∨ j = 1 ∨ 2 ≤ j by omega) with z | z | z
  · rw [z, h0]; rfl
  · rw [z, h1]; rfl
  · obtain ⟨i, rfl⟩ : ∃ i, j = 2 + i := ⟨j - 2, by omega⟩
    rw [h2 i (by omega)]
    have q : f (np_pos x k + i) = (np_enc (x.drop k)).getD i 0 := hd i (by omega)
    rw [q, show 2 + i = i + 1 + 1 by omega]
    rfl
theorem rV5 {rs : List zRt} {f : np_N} {j : Nat} (hj : j < rs.length) (h1 : rT (re rs j) = 5) (h2 : rM (re rs j) = f) (hc : (rVf rs f 5).length ≤ 1) : rVf rs f 5 = [(rU (re rs j), rB (re rs j))] := by
  have hm : (rU (re rs j), rB (re rs j)) ∈ rVf rs f 5 := List.mem_map.mpr ⟨_, List.mem_filter.mpr ⟨re_mem hj, decide_eq_true ⟨h2, h1⟩⟩, rfl⟩
  cases e : rVf rs f 5 with
  | nil => rw [e] at hm; cases hm
  | cons p r =>
    rw [e] at hm hc
    have : r = [] := by
      cases r with
      | nil => rfl
      | cons b s => simp at hc
    rw [this] at hm ⊢
    rw [List.mem_singleton.mp hm]
theorem vfd_y {V : zVt} {x : np_N} (h : vth V x) : vfd V x = x := zif_y h
theorem vfd_n {V : zVt} {x : np_N} (h : ¬ vth V x) : vfd V x = [42] :: vcl V x := zif_n h
theorem np_star_gk {x : np_N} {k : Nat} (hg : np_g x) (h0 : 0 < k) (hk : k ≤ x.length) : np_g ([42] :: x.drop k) := by
  have := np_star_g (x := x) (d := x.length - k) hg (by omega)
  rw [show x.length - (x.length - k) = k by omega] at this
  exact this
theorem w_1295 : (.fieldLink "ZoneAnswersModel" 202 "ZoneAnswersModel" "code" "I" : Cond) ∈ zw := zw_at 1295 (by decide +kernel) (by decide +kernel)
theorem w_1471 : (.methodLink "ZoneAnswersModel" 191 ⟨"ZoneAnswersModel", "delegated", "([B)V"⟩ : Cond) ∈ zw := zw_at 1471 (by decide +kernel) (by decide +kernel)
theorem w_1473 : (.instanceMethod ⟨"ZoneAnswersModel", "delegated", "([B)V"⟩ : Cond) ∈ zw := zw_at 1473 (by decide +kernel) (by decide +kernel)
theorem w_1474 : (.code ⟨"ZoneAnswersModel", "delegated", "([B)V"⟩ prog_12_method_32_code 3 none : Cond) ∈ zw := zw_at 1474 (by decide +kernel) (by decide +kernel)
theorem w_1545 : (.methodLink "ZoneAnswersModel" 195 ⟨"ZoneAnswersModel", "closest", "([B)I"⟩ : Cond) ∈ zw := zw_at 1545 (by decide +kernel) (by decide +kernel)
theorem w_1547 : (.instanceMethod ⟨"ZoneAnswersModel", "closest", "([B)I"⟩ : Cond) ∈ zw := zw_at 1547 (by decide +kernel) (by decide +kernel)
theorem w_1548 : (.code ⟨"ZoneAnswersModel", "closest", "([B)I"⟩ prog_12_method_30_code 3 (some .int) : Cond) ∈ zw := zw_at 1548 (by decide +kernel) (by decide +kernel)
theorem w_1549 : (.methodLink "ZoneAnswersModel" 198 ⟨"ZoneAnswersModel$Names", "star", "([BI)[B"⟩ : Cond) ∈ zw := zw_at 1549 (by decide +kernel) (by decide +kernel)
theorem w_1550 : (.static ⟨"ZoneAnswersModel$Names", "star", "([BI)[B"⟩ : Cond) ∈ zw := zw_at 1550 (by decide +kernel) (by decide +kernel)
theorem w_1551 : (.code ⟨"ZoneAnswersModel$Names", "star", "([BI)[B"⟩ prog_13_method_11_code 4 (some (.array .byte)) : Cond) ∈ zw := zw_at 1551 (by decide +kernel) (by decide +kernel)
theorem w_1564 : (.methodLink "ZoneAnswersModel" 221 ⟨"ZoneAnswersModel", "held", "([B[BIZ)V"⟩ : Cond) ∈ zw := zw_at 1564 (by decide +kernel) (by decide +kernel)
theorem w_1566 : (.instanceMethod ⟨"ZoneAnswersModel", "held", "([B[BIZ)V"⟩ : Cond) ∈ zw := zw_at 1566 (by decide +kernel) (by decide +kernel)
theorem w_1567 : (.code ⟨"ZoneAnswersModel", "held", "([B[BIZ)V"⟩ prog_12_method_33_code 9 none : Cond) ∈ zw := zw_at 1567 (by decide +kernel) (by decide +kernel)
theorem wp_39 : (.selects "ZoneAnswersModel" ⟨"ZoneAnswersModel", "delegated", "([B)V"⟩ ⟨"ZoneAnswersModel", "delegated", "([B)V"⟩ : Cond) ∈ zw := zw_pv 39 (y := ⟨"ZoneAnswersModel", "delegated", "([B)V"⟩) rfl (by decide +kernel)
theorem wp_53 : (.selects "ZoneAnswersModel" ⟨"ZoneAnswersModel", "closest", "([B)I"⟩ ⟨"ZoneAnswersModel", "closest", "([B)I"⟩ : Cond) ∈ zw := zw_pv 53 (y := ⟨"ZoneAnswersModel", "closest", "([B)I"⟩) rfl (by decide +kernel)
theorem wp_57 : (.selects "ZoneAnswersModel" ⟨"ZoneAnswersModel", "held", "([B[BIZ)V"⟩ ⟨"ZoneAnswersModel", "held", "([B[BIZ)V"⟩ : Cond) ∈ zw := zw_pv 57 (y := ⟨"ZoneAnswersModel", "held", "([B[BIZ)V"⟩) rfl (by decide +kernel)
abbrev c_Mo_answer : ByteArray := prog_12_method_31_code
abbrev y_Mo_answer : MethodName := ⟨"ZoneAnswersModel", "answer", "([BI)V"⟩
theorem d_Mo_answer_0 : decode c_Mo_answer 0 = .ok (.aload_n 1, 1) := by decide +kernel
theorem d_Mo_answer_1 : decode c_Mo_answer 1 = .ok (.astore_n 3, 1) := by decide +kernel
theorem d_Mo_answer_2 : decode c_Mo_answer 2 = .ok (.iconst 0, 1) := by decide +kernel
theorem d_Mo_answer_3 : decode c_Mo_answer 3 = .ok (.istore 4, 2) := by decide +kernel
theorem d_Mo_answer_5 : decode c_Mo_answer 5 = .ok (.iconst 1, 1) := by decide +kernel
theorem d_Mo_answer_6 : decode c_Mo_answer 6 = .ok (.istore 5, 2) := by decide +kernel
theorem d_Mo_answer_8 : decode c_Mo_answer 8 = .ok (.iload 5, 2) := by decide +kernel
theorem d_Mo_answer_10 : decode c_Mo_answer 10 = .ok (.ifCond .eq 285, 3) := by decide +kernel
theorem d_Mo_answer_13 : decode c_Mo_answer 13 = .ok (.iload 4, 2) := by decide +kernel
theorem d_Mo_answer_15 : decode c_Mo_answer 15 = .ok (.bipush 9, 2) := by decide +kernel
theorem d_Mo_answer_17 : decode c_Mo_answer 17 = .ok (.if_icmp .ge 278, 3) := by decide +kernel
theorem d_Mo_answer_20 : decode c_Mo_answer 20 = .ok (.aload_n 3, 1) := by decide +kernel
theorem d_Mo_answer_21 : decode c_Mo_answer 21 = .ok (.aload_n 0, 1) := by decide +kernel
theorem d_Mo_answer_22 : decode c_Mo_answer 22 = .ok (.getfield 14, 3) := by decide +kernel
theorem d_Mo_answer_25 : decode c_Mo_answer 25 = .ok (.invokestatic 84, 3) := by decide +kernel
theorem d_Mo_answer_28 : decode c_Mo_answer 28 = .ok (.ifCond .eq 267, 3) := by decide +kernel
theorem d_Mo_answer_31 : decode c_Mo_answer 31 = .ok (.aload_n 0, 1) := by decide +kernel
theorem d_Mo_answer_32 : decode c_Mo_answer 32 = .ok (.aload_n 3, 1) := by decide +kernel
theorem d_Mo_answer_33 : decode c_Mo_answer 33 = .ok (.invokevirtual 106, 3) := by decide +kernel
theorem d_Mo_answer_36 : decode c_Mo_answer 36 = .ok (.istore 6, 2) := by decide +kernel
theorem d_Mo_answer_38 : decode c_Mo_answer 38 = .ok (.iload 6, 2) := by decide +kernel
theorem d_Mo_answer_40 : decode c_Mo_answer 40 = .ok (.ifCond .lt 27, 3) := by decide +kernel
theorem d_Mo_answer_43 : decode c_Mo_answer 43 = .ok (.iload 6, 2) := by decide +kernel
theorem d_Mo_answer_45 : decode c_Mo_answer 45 = .ok (.ifCond .ne 9, 3) := by decide +kernel
theorem d_Mo_answer_48 : decode c_Mo_answer 48 = .ok (.iload_n 2, 1) := by decide +kernel
theorem d_Mo_answer_49 : decode c_Mo_answer 49 = .ok (.bipush 43, 2) := by decide +kernel
theorem d_Mo_answer_51 : decode c_Mo_answer 51 = .ok (.if_icmp .eq 16, 3) := by decide +kernel
theorem d_Mo_answer_54 : decode c_Mo_answer 54 = .ok (.aload_n 0, 1) := by decide +kernel
theorem d_Mo_answer_55 : decode c_Mo_answer 55 = .ok (.aload_n 3, 1) := by decide +kernel
theorem d_Mo_answer_56 : decode c_Mo_answer 56 = .ok (.iload 6, 2) := by decide +kernel
theorem d_Mo_answer_58 : decode c_Mo_answer 58 = .ok (.aload_n 3, 1) := by decide +kernel
theorem d_Mo_answer_59 : decode c_Mo_answer 59 = .ok (.arraylength, 1) := by decide +kernel
theorem d_Mo_answer_60 : decode c_Mo_answer 60 = .ok (.invokestatic 188, 3) := by decide +kernel
theorem d_Mo_answer_63 : decode c_Mo_answer 63 = .ok (.invokevirtual 191, 3) := by decide +kernel
theorem d_Mo_answer_66 : decode c_Mo_answer 66 = .ok (.return_, 1) := by decide +kernel
theorem d_Mo_answer_67 : decode c_Mo_answer 67 = .ok (.aload_n 3, 1) := by decide +kernel
theorem d_Mo_answer_68 : decode c_Mo_answer 68 = .ok (.astore 7, 2) := by decide +kernel
theorem d_Mo_answer_70 : decode c_Mo_answer 70 = .ok (.aload_n 0, 1) := by decide +kernel
theorem d_Mo_answer_71 : decode c_Mo_answer 71 = .ok (.aload_n 3, 1) := by decide +kernel
theorem d_Mo_answer_72 : decode c_Mo_answer 72 = .ok (.iconst 0, 1) := by decide +kernel
theorem d_Mo_answer_73 : decode c_Mo_answer 73 = .ok (.invokevirtual 185, 3) := by decide +kernel
theorem d_Mo_answer_76 : decode c_Mo_answer 76 = .ok (.ifCond .ne 59, 3) := by decide +kernel
theorem d_Mo_answer_79 : decode c_Mo_answer 79 = .ok (.aload_n 3, 1) := by decide +kernel
theorem d_Mo_answer_80 : decode c_Mo_answer 80 = .ok (.aload_n 0, 1) := by decide +kernel
theorem d_Mo_answer_81 : decode c_Mo_answer 81 = .ok (.aload_n 3, 1) := by decide +kernel
theorem d_Mo_answer_82 : decode c_Mo_answer 82 = .ok (.invokevirtual 195, 3) := by decide +kernel
theorem d_Mo_answer_85 : decode c_Mo_answer 85 = .ok (.invokestatic 198, 3) := by decide +kernel
theorem d_Mo_answer_88 : decode c_Mo_answer 88 = .ok (.astore 7, 2) := by decide +kernel
theorem d_Mo_answer_90 : decode c_Mo_answer 90 = .ok (.aload_n 0, 1) := by decide +kernel
theorem d_Mo_answer_91 : decode c_Mo_answer 91 = .ok (.aload 7, 2) := by decide +kernel
theorem d_Mo_answer_93 : decode c_Mo_answer 93 = .ok (.invokevirtual 109, 3) := by decide +kernel
theorem d_Mo_answer_96 : decode c_Mo_answer 96 = .ok (.ifCond .ne 39, 3) := by decide +kernel
theorem d_Mo_answer_99 : decode c_Mo_answer 99 = .ok (.aload_n 0, 1) := by decide +kernel
theorem d_Mo_answer_100 : decode c_Mo_answer 100 = .ok (.iconst 3, 1) := by decide +kernel
theorem d_Mo_answer_101 : decode c_Mo_answer 101 = .ok (.putfield 202, 3) := by decide +kernel
theorem d_Mo_answer_104 : decode c_Mo_answer 104 = .ok (.aload_n 0, 1) := by decide +kernel
theorem d_Mo_answer_105 : decode c_Mo_answer 105 = .ok (.invokevirtual 205, 3) := by decide +kernel
theorem d_Mo_answer_108 : decode c_Mo_answer 108 = .ok (.aload_n 0, 1) := by decide +kernel
theorem d_Mo_answer_109 : decode c_Mo_answer 109 = .ok (.getfield 208, 3) := by decide +kernel
theorem d_Mo_answer_112 : decode c_Mo_answer 112 = .ok (.ifCond .eq 22, 3) := by decide +kernel
theorem d_Mo_answer_115 : decode c_Mo_answer 115 = .ok (.aload_n 0, 1) := by decide +kernel
theorem d_Mo_answer_116 : decode c_Mo_answer 116 = .ok (.aload_n 0, 1) := by decide +kernel
theorem d_Mo_answer_117 : decode c_Mo_answer 117 = .ok (.aload_n 3, 1) := by decide +kernel
theorem d_Mo_answer_118 : decode c_Mo_answer 118 = .ok (.invokevirtual 212, 3) := by decide +kernel
theorem d_Mo_answer_121 : decode c_Mo_answer 121 = .ok (.invokevirtual 215, 3) := by decide +kernel
theorem d_Mo_answer_124 : decode c_Mo_answer 124 = .ok (.aload_n 0, 1) := by decide +kernel
theorem d_Mo_answer_125 : decode c_Mo_answer 125 = .ok (.aload_n 0, 1) := by decide +kernel
theorem d_Mo_answer_126 : decode c_Mo_answer 126 = .ok (.aload 7, 2) := by decide +kernel
theorem d_Mo_answer_128 : decode c_Mo_answer 128 = .ok (.invokevirtual 212, 3) := by decide +kernel
theorem d_Mo_answer_131 : decode c_Mo_answer 131 = .ok (.invokevirtual 215, 3) := by decide +kernel
theorem d_Mo_answer_134 : decode c_Mo_answer 134 = .ok (.return_, 1) := by decide +kernel
theorem d_Mo_answer_135 : decode c_Mo_answer 135 = .ok (.aload 7, 2) := by decide +kernel
theorem d_Mo_answer_137 : decode c_Mo_answer 137 = .ok (.aload_n 3, 1) := by decide +kernel
theorem d_Mo_answer_138 : decode c_Mo_answer 138 = .ok (.invokestatic 80, 3) := by decide +kernel
theorem d_Mo_answer_141 : decode c_Mo_answer 141 = .ok (.ifCond .ne 7, 3) := by decide +kernel
theorem d_Mo_answer_144 : decode c_Mo_answer 144 = .ok (.iconst 1, 1) := by decide +kernel
theorem d_Mo_answer_145 : decode c_Mo_answer 145 = .ok (.goto 4, 3) := by decide +kernel
theorem d_Mo_answer_148 : decode c_Mo_answer 148 = .ok (.iconst 0, 1) := by decide +kernel
theorem d_Mo_answer_149 : decode c_Mo_answer 149 = .ok (.istore 8, 2) := by decide +kernel
theorem d_Mo_answer_151 : decode c_Mo_answer 151 = .ok (.iload_n 2, 1) := by decide +kernel
theorem d_Mo_answer_152 : decode c_Mo_answer 152 = .ok (.iconst 5, 1) := by decide +kernel
theorem d_Mo_answer_153 : decode c_Mo_answer 153 = .ok (.if_icmp .eq 25, 3) := by decide +kernel
theorem d_Mo_answer_156 : decode c_Mo_answer 156 = .ok (.iload_n 2, 1) := by decide +kernel
theorem d_Mo_answer_157 : decode c_Mo_answer 157 = .ok (.sipush 255, 3) := by decide +kernel
theorem d_Mo_answer_160 : decode c_Mo_answer 160 = .ok (.if_icmp .eq 18, 3) := by decide +kernel
theorem d_Mo_answer_163 : decode c_Mo_answer 163 = .ok (.aload_n 0, 1) := by decide +kernel
theorem d_Mo_answer_164 : decode c_Mo_answer 164 = .ok (.aload 7, 2) := by decide +kernel
theorem d_Mo_answer_166 : decode c_Mo_answer 166 = .ok (.iconst 0, 1) := by decide +kernel
theorem d_Mo_answer_167 : decode c_Mo_answer 167 = .ok (.iconst 5, 1) := by decide +kernel
theorem d_Mo_answer_168 : decode c_Mo_answer 168 = .ok (.invokevirtual 90, 3) := by decide +kernel
theorem d_Mo_answer_171 : decode c_Mo_answer 171 = .ok (.ifCond .eq 7, 3) := by decide +kernel
theorem d_Mo_answer_174 : decode c_Mo_answer 174 = .ok (.iconst 1, 1) := by decide +kernel
theorem d_Mo_answer_175 : decode c_Mo_answer 175 = .ok (.goto 4, 3) := by decide +kernel
theorem d_Mo_answer_178 : decode c_Mo_answer 178 = .ok (.iconst 0, 1) := by decide +kernel
theorem d_Mo_answer_179 : decode c_Mo_answer 179 = .ok (.istore 5, 2) := by decide +kernel
theorem d_Mo_answer_181 : decode c_Mo_answer 181 = .ok (.iload 5, 2) := by decide +kernel
theorem d_Mo_answer_183 : decode c_Mo_answer 183 = .ok (.ifCond .eq 99, 3) := by decide +kernel
theorem d_Mo_answer_186 : decode c_Mo_answer 186 = .ok (.aload_n 0, 1) := by decide +kernel
theorem d_Mo_answer_187 : decode c_Mo_answer 187 = .ok (.aload_n 3, 1) := by decide +kernel
theorem d_Mo_answer_188 : decode c_Mo_answer 188 = .ok (.aload 7, 2) := by decide +kernel
theorem d_Mo_answer_190 : decode c_Mo_answer 190 = .ok (.iconst 5, 1) := by decide +kernel
theorem d_Mo_answer_191 : decode c_Mo_answer 191 = .ok (.invokevirtual 218, 3) := by decide +kernel
theorem d_Mo_answer_194 : decode c_Mo_answer 194 = .ok (.iload 8, 2) := by decide +kernel
theorem d_Mo_answer_196 : decode c_Mo_answer 196 = .ok (.ifCond .eq 19, 3) := by decide +kernel
theorem d_Mo_answer_199 : decode c_Mo_answer 199 = .ok (.aload_n 0, 1) := by decide +kernel
theorem d_Mo_answer_200 : decode c_Mo_answer 200 = .ok (.getfield 208, 3) := by decide +kernel
theorem d_Mo_answer_203 : decode c_Mo_answer 203 = .ok (.ifCond .eq 12, 3) := by decide +kernel
theorem d_Mo_answer_206 : decode c_Mo_answer 206 = .ok (.aload_n 0, 1) := by decide +kernel
theorem d_Mo_answer_207 : decode c_Mo_answer 207 = .ok (.aload_n 0, 1) := by decide +kernel
theorem d_Mo_answer_208 : decode c_Mo_answer 208 = .ok (.aload_n 3, 1) := by decide +kernel
theorem d_Mo_answer_209 : decode c_Mo_answer 209 = .ok (.invokevirtual 212, 3) := by decide +kernel
theorem d_Mo_answer_212 : decode c_Mo_answer 212 = .ok (.invokevirtual 215, 3) := by decide +kernel
theorem d_Mo_answer_215 : decode c_Mo_answer 215 = .ok (.iinc 4 1, 3) := by decide +kernel
theorem d_Mo_answer_218 : decode c_Mo_answer 218 = .ok (.iconst 0, 1) := by decide +kernel
theorem d_Mo_answer_219 : decode c_Mo_answer 219 = .ok (.istore 9, 2) := by decide +kernel
theorem d_Mo_answer_221 : decode c_Mo_answer 221 = .ok (.iload 9, 2) := by decide +kernel
theorem d_Mo_answer_223 : decode c_Mo_answer 223 = .ok (.aload_n 0, 1) := by decide +kernel
theorem d_Mo_answer_224 : decode c_Mo_answer 224 = .ok (.getfield 61, 3) := by decide +kernel
theorem d_Mo_answer_227 : decode c_Mo_answer 227 = .ok (.if_icmp .ge 52, 3) := by decide +kernel
theorem d_Mo_answer_230 : decode c_Mo_answer 230 = .ok (.aload_n 0, 1) := by decide +kernel
theorem d_Mo_answer_231 : decode c_Mo_answer 231 = .ok (.getfield 19, 3) := by decide +kernel
theorem d_Mo_answer_234 : decode c_Mo_answer 234 = .ok (.iload 9, 2) := by decide +kernel
theorem d_Mo_answer_236 : decode c_Mo_answer 236 = .ok (.aaload, 1) := by decide +kernel
theorem d_Mo_answer_237 : decode c_Mo_answer 237 = .ok (.getfield 67, 3) := by decide +kernel
theorem d_Mo_answer_240 : decode c_Mo_answer 240 = .ok (.iconst 5, 1) := by decide +kernel
theorem d_Mo_answer_241 : decode c_Mo_answer 241 = .ok (.if_icmp .ne 32, 3) := by decide +kernel
theorem d_Mo_answer_244 : decode c_Mo_answer 244 = .ok (.aload_n 0, 1) := by decide +kernel
theorem d_Mo_answer_245 : decode c_Mo_answer 245 = .ok (.getfield 19, 3) := by decide +kernel
theorem d_Mo_answer_248 : decode c_Mo_answer 248 = .ok (.iload 9, 2) := by decide +kernel
theorem d_Mo_answer_250 : decode c_Mo_answer 250 = .ok (.aaload, 1) := by decide +kernel
theorem d_Mo_answer_251 : decode c_Mo_answer 251 = .ok (.getfield 65, 3) := by decide +kernel
theorem d_Mo_answer_254 : decode c_Mo_answer 254 = .ok (.aload 7, 2) := by decide +kernel
theorem d_Mo_answer_256 : decode c_Mo_answer 256 = .ok (.invokestatic 80, 3) := by decide +kernel
theorem d_Mo_answer_259 : decode c_Mo_answer 259 = .ok (.ifCond .eq 14, 3) := by decide +kernel
theorem d_Mo_answer_262 : decode c_Mo_answer 262 = .ok (.aload_n 0, 1) := by decide +kernel
theorem d_Mo_answer_263 : decode c_Mo_answer 263 = .ok (.getfield 19, 3) := by decide +kernel
theorem d_Mo_answer_266 : decode c_Mo_answer 266 = .ok (.iload 9, 2) := by decide +kernel
theorem d_Mo_answer_268 : decode c_Mo_answer 268 = .ok (.aaload, 1) := by decide +kernel
theorem d_Mo_answer_269 : decode c_Mo_answer 269 = .ok (.getfield 71, 3) := by decide +kernel
theorem d_Mo_answer_272 : decode c_Mo_answer 272 = .ok (.astore_n 3, 1) := by decide +kernel
theorem d_Mo_answer_273 : decode c_Mo_answer 273 = .ok (.iinc 9 1, 3) := by decide +kernel
theorem d_Mo_answer_276 : decode c_Mo_answer 276 = .ok (.goto (-55), 3) := by decide +kernel
theorem d_Mo_answer_279 : decode c_Mo_answer 279 = .ok (.goto 13, 3) := by decide +kernel
theorem d_Mo_answer_282 : decode c_Mo_answer 282 = .ok (.aload_n 0, 1) := by decide +kernel
theorem d_Mo_answer_283 : decode c_Mo_answer 283 = .ok (.aload_n 3, 1) := by decide +kernel
theorem d_Mo_answer_284 : decode c_Mo_answer 284 = .ok (.aload 7, 2) := by decide +kernel
theorem d_Mo_answer_286 : decode c_Mo_answer 286 = .ok (.iload_n 2, 1) := by decide +kernel
theorem d_Mo_answer_287 : decode c_Mo_answer 287 = .ok (.iload 8, 2) := by decide +kernel
theorem d_Mo_answer_289 : decode c_Mo_answer 289 = .ok (.invokevirtual 221, 3) := by decide +kernel
theorem d_Mo_answer_292 : decode c_Mo_answer 292 = .ok (.goto (-284), 3) := by decide +kernel
theorem d_Mo_answer_295 : decode c_Mo_answer 295 = .ok (.return_, 1) := by decide +kernel
abbrev rm_Mo_answer (c9 s9 : Nat) : Room := { frames := 13, cells := c9, slots := s9, locals := 420 }
set_option maxHeartbeats 4000000 in
set_option maxRecDepth 100000 in
/-- answer(question, t), of the reference -/
theorem t_Mo_answer (l : Launch) (E : zc_E) (G : zg_G) (a c1 c2 : Nat) (ro : zRo) (lo : np_N) (rs : List zRt) (Wz : zW) (wp : zWs) (th co se : Int32) (tp : List Int32) (v19 v20 : Value) (hst : rSt E G ro a c1 c2 lo rs Wz ([]) True (wln Wz, 0, [], wp) th tp co se v19 v20) (b1 : Nat) (ls1 : np_N) (hn1 : rNm E G ro b1 ls1) (t : Int32) (hco0 : co = 0) (hcn : ∀ x, ((rVf rs) x 5).length ≤ 1) (hB : rBd c2 (vfo (rVf rs) lo (zscu se) t 9 Wz ls1).2) : zMv l E y_Mo_answer c_Mo_answer 10 (rm_Mo_answer (rPi c1 c2 ((vfo (rVf rs) lo (zscu se) t 9 Wz ls1).2) 0 - rPi c1 c2 Wz 0 + 40) (rPi c1 c2 ((vfo (rVf rs) lo (zscu se) t 9 Wz ls1).2) 0 - rPi c1 c2 Wz 0 + 2700)) [.ref a, .ref b1, .int t] G (fun (G2 : zg_G) => ∃ r2, rSt E G2 r2 a c1 c2 lo rs ((vfo (rVf rs) lo (zscu se) t 9 Wz ls1).2) ([]) True (wln ((vfo (rVf rs) lo (zscu se) t 9 Wz ls1).2), 0, [], wp) th tp (vfo (rVf rs) lo (zscu se) t 9 Wz ls1).1 se v19 v20 ∧ zfr ro zKr G r2 G2) := by
  refine zMv.of (by decide) (Nat.le_of_ble_eq_true rfl) ?_
  intro p e s m args below meth c Q hZ hG hret ls hl
  obtain ⟨hx, hb, hr, hts, hown, hlocks, hml, hnm, hbase, hK, hN, hQ⟩ := hZ
  have hl : lv_has ls 10 [(0, .ref a), (1, .ref b1), (2, .int t)] := hl
  have hS : zg_S (zc_b E) s.heap s.heap [] := va_S.rf
  have hc1 : 0 < c1 := by have := hst.cs.1; omega
  have hc2 : 0 < c2 := by have := hst.cs.2.1; omega
  have hgd := hst.gd
  obtain ⟨h, eh0, eh1, eh2, hc⟩ := id hst
  obtain ⟨ra, rb, ⟨fm, rt1, rt2, rt3, rt4⟩, rtl, ⟨fo, rn1, rn2, rn3, rn4, rn5⟩, rr, rg, ras⟩ := id hc
  rw [eh0] at ra
  obtain ⟨⟨fr, rm4, hfr⟩, hn2, hRs⟩ := id rr.1
  have hn_b1 : rNm E G ro b1 ls1 := hn1
  obtain ⟨f_b1, n1_b1, n2_b1, n3_b1, n4_b1, n5_b1⟩ := id hn_b1
  have sm_b1 := n3_b1.2
  refine lv_aload_n hx hb d_Mo_answer_0 rfl (lv_at hl 1 rfl) ?_
  refine lv_astore_n (lv' := [(3, .ref b1), (0, .ref a), (1, .ref b1), (2, .int t)]) hx hb d_Mo_answer_1 rfl hl (by decide) rfl (fun ls hl => ?_)
  refine lv_iconst (v := 0) hx hb d_Mo_answer_2 (by decide) ?_
  refine zi_as (y := nI 0) (nI_0.symm) ?_
  refine lv_istore (lv' := [(4, .int (nI 0)), (3, .ref b1), (0, .ref a), (1, .ref b1), (2, .int t)]) hx hb d_Mo_answer_3 hl (by decide) rfl (fun ls hl => ?_)
  refine lv_iconst (v := 1) hx hb d_Mo_answer_5 (by decide) ?_
  refine lv_istore (lv' := [(5, .int 1), (4, .int (nI 0)), (3, .ref b1), (0, .ref a), (1, .ref b1), (2, .int t)]) hx hb d_Mo_answer_6 hl (by decide) rfl (fun ls hl => ?_)
  have loop8 : ∀ (N : Nat) (Gv : zg_G) (k : Nat) (on9 : Int32) (bx : Nat) (lsx : np_N) (W8 : zW) (ro8 : zRo) (H : Heap) (locs : List Loc), ((10 - k) + (if on9 = 0 then 0 else 1)) < N → (k ≤ 9) → ((on9 = 1 ∧ vfo (rVf rs) lo (zscu se) t (9 - k) W8 lsx = vfo (rVf rs) lo (zscu se) t 9 Wz ls1) ∨ (on9 = 0 ∧ (0, W8) = vfo (rVf rs) lo (zscu se) t 9 Wz ls1)) → (rNm E Gv ro8 bx lsx) → (zLe Wz W8) → (rSt E Gv ro8 a c1 c2 lo rs W8 ([]) True (wln W8, 0, [], wp) th tp co se v19 v20) → (zfr ro zKr G ro8 Gv) → zP E Gv H → zg_S (zc_b E) s.heap H locs → ∀ (ls : Array Slot), lv_has ls 10 [(0, .ref a), (2, .int t), (3, .ref bx), (4, .int (nI k)), (5, .int on9)] → W p l e (rm_Mo_answer (rPi c1 c2 ((vfo (rVf rs) lo (zscu se) t 9 Wz ls1).2) 0 - rPi c1 c2 Wz 0 + 40) (rPi c1 c2 ((vfo (rVf rs) lo (zscu se) t 9 Wz ls1).2) 0 - rPi c1 c2 Wz 0 + 2700)) s m args below meth c H locs (rPi c1 c2 W8 0 - rPi c1 c2 Wz 0 + 3 * k + (if on9 = 0 then 3 else 0)) (rPi c1 c2 W8 0 - rPi c1 c2 Wz 0 + 260 * k + (if on9 = 0 then 260 else 0)) Q (F0 m 8 ls []) := by
    intro N
    induction N with
    | zero =>
      intro Gv k on9 bx lsx W8 ro8 H locs hlt
      exact absurd hlt (Nat.not_lt_zero _)
    | succ N ih =>
      intro Gv k on9 bx lsx W8 ro8 H locs hlt hk hon hnx hle8 hst8 hf8 hG hS ls hl
      have ih8 := ih
      obtain ⟨h8, eh08, eh18, eh28, hc8⟩ := id hst8
      obtain ⟨ra8, rb8, ⟨fm8, rt18, rt28, rt38, rt48⟩, rtl8, ⟨fo8, rn18, rn28, rn38, rn48, rn58⟩, rr8, rg8, ras8⟩ := id hc8
      rw [eh08] at ra8
      obtain ⟨⟨fr8, rm48, hfr8⟩, hn28, hRs8⟩ := id rr8.1
      have hn_bx8 : rNm E Gv ro8 bx lsx := hnx
      obtain ⟨f_bx8, n1_bx8, n2_bx8, n3_bx8, n4_bx8, n5_bx8⟩ := id hn_bx8
      have sm_bx8 := n3_bx8.2
      have hpz8 : rPi c1 c2 Wz 0 ≤ rPi c1 c2 W8 0 := rPi_le hc1 hc2 hle8 (rPw_le hle8)
      have hle9 : zLe W8 (vfo (rVf rs) lo (zscu se) t 9 Wz ls1).2 := by
        rcases hon with ⟨-, z⟩ | ⟨-, z⟩
        · rw [← z]; exact vfo_le _ _ _
        · rw [← z]; exact zLe.rf _
      have hpi9 := rPi_le (n := 0) (m := 0) hc1 hc2 hle9 (rPw_le hle9)
      have hb8 := hB.le hc2 hle9
      have hite : (if on9 = 0 then 260 else 0) ≤ 260 := by split <;> omega
      have hite3 : (if on9 = 0 then 3 else 0) ≤ 3 := by split <;> omega
      refine lv_iload hx hb d_Mo_answer_8 (lv_at hl 4 rfl) ?_
      refine lv_if_eq (tgt := 295) hx hb d_Mo_answer_10 (by decide) (fun c10 => ?_) (fun c10 => ?_)
      · have htot : (0, W8) = vfo (rVf rs) lo (zscu se) t 9 Wz ls1 := (hon.resolve_left (fun z => by rw [z.1] at c10; exact absurd c10 (by decide))).2
        exact hret _ _ _ _ _ _ _ (⟨ro8, by rw [← htot]; show rSt E Gv ro8 a c1 c2 lo rs W8 ([]) True (wln W8, 0, [], wp) th tp 0 se v19 v20; rw [hco0] at hst8; exact hst8, hf8⟩) hG hS (by dsimp only; omega) (by dsimp only; omega) d_Mo_answer_295
      · have hlt8 := hlt
        rw [if_neg c10] at hlt8
        refine zW_more (cells2 := rPi c1 c2 W8 0 - rPi c1 c2 Wz 0 + 3 * k) (slots2 := rPi c1 c2 W8 0 - rPi c1 c2 Wz 0 + 260 * k) (by rw [if_neg c10]; exact Nat.le_refl _) (by rw [if_neg c10]; exact Nat.le_refl _) ?_
        refine lv_iload hx hb d_Mo_answer_13 (lv_at hl 3 rfl) ?_
        refine lv_bipush (v := 9) hx hb d_Mo_answer_15 (by decide) ?_
        refine lv_icmp_ge (tgt := 295) hx hb d_Mo_answer_17 (by decide) (fun c17 => ?_) (fun c17 => ?_)
        · have b17 : 9 ≤ k := (nI_leI (a := 9) (b := k) (by omega) (by omega)).mp c17
          have htot : (0, W8) = vfo (rVf rs) lo (zscu se) t 9 Wz ls1 := by
            have q := (hon.resolve_right (fun z => c10 z.1)).2
            rw [show 9 - k = 0 by omega] at q; exact q
          exact hret _ _ _ _ _ _ _ (⟨ro8, by rw [← htot]; show rSt E Gv ro8 a c1 c2 lo rs W8 ([]) True (wln W8, 0, [], wp) th tp 0 se v19 v20; rw [hco0] at hst8; exact hst8, hf8⟩) hG hS (by dsimp only; omega) (by dsimp only; omega) d_Mo_answer_295
        · have b17 : ¬ 9 ≤ k := fun q => c17 ((nI_leI (a := 9) (b := k) (by omega) (by omega)).mpr q)
          have hon1 := (hon.resolve_right (fun z => c10 z.1)).2
          obtain ⟨n9, hn9⟩ : ∃ n, 9 - k = n + 1 := ⟨9 - k - 1, by omega⟩
          rw [hn9] at hon1
          refine lv_aload_n hx hb d_Mo_answer_20 rfl (lv_at hl 2 rfl) ?_
          refine lv_aload_n hx hb d_Mo_answer_21 rfl (lv_at hl 0 rfl) ?_
          refine zg_get (ci := 11) (C := "ZoneAnswersModel") (T := T_Mo) (N := 21) hx hb hts zi_Mo hown hK hG ra8 rfl 3 (by decide) (hts _ w_1284) (fun _ h9 => h9) rfl d_Mo_answer_22 ?_
          refine zk_i (va_runS (As := [.ref bx, .ref (h8 3)]) (rest := []) ⟨hx, hb, hml, hown, hts⟩ (t_Ns_below l E Gv bx lsx f_bx8 n1_bx8 n2_bx8 n3_bx8 (h8 3) lo fo8 rn18 rn28 rn38) (zcS 2 hts w_1392 w_1393 w_33 w_1394 (by decide +kernel) ⟨Nat.le_of_ble_eq_true rfl, Nat.le_of_ble_eq_true rfl⟩) (zc_pre hbase hK hN hQ hG hS) rfl rfl hl.1 rfl (lv_room (Nat.le_of_ble_eq_true rfl)) d_Mo_answer_25 ⟨(by dsimp only [List.length_nil]; omega), (by dsimp only [List.length_nil]; omega)⟩) hS (fun r25 G25 H locs hp25 hG hS => ?_)
          have hG : zP E Gv H := hp25.2 ▸ hG
          refine lv_if_eq (tgt := 295) hx hb d_Mo_answer_28 (by decide) (fun c28 => ?_) (fun c28 => ?_)
          · have htot : (0, W8) = vfo (rVf rs) lo (zscu se) t 9 Wz ls1 := by rw [← hon1]; exact (vfo_out (hp25.1.z c28)).symm
            exact hret _ _ _ _ _ _ _ (⟨ro8, by rw [← htot]; show rSt E Gv ro8 a c1 c2 lo rs W8 ([]) True (wln W8, 0, [], wp) th tp 0 se v19 v20; rw [hco0] at hst8; exact hst8, hf8⟩) hG hS (by dsimp only; omega) (by dsimp only; omega) d_Mo_answer_295
          · have hlox := hp25.1.nz c28
            refine lv_aload_n hx hb d_Mo_answer_31 rfl (lv_at hl 0 rfl) ?_
            refine lv_aload_n hx hb d_Mo_answer_32 rfl (lv_at hl 2 rfl) ?_
            have hGo33 := hG
            refine zk_i (va_runV (As := [.ref bx]) (rest := []) ⟨hx, hb, hml, hown, hts⟩ (t_Mo_cutOver_s l hst8 bx lsx hnx) (zcV 1 hts w_1456 w_1458 wp_37 w_30 w_1459 (by decide +kernel) ⟨Nat.le_of_ble_eq_true rfl, Nat.le_of_ble_eq_true rfl⟩) (zc_preV hbase hK hN hQ hG hS ra8 rfl) rfl rfl hl.1 rfl (lv_room (Nat.le_of_ble_eq_true rfl)) d_Mo_answer_33 ⟨(by dsimp only [List.length_nil]; omega), (by dsimp only [List.length_nil]; omega)⟩) hS (fun r33 G33 H locs hp33 hG hS => ?_)
            rcases hp33 with ⟨⟨kc, hkc, hvy, er33⟩ | ⟨hvn, er33⟩, eg33⟩
            · have hG : zP E Gv H := eg33 ▸ hG
              refine zi_as (y := nI (np_pos lsx kc)) er33 ?_
              have hpk := np_pos_le lsx kc hkc
              refine lv_istore (lv' := [(6, .int (nI (np_pos lsx kc))), (0, .ref a), (2, .int t), (3, .ref bx), (4, .int (nI k)), (5, .int on9)]) hx hb d_Mo_answer_36 hl (by decide) rfl (fun ls hl => ?_)
              refine lv_iload hx hb d_Mo_answer_38 (lv_at hl 0 rfl) ?_
              refine lv_if_lt (tgt := 67) hx hb d_Mo_answer_40 (by decide) (fun c40 => ?_) (fun c40 => ?_)
              · have b40 : (np_pos lsx kc) < 0 := (nI_ltI (a := (np_pos lsx kc)) (b := 0) (by omega) (by omega)).mp c40
                exact absurd c40 (nI_pos (by omega))
              · have b40 : ¬ (np_pos lsx kc) < 0 := fun q => c40 ((nI_ltI (a := (np_pos lsx kc)) (b := 0) (by omega) (by omega)).mpr q)
                refine lv_iload hx hb d_Mo_answer_43 (lv_at hl 0 rfl) ?_
                refine lv_if_ne (tgt := 54) hx hb d_Mo_answer_45 (by decide) (fun c45 => ?_) (fun c45 => ?_)
                · have b45 : ¬ (np_pos lsx kc) = 0 := fun q => c45 ((nI_eq (a := (np_pos lsx kc)) (b := 0) (by omega) (by omega)).mpr q)
                  have hnd : ¬ (t = 43 ∧ lsx.drop kc = lsx) := fun z => b45 ((np_pos_0 hkc).mpr (by have q := congrArg List.length z.2; rw [List.length_drop] at q; omega))
                  have htot : vfo (rVf rs) lo (zscu se) t 9 Wz ls1 = (0, vrf (rVf rs) lo (zscu se) W8 (lsx.drop kc)) := by rw [← hon1]; exact vfo_ref hlox hvy hnd
                  have hbd9 : rBd c2 (vrf (rVf rs) lo (zscu se) W8 (lsx.drop kc)) := by have q := hB; rw [htot] at q; exact q
                  have hPt : rPi c1 c2 ((vfo (rVf rs) lo (zscu se) t 9 Wz ls1).2) 0 = rPi c1 c2 (vrf (rVf rs) lo (zscu se) W8 (lsx.drop kc)) 0 := by rw [htot]
                  have hlev : zLe (W8) (vrf (rVf rs) lo (zscu se) W8 (lsx.drop kc)) := vrf_le _ _ _ _ _
                  have hpiv := rPi_le (n := 0) (m := 0) hc1 hc2 hlev (rPw_le hlev)
                  have hwlv := wln_le hlev
                  refine lv_aload_n hx hb d_Mo_answer_54 rfl (lv_at hl 1 rfl) ?_
                  refine lv_aload_n hx hb d_Mo_answer_55 rfl (lv_at hl 3 rfl) ?_
                  refine lv_iload hx hb d_Mo_answer_56 (lv_at hl 0 rfl) ?_
                  refine lv_aload_n hx hb d_Mo_answer_58 rfl (lv_at hl 3 rfl) ?_
                  refine zg_alen hx hb hK hG 0 n1_bx8 rfl (v := nI (np_len lsx)) rfl d_Mo_answer_59 ?_
                  have hGo60 := hG
                  refine zk_q (va_runS (As := [.ref bx, .int (nI (np_pos lsx kc)), .int (nI (np_len lsx))]) (rest := [.ref a]) ⟨hx, hb, hml, hown, hts⟩ (t_Ns_cut l E Gv bx (np_len lsx) f_bx8 n1_bx8 n4_bx8 (by omega) (np_pos lsx kc) (np_len lsx) (by omega) (Nat.le_refl _)) (zcS 3 hts w_1391 w_1373 w_33 w_1374 (by decide +kernel) ⟨Nat.le_of_ble_eq_true rfl, Nat.le_of_ble_eq_true rfl⟩) (zc_pre hbase hK hN hQ hG hS) rfl rfl hl.1 rfl (lv_room (Nat.le_of_ble_eq_true rfl)) d_Mo_answer_60 ⟨(by dsimp only [List.length_nil]; omega), (by dsimp only [List.length_nil]; omega)⟩) hS (fun r60 G60 H locs hp60 hG hS => ?_)
                  obtain ⟨qc, f260, er60, hq60, hx60, hq260, hft60, hcp60⟩ := hp60
                  have hld := np_len_drop lsx kc hkc
                  rw [show np_len lsx - np_pos lsx kc = np_len (lsx.drop kc) by omega] at hq260
                  have hnfqd : np_f (lsx.drop kc) f260 := fun j hj => by rw [hcp60 j (by omega)]; exact (n2_bx8.drop hkc) j hj
                  have hngqd := n3_bx8.drop hkc
                  obtain ⟨hnqqd, hzqd⟩ := rNm.new (ro := ro8) hq60 hx60 hq260 hnfqd hngqd hft60
                  have hstqd := hst8.z hzqd
                  have hzqd := hzqd.w (K2 := zKr) (fun _ z => z.elim)
                  have hfqd := hf8.tr hzqd
                  refine zr_some (a := qc) er60 ?_
                  refine zW_more (cells2 := rPi c1 c2 W8 0 - rPi c1 c2 Wz 0 + 3 * k + 3) (slots2 := rPi c1 c2 W8 0 - rPi c1 c2 Wz 0 + 260 * k + 260) (by dsimp only [List.length_nil]; omega) (by dsimp only [List.length_nil]; omega) ?_
                  obtain ⟨hqd, eh0qd, eh1qd, eh2qd, hcqd⟩ := id hstqd
                  obtain ⟨raqd, rbqd, ⟨fmqd, rt1qd, rt2qd, rt3qd, rt4qd⟩, rtlqd, ⟨foqd, rn1qd, rn2qd, rn3qd, rn4qd, rn5qd⟩, rrqd, rgqd, rasqd⟩ := id hcqd
                  rw [eh0qd] at raqd
                  obtain ⟨⟨frqd, rm4qd, hfrqd⟩, hn2qd, hRsqd⟩ := id rrqd.1
                  have hn_bxqd : rNm E G60 (zrn ro8 qc (0, 0)) bx lsx := hn_bx8.fr hzqd zKr_0
                  obtain ⟨f_bxqd, n1_bxqd, n2_bxqd, n3_bxqd, n4_bxqd, n5_bxqd⟩ := id hn_bxqd
                  have sm_bxqd := n3_bxqd.2
                  obtain ⟨f_qcqd, n1_qcqd, n2_qcqd, n3_qcqd, n4_qcqd, n5_qcqd⟩ := id hnqqd
                  have sm_qcqd := n3_qcqd.2
                  have hGo63 := hG
                  refine zk_v (va_runV (As := [.ref qc]) (rest := []) ⟨hx, hb, hml, hown, hts⟩ (t_Mo_delegated l E G60 a c1 c2 (zrn ro8 qc (0, 0)) lo rs W8 wp th co se tp v19 v20 hstqd qc (lsx.drop kc) hnqqd (rco_self hvy) hbd9) (zcV 1 hts w_1471 w_1473 wp_39 w_30 w_1474 (by decide +kernel) ⟨Nat.le_of_ble_eq_true rfl, Nat.le_of_ble_eq_true rfl⟩) (zc_preV hbase hK hN hQ hG hS raqd rfl) rfl rfl hl.1 rfl (lv_room (Nat.le_of_ble_eq_true rfl)) d_Mo_answer_63 ⟨(by dsimp only [List.length_nil]; omega), (by dsimp only [List.length_nil]; omega)⟩) hS (fun G63 H locs hp63 hG hS => ?_)
                  obtain ⟨roqv, hstqv, hsqv⟩ := hp63
                  have hfqv : zfr ro zKr G roqv G63 := hfqd.tr hsqv
                  refine zW_more (cells2 := rPi c1 c2 (vrf (rVf rs) lo (zscu se) W8 (lsx.drop kc)) 0 - rPi c1 c2 Wz 0 + 3 * k + 3) (slots2 := rPi c1 c2 (vrf (rVf rs) lo (zscu se) W8 (lsx.drop kc)) 0 - rPi c1 c2 Wz 0 + 260 * k + 260) (by dsimp only [List.length_nil]; omega) (by dsimp only [List.length_nil]; omega) ?_
                  obtain ⟨hqv, eh0qv, eh1qv, eh2qv, hcqv⟩ := id hstqv
                  obtain ⟨raqv, rbqv, ⟨fmqv, rt1qv, rt2qv, rt3qv, rt4qv⟩, rtlqv, ⟨foqv, rn1qv, rn2qv, rn3qv, rn4qv, rn5qv⟩, rrqv, rgqv, rasqv⟩ := id hcqv
                  rw [eh0qv] at raqv
                  obtain ⟨⟨frqv, rm4qv, hfrqv⟩, hn2qv, hRsqv⟩ := id rrqv.1
                  have hn_bxqv : rNm E G63 roqv bx lsx := hn_bxqd.fr hsqv zKr_0
                  obtain ⟨f_bxqv, n1_bxqv, n2_bxqv, n3_bxqv, n4_bxqv, n5_bxqv⟩ := id hn_bxqv
                  have sm_bxqv := n3_bxqv.2
                  have hn_qcqv : rNm E G63 roqv qc (lsx.drop kc) := hnqqd.fr hsqv zKr_0
                  obtain ⟨f_qcqv, n1_qcqv, n2_qcqv, n3_qcqv, n4_qcqv, n5_qcqv⟩ := id hn_qcqv
                  have sm_qcqv := n3_qcqv.2
                  exact hret _ _ _ _ _ _ _ (⟨roqv, by rw [htot]; show rSt E G63 roqv a c1 c2 lo rs (vrf (rVf rs) lo (zscu se) W8 (lsx.drop kc)) ([]) True (wln (vrf (rVf rs) lo (zscu se) W8 (lsx.drop kc)), 0, [], wp) th tp 0 se v19 v20; rw [hco0] at hstqv; exact hstqv, hfqv⟩) hG hS (by dsimp only [List.length_nil]; omega) (by dsimp only [List.length_nil]; omega) d_Mo_answer_66
                · have b45 : (np_pos lsx kc) = 0 := (nI_eq (a := (np_pos lsx kc)) (b := 0) (by omega) (by omega)).mp c45
                  have hkc0 : kc = 0 := (np_pos_0 hkc).mp b45
                  refine lv_iload_n hx hb d_Mo_answer_48 rfl (lv_at hl 2 rfl) ?_
                  refine lv_bipush (v := 43) hx hb d_Mo_answer_49 (by decide) ?_
                  refine lv_icmp_eq (tgt := 67) hx hb d_Mo_answer_51 (by decide) (fun c51 => ?_) (fun c51 => ?_)
                  · have hvnc : vnc (rVf rs) lo t lsx := fun c hc => by rw [hvy, hkc0] at hc; cases hc; exact ⟨c51, rfl⟩
                    refine lv_aload_n hx hb d_Mo_answer_67 rfl (lv_at hl 3 rfl) ?_
                    refine lv_astore (lv' := [(7, .ref bx), (6, .int (nI (np_pos lsx kc))), (0, .ref a), (2, .int t), (3, .ref bx), (4, .int (nI k)), (5, .int on9)]) hx hb d_Mo_answer_68 hl (by decide) rfl (fun ls hl => ?_)
                    refine lv_aload_n hx hb d_Mo_answer_70 rfl (lv_at hl 2 rfl) ?_
                    refine lv_aload_n hx hb d_Mo_answer_71 rfl (lv_at hl 4 rfl) ?_
                    refine lv_iconst (v := 0) hx hb d_Mo_answer_72 (by decide) ?_
                    refine zi_as (y := nI (np_pos lsx 0)) (by rw [np_pos0]; rfl) ?_
                    refine zk_i (va_runV (As := [.ref bx, .int (nI (np_pos lsx 0))]) (rest := []) ⟨hx, hb, hml, hown, hts⟩ (t_Mo_there_s l hst8 0 bx lsx hnx (Nat.zero_le _)) (zcV 2 hts w_1540 w_1542 wp_52 w_30 w_1543 (by decide +kernel) ⟨Nat.le_of_ble_eq_true rfl, Nat.le_of_ble_eq_true rfl⟩) (zc_preV hbase hK hN hQ hG hS ra8 rfl) rfl rfl hl.1 rfl (lv_room (Nat.le_of_ble_eq_true rfl)) d_Mo_answer_73 ⟨(by dsimp only [List.length_nil]; omega), (by dsimp only [List.length_nil]; omega)⟩) hS (fun r73 G73 H locs hp73 hG hS => ?_)
                    have hG : zP E Gv H := hp73.2 ▸ hG
                    refine lv_if_ne (tgt := 135) hx hb d_Mo_answer_76 (by decide) (fun c76 => ?_) (fun c76 => ?_)
                    · have hth : vth (rVf rs) lsx := (hp73.1.nz c76).2.2
                      have hfdf : vfd (rVf rs) lsx = lsx := vfd_y hth
                      have hor : vth (rVf rs) lsx ∨ vD (rVf rs) (vfd (rVf rs) lsx) := Or.inl hth
                      refine lv_aload hx hb d_Mo_answer_135 (lv_at hl 0 rfl) ?_
                      refine lv_aload_n hx hb d_Mo_answer_137 rfl (lv_at hl 4 rfl) ?_
                      refine zk_i (va_runS (As := [.ref bx, .ref bx]) (rest := []) ⟨hx, hb, hml, hown, hts⟩ (t_Ns_same l E Gv bx (np_len (lsx)) f_bx8 n1_bx8 bx (np_len lsx) f_bx8 n1_bx8 (by omega) (by omega)) (zcS 2 hts w_1405 w_1406 w_33 w_1407 (by decide +kernel) ⟨Nat.le_of_ble_eq_true rfl, Nat.le_of_ble_eq_true rfl⟩) (zc_pre hbase hK hN hQ hG hS) rfl rfl hl.1 rfl (lv_room (Nat.le_of_ble_eq_true rfl)) d_Mo_answer_138 ⟨(by dsimp only [List.length_nil]; omega), (by dsimp only [List.length_nil]; omega)⟩) hS (fun r138 G138 H locs hp138 hG hS => ?_)
                      have hG : zP E Gv H := hp138.2 ▸ hG
                      refine lv_if_ne (tgt := 148) hx hb d_Mo_answer_141 (by decide) (fun c141 => ?_) (fun c141 => ?_)
                      · have hzw : zb 0 (¬ lsx = lsx) := zb.f (fun z => z rfl)
                        refine lv_iconst (v := 0) hx hb d_Mo_answer_148 (by decide) ?_
                        refine lv_istore (lv' := [(8, .int 0), (7, .ref bx), (6, .int (nI (np_pos lsx kc))), (0, .ref a), (2, .int t), (3, .ref bx), (4, .int (nI k)), (5, .int on9)]) hx hb d_Mo_answer_149 hl (by decide) rfl (fun ls hl => ?_)
                        refine lv_iload_n hx hb d_Mo_answer_151 rfl (lv_at hl 4 rfl) ?_
                        refine lv_iconst (v := 5) hx hb d_Mo_answer_152 (by decide) ?_
                        refine lv_icmp_eq (tgt := 178) hx hb d_Mo_answer_153 (by decide) (fun c153 => ?_) (fun c153 => ?_)
                        · have htot : vfo (rVf rs) lo (zscu se) t 9 Wz ls1 = (0, vtl (rVf rs) lo (zscu se) W8 lsx (lsx) t) := by rw [← hon1, vfo_tell hlox hvnc hor (by rw [hfdf]; exact Or.inl c153), hfdf]
                          have hbd9 : rBd c2 (vtl (rVf rs) lo (zscu se) W8 lsx (lsx) t) := by have q := hB; rw [htot] at q; exact q
                          have hPt : rPi c1 c2 ((vfo (rVf rs) lo (zscu se) t 9 Wz ls1).2) 0 = rPi c1 c2 (vtl (rVf rs) lo (zscu se) W8 lsx (lsx) t) 0 := by rw [htot]
                          have hlet : zLe (W8) (vtl (rVf rs) lo (zscu se) W8 lsx (lsx) t) := vtl_le _ _ _ _ _ _ _
                          have hpit := rPi_le (n := 0) (m := 0) hc1 hc2 hlet (rPw_le hlet)
                          have hwlt := wln_le hlet
                          refine lv_iconst (v := 0) hx hb d_Mo_answer_178 (by decide) ?_
                          refine lv_istore (lv' := [(5, .int 0), (8, .int 0), (7, .ref bx), (6, .int (nI (np_pos lsx kc))), (0, .ref a), (2, .int t), (3, .ref bx), (4, .int (nI k))]) hx hb d_Mo_answer_179 hl (by decide) rfl (fun ls hl => ?_)
                          refine lv_iload hx hb d_Mo_answer_181 (lv_at hl 0 rfl) ?_
                          refine lv_if_eq (tgt := 282) hx hb d_Mo_answer_183 (by decide) (fun c183 => ?_) (fun c183 => ?_)
                          · have b183 : 0 = 0 := (nI_eq (a := 0) (b := 0) (by omega) (by omega)).mp c183
                            refine lv_aload_n hx hb d_Mo_answer_282 rfl (lv_at hl 4 rfl) ?_
                            refine lv_aload_n hx hb d_Mo_answer_283 rfl (lv_at hl 6 rfl) ?_
                            refine lv_aload hx hb d_Mo_answer_284 (lv_at hl 2 rfl) ?_
                            refine lv_iload_n hx hb d_Mo_answer_286 rfl (lv_at hl 5 rfl) ?_
                            refine lv_iload hx hb d_Mo_answer_287 (lv_at hl 1 rfl) ?_
                            have hGo289 := hG
                            refine zk_v (va_runV (As := [.ref bx, .ref bx, .int t, .int 0]) (rest := []) ⟨hx, hb, hml, hown, hts⟩ (t_Mo_held l E Gv a c1 c2 ro8 lo rs W8 wp th co se tp v19 v20 hst8 bx lsx hn_bx8 bx (lsx) hn_bx8 t 0 hzw (fun z => absurd rfl z) hlox (fun z => absurd rfl z) hbd9) (zcV 4 hts w_1564 w_1566 wp_57 w_30 w_1567 (by decide +kernel) ⟨Nat.le_of_ble_eq_true rfl, Nat.le_of_ble_eq_true rfl⟩) (zc_preV hbase hK hN hQ hG hS ra8 rfl) rfl rfl hl.1 rfl (lv_room (Nat.le_of_ble_eq_true rfl)) d_Mo_answer_289 ⟨(by dsimp only [List.length_nil]; omega), (by dsimp only [List.length_nil]; omega)⟩) hS (fun G289 H locs hp289 hG hS => ?_)
                            obtain ⟨roqh, hstqh, hsqh⟩ := hp289
                            have hfqh : zfr ro zKr G roqh G289 := hf8.tr hsqh
                            refine zW_more (cells2 := rPi c1 c2 (vtl (rVf rs) lo (zscu se) W8 lsx (lsx) t) 0 - rPi c1 c2 Wz 0 + 3 * k) (slots2 := rPi c1 c2 (vtl (rVf rs) lo (zscu se) W8 lsx (lsx) t) 0 - rPi c1 c2 Wz 0 + 260 * k) (by dsimp only [List.length_nil]; omega) (by dsimp only [List.length_nil]; omega) ?_
                            obtain ⟨hqh, eh0qh, eh1qh, eh2qh, hcqh⟩ := id hstqh
                            obtain ⟨raqh, rbqh, ⟨fmqh, rt1qh, rt2qh, rt3qh, rt4qh⟩, rtlqh, ⟨foqh, rn1qh, rn2qh, rn3qh, rn4qh, rn5qh⟩, rrqh, rgqh, rasqh⟩ := id hcqh
                            rw [eh0qh] at raqh
                            obtain ⟨⟨frqh, rm4qh, hfrqh⟩, hn2qh, hRsqh⟩ := id rrqh.1
                            have hn_bxqh : rNm E G289 roqh bx lsx := hn_bx8.fr hsqh zKr_0
                            obtain ⟨f_bxqh, n1_bxqh, n2_bxqh, n3_bxqh, n4_bxqh, n5_bxqh⟩ := id hn_bxqh
                            have sm_bxqh := n3_bxqh.2
                            refine lv_goto (tgt := 8) hx hb d_Mo_answer_292 (by decide) ?_
                            refine zW_more (cells2 := rPi c1 c2 (vtl (rVf rs) lo (zscu se) W8 lsx (lsx) t) 0 - rPi c1 c2 Wz 0 + 3 * k + (if (0 : Int32) = 0 then 3 else 0)) (slots2 := rPi c1 c2 (vtl (rVf rs) lo (zscu se) W8 lsx (lsx) t) 0 - rPi c1 c2 Wz 0 + 260 * k + (if (0 : Int32) = 0 then 260 else 0)) (by rw [if_pos rfl]; omega) (by rw [if_pos rfl]; omega) ?_
                            exact ih G289 k 0 bx lsx (vtl (rVf rs) lo (zscu se) W8 lsx (lsx) t) roqh _ _ (by first | (rw [if_neg (by decide)]; omega) | (rw [if_pos rfl]; omega)) (hk) (Or.inr ⟨rfl, htot.symm⟩) (hn_bxqh) (hle8.tr hlet) (hstqh) (hfqh) hG hS ls (lv_sub hl [4, 5, 6, 7, 0] rfl)
                          · have b183 : ¬ 0 = 0 := fun q => c183 ((nI_eq (a := 0) (b := 0) (by omega) (by omega)).mpr q)
                            exact absurd rfl c183
                        · refine lv_iload_n hx hb d_Mo_answer_156 rfl (lv_at hl 4 rfl) ?_
                          refine lv_sipush (v := 255) hx hb d_Mo_answer_157 (by decide) ?_
                          refine lv_icmp_eq (tgt := 178) hx hb d_Mo_answer_160 (by decide) (fun c160 => ?_) (fun c160 => ?_)
                          · have htot : vfo (rVf rs) lo (zscu se) t 9 Wz ls1 = (0, vtl (rVf rs) lo (zscu se) W8 lsx (lsx) t) := by rw [← hon1, vfo_tell hlox hvnc hor (by rw [hfdf]; exact Or.inr (Or.inl c160)), hfdf]
                            have hbd9 : rBd c2 (vtl (rVf rs) lo (zscu se) W8 lsx (lsx) t) := by have q := hB; rw [htot] at q; exact q
                            have hPt : rPi c1 c2 ((vfo (rVf rs) lo (zscu se) t 9 Wz ls1).2) 0 = rPi c1 c2 (vtl (rVf rs) lo (zscu se) W8 lsx (lsx) t) 0 := by rw [htot]
                            have hlet : zLe (W8) (vtl (rVf rs) lo (zscu se) W8 lsx (lsx) t) := vtl_le _ _ _ _ _ _ _
                            have hpit := rPi_le (n := 0) (m := 0) hc1 hc2 hlet (rPw_le hlet)
                            have hwlt := wln_le hlet
                            refine lv_iconst (v := 0) hx hb d_Mo_answer_178 (by decide) ?_
                            refine lv_istore (lv' := [(5, .int 0), (8, .int 0), (7, .ref bx), (6, .int (nI (np_pos lsx kc))), (0, .ref a), (2, .int t), (3, .ref bx), (4, .int (nI k))]) hx hb d_Mo_answer_179 hl (by decide) rfl (fun ls hl => ?_)
                            refine lv_iload hx hb d_Mo_answer_181 (lv_at hl 0 rfl) ?_
                            refine lv_if_eq (tgt := 282) hx hb d_Mo_answer_183 (by decide) (fun c183 => ?_) (fun c183 => ?_)
                            · have b183 : 0 = 0 := (nI_eq (a := 0) (b := 0) (by omega) (by omega)).mp c183
                              refine lv_aload_n hx hb d_Mo_answer_282 rfl (lv_at hl 4 rfl) ?_
                              refine lv_aload_n hx hb d_Mo_answer_283 rfl (lv_at hl 6 rfl) ?_
                              refine lv_aload hx hb d_Mo_answer_284 (lv_at hl 2 rfl) ?_
                              refine lv_iload_n hx hb d_Mo_answer_286 rfl (lv_at hl 5 rfl) ?_
                              refine lv_iload hx hb d_Mo_answer_287 (lv_at hl 1 rfl) ?_
                              have hGo289 := hG
                              refine zk_v (va_runV (As := [.ref bx, .ref bx, .int t, .int 0]) (rest := []) ⟨hx, hb, hml, hown, hts⟩ (t_Mo_held l E Gv a c1 c2 ro8 lo rs W8 wp th co se tp v19 v20 hst8 bx lsx hn_bx8 bx (lsx) hn_bx8 t 0 hzw (fun z => absurd rfl z) hlox (fun z => absurd rfl z) hbd9) (zcV 4 hts w_1564 w_1566 wp_57 w_30 w_1567 (by decide +kernel) ⟨Nat.le_of_ble_eq_true rfl, Nat.le_of_ble_eq_true rfl⟩) (zc_preV hbase hK hN hQ hG hS ra8 rfl) rfl rfl hl.1 rfl (lv_room (Nat.le_of_ble_eq_true rfl)) d_Mo_answer_289 ⟨(by dsimp only [List.length_nil]; omega), (by dsimp only [List.length_nil]; omega)⟩) hS (fun G289 H locs hp289 hG hS => ?_)
                              obtain ⟨roqh, hstqh, hsqh⟩ := hp289
                              have hfqh : zfr ro zKr G roqh G289 := hf8.tr hsqh
                              refine zW_more (cells2 := rPi c1 c2 (vtl (rVf rs) lo (zscu se) W8 lsx (lsx) t) 0 - rPi c1 c2 Wz 0 + 3 * k) (slots2 := rPi c1 c2 (vtl (rVf rs) lo (zscu se) W8 lsx (lsx) t) 0 - rPi c1 c2 Wz 0 + 260 * k) (by dsimp only [List.length_nil]; omega) (by dsimp only [List.length_nil]; omega) ?_
                              obtain ⟨hqh, eh0qh, eh1qh, eh2qh, hcqh⟩ := id hstqh
                              obtain ⟨raqh, rbqh, ⟨fmqh, rt1qh, rt2qh, rt3qh, rt4qh⟩, rtlqh, ⟨foqh, rn1qh, rn2qh, rn3qh, rn4qh, rn5qh⟩, rrqh, rgqh, rasqh⟩ := id hcqh
                              rw [eh0qh] at raqh
                              obtain ⟨⟨frqh, rm4qh, hfrqh⟩, hn2qh, hRsqh⟩ := id rrqh.1
                              have hn_bxqh : rNm E G289 roqh bx lsx := hn_bx8.fr hsqh zKr_0
                              obtain ⟨f_bxqh, n1_bxqh, n2_bxqh, n3_bxqh, n4_bxqh, n5_bxqh⟩ := id hn_bxqh
                              have sm_bxqh := n3_bxqh.2
                              refine lv_goto (tgt := 8) hx hb d_Mo_answer_292 (by decide) ?_
                              refine zW_more (cells2 := rPi c1 c2 (vtl (rVf rs) lo (zscu se) W8 lsx (lsx) t) 0 - rPi c1 c2 Wz 0 + 3 * k + (if (0 : Int32) = 0 then 3 else 0)) (slots2 := rPi c1 c2 (vtl (rVf rs) lo (zscu se) W8 lsx (lsx) t) 0 - rPi c1 c2 Wz 0 + 260 * k + (if (0 : Int32) = 0 then 260 else 0)) (by rw [if_pos rfl]; omega) (by rw [if_pos rfl]; omega) ?_
                              exact ih G289 k 0 bx lsx (vtl (rVf rs) lo (zscu se) W8 lsx (lsx) t) roqh _ _ (by first | (rw [if_neg (by decide)]; omega) | (rw [if_pos rfl]; omega)) (hk) (Or.inr ⟨rfl, htot.symm⟩) (hn_bxqh) (hle8.tr hlet) (hstqh) (hfqh) hG hS ls (lv_sub hl [4, 5, 6, 7, 0] rfl)
                            · have b183 : ¬ 0 = 0 := fun q => c183 ((nI_eq (a := 0) (b := 0) (by omega) (by omega)).mpr q)
                              exact absurd rfl c183
                          · refine lv_aload_n hx hb d_Mo_answer_163 rfl (lv_at hl 3 rfl) ?_
                            refine lv_aload hx hb d_Mo_answer_164 (lv_at hl 1 rfl) ?_
                            refine lv_iconst (v := 0) hx hb d_Mo_answer_166 (by decide) ?_
                            refine zi_as (y := nI (np_pos (lsx) 0)) (by rw [np_pos0]; rfl) ?_
                            refine lv_iconst (v := 5) hx hb d_Mo_answer_167 (by decide) ?_
                            refine zk_i (va_runV (As := [.ref bx, .int (nI (np_pos (lsx) 0)), .int 5]) (rest := []) ⟨hx, hb, hml, hown, hts⟩ (t_Mo_has_s l hst8 0 5 bx (lsx) hn_bx8 (Nat.zero_le _)) (zcV 3 hts w_1408 w_1410 wp_30 w_30 w_1411 (by decide +kernel) ⟨Nat.le_of_ble_eq_true rfl, Nat.le_of_ble_eq_true rfl⟩) (zc_preV hbase hK hN hQ hG hS ra8 rfl) rfl rfl hl.1 rfl (lv_room (Nat.le_of_ble_eq_true rfl)) d_Mo_answer_168 ⟨(by dsimp only [List.length_nil]; omega), (by dsimp only [List.length_nil]; omega)⟩) hS (fun r168 G168 H locs hp168 hG hS => ?_)
                            have hG : zP E Gv H := hp168.2 ▸ hG
                            refine lv_if_eq (tgt := 178) hx hb d_Mo_answer_171 (by decide) (fun c171 => ?_) (fun c171 => ?_)
                            · have htot : vfo (rVf rs) lo (zscu se) t 9 Wz ls1 = (0, vtl (rVf rs) lo (zscu se) W8 lsx (lsx) t) := by rw [← hon1, vfo_tell hlox hvnc hor (by rw [hfdf]; exact Or.inr (Or.inr (Classical.byContradiction (fun z => hp168.1.z c171 z)))), hfdf]
                              have hbd9 : rBd c2 (vtl (rVf rs) lo (zscu se) W8 lsx (lsx) t) := by have q := hB; rw [htot] at q; exact q
                              have hPt : rPi c1 c2 ((vfo (rVf rs) lo (zscu se) t 9 Wz ls1).2) 0 = rPi c1 c2 (vtl (rVf rs) lo (zscu se) W8 lsx (lsx) t) 0 := by rw [htot]
                              have hlet : zLe (W8) (vtl (rVf rs) lo (zscu se) W8 lsx (lsx) t) := vtl_le _ _ _ _ _ _ _
                              have hpit := rPi_le (n := 0) (m := 0) hc1 hc2 hlet (rPw_le hlet)
                              have hwlt := wln_le hlet
                              refine lv_iconst (v := 0) hx hb d_Mo_answer_178 (by decide) ?_
                              refine lv_istore (lv' := [(5, .int 0), (8, .int 0), (7, .ref bx), (6, .int (nI (np_pos lsx kc))), (0, .ref a), (2, .int t), (3, .ref bx), (4, .int (nI k))]) hx hb d_Mo_answer_179 hl (by decide) rfl (fun ls hl => ?_)
                              refine lv_iload hx hb d_Mo_answer_181 (lv_at hl 0 rfl) ?_
                              refine lv_if_eq (tgt := 282) hx hb d_Mo_answer_183 (by decide) (fun c183 => ?_) (fun c183 => ?_)
                              · have b183 : 0 = 0 := (nI_eq (a := 0) (b := 0) (by omega) (by omega)).mp c183
                                refine lv_aload_n hx hb d_Mo_answer_282 rfl (lv_at hl 4 rfl) ?_
                                refine lv_aload_n hx hb d_Mo_answer_283 rfl (lv_at hl 6 rfl) ?_
                                refine lv_aload hx hb d_Mo_answer_284 (lv_at hl 2 rfl) ?_
                                refine lv_iload_n hx hb d_Mo_answer_286 rfl (lv_at hl 5 rfl) ?_
                                refine lv_iload hx hb d_Mo_answer_287 (lv_at hl 1 rfl) ?_
                                have hGo289 := hG
                                refine zk_v (va_runV (As := [.ref bx, .ref bx, .int t, .int 0]) (rest := []) ⟨hx, hb, hml, hown, hts⟩ (t_Mo_held l E Gv a c1 c2 ro8 lo rs W8 wp th co se tp v19 v20 hst8 bx lsx hn_bx8 bx (lsx) hn_bx8 t 0 hzw (fun z => absurd rfl z) hlox (fun z => absurd rfl z) hbd9) (zcV 4 hts w_1564 w_1566 wp_57 w_30 w_1567 (by decide +kernel) ⟨Nat.le_of_ble_eq_true rfl, Nat.le_of_ble_eq_true rfl⟩) (zc_preV hbase hK hN hQ hG hS ra8 rfl) rfl rfl hl.1 rfl (lv_room (Nat.le_of_ble_eq_true rfl)) d_Mo_answer_289 ⟨(by dsimp only [List.length_nil]; omega), (by dsimp only [List.length_nil]; omega)⟩) hS (fun G289 H locs hp289 hG hS => ?_)
                                obtain ⟨roqh, hstqh, hsqh⟩ := hp289
                                have hfqh : zfr ro zKr G roqh G289 := hf8.tr hsqh
                                refine zW_more (cells2 := rPi c1 c2 (vtl (rVf rs) lo (zscu se) W8 lsx (lsx) t) 0 - rPi c1 c2 Wz 0 + 3 * k) (slots2 := rPi c1 c2 (vtl (rVf rs) lo (zscu se) W8 lsx (lsx) t) 0 - rPi c1 c2 Wz 0 + 260 * k) (by dsimp only [List.length_nil]; omega) (by dsimp only [List.length_nil]; omega) ?_
                                obtain ⟨hqh, eh0qh, eh1qh, eh2qh, hcqh⟩ := id hstqh
                                obtain ⟨raqh, rbqh, ⟨fmqh, rt1qh, rt2qh, rt3qh, rt4qh⟩, rtlqh, ⟨foqh, rn1qh, rn2qh, rn3qh, rn4qh, rn5qh⟩, rrqh, rgqh, rasqh⟩ := id hcqh
                                rw [eh0qh] at raqh
                                obtain ⟨⟨frqh, rm4qh, hfrqh⟩, hn2qh, hRsqh⟩ := id rrqh.1
                                have hn_bxqh : rNm E G289 roqh bx lsx := hn_bx8.fr hsqh zKr_0
                                obtain ⟨f_bxqh, n1_bxqh, n2_bxqh, n3_bxqh, n4_bxqh, n5_bxqh⟩ := id hn_bxqh
                                have sm_bxqh := n3_bxqh.2
                                refine lv_goto (tgt := 8) hx hb d_Mo_answer_292 (by decide) ?_
                                refine zW_more (cells2 := rPi c1 c2 (vtl (rVf rs) lo (zscu se) W8 lsx (lsx) t) 0 - rPi c1 c2 Wz 0 + 3 * k + (if (0 : Int32) = 0 then 3 else 0)) (slots2 := rPi c1 c2 (vtl (rVf rs) lo (zscu se) W8 lsx (lsx) t) 0 - rPi c1 c2 Wz 0 + 260 * k + (if (0 : Int32) = 0 then 260 else 0)) (by rw [if_pos rfl]; omega) (by rw [if_pos rfl]; omega) ?_
                                exact ih G289 k 0 bx lsx (vtl (rVf rs) lo (zscu se) W8 lsx (lsx) t) roqh _ _ (by first | (rw [if_neg (by decide)]; omega) | (rw [if_pos rfl]; omega)) (hk) (Or.inr ⟨rfl, htot.symm⟩) (hn_bxqh) (hle8.tr hlet) (hstqh) (hfqh) hG hS ls (lv_sub hl [4, 5, 6, 7, 0] rfl)
                              · have b183 : ¬ 0 = 0 := fun q => c183 ((nI_eq (a := 0) (b := 0) (by omega) (by omega)).mpr q)
                                exact absurd rfl c183
                            · have hy5 : (rVf rs) (lsx) 5 ≠ [] := hp168.1.nz c171
                              obtain ⟨e5, he5, e51, e52⟩ := rVf_ne.mp hy5
                              obtain ⟨j5, hj5, ej5⟩ := re_ix he5
                              rw [← ej5] at e51 e52
                              have hv5 := rV5 hj5 e51 e52 (hcn _)
                              have hnx5 : vfo (rVf rs) lo (zscu se) t n9 (wad 1 W8 (vrw (rVf rs) lsx (lsx) 5)) (vtg 5 (rB (re rs j5))) = vfo (rVf rs) lo (zscu se) t 9 Wz ls1 := by
                                rw [← hon1, vfo_next hlox hvnc hor c153 c160 (by rw [hfdf]; exact hv5), hfdf, zif_y hth]; rfl
                              have hlev : zLe (wad 1 W8 (vrw (rVf rs) lsx (lsx) 5)) (vfo (rVf rs) lo (zscu se) t 9 Wz ls1).2 := by rw [← hnx5]; exact vfo_le _ _ _
                              have hbv := hB.le hc2 hlev
                              have hpv := rPi_le (n := 0) (m := 0) hc1 hc2 hlev (rPw_le hlev)
                              have hlef : zLe (W8) (wad 1 W8 (vrw (rVf rs) lsx (lsx) 5)) := zLe_wad _ _ _
                              have hpif := rPi_le (n := 0) (m := 0) hc1 hc2 hlef (rPw_le hlef)
                              have hwlf := wln_le hlef
                              have hb1f := hbv
                              refine lv_iconst (v := 1) hx hb d_Mo_answer_174 (by decide) ?_
                              refine lv_goto (tgt := 179) hx hb d_Mo_answer_175 (by decide) ?_
                              refine lv_istore (lv' := [(5, .int 1), (8, .int 0), (7, .ref bx), (6, .int (nI (np_pos lsx kc))), (0, .ref a), (2, .int t), (3, .ref bx), (4, .int (nI k))]) hx hb d_Mo_answer_179 hl (by decide) rfl (fun ls hl => ?_)
                              refine lv_iload hx hb d_Mo_answer_181 (lv_at hl 0 rfl) ?_
                              refine lv_if_eq (tgt := 282) hx hb d_Mo_answer_183 (by decide) (fun c183 => ?_) (fun c183 => ?_)
                              · have b183 : 1 = 0 := (nI_eq (a := 1) (b := 0) (by omega) (by omega)).mp c183
                                exact absurd c183 (by decide)
                              · have b183 : ¬ 1 = 0 := fun q => c183 ((nI_eq (a := 1) (b := 0) (by omega) (by omega)).mpr q)
                                refine lv_aload_n hx hb d_Mo_answer_186 rfl (lv_at hl 4 rfl) ?_
                                refine lv_aload_n hx hb d_Mo_answer_187 rfl (lv_at hl 6 rfl) ?_
                                refine lv_aload hx hb d_Mo_answer_188 (lv_at hl 2 rfl) ?_
                                refine lv_iconst (v := 5) hx hb d_Mo_answer_190 (by decide) ?_
                                have hGo191 := hG
                                refine zk_v (va_runV (As := [.ref bx, .ref bx, .int 5]) (rest := []) ⟨hx, hb, hml, hown, hts⟩ (t_Mo_first l E Gv a c1 c2 ro8 lo rs W8 wp th co se tp v19 v20 hst8 bx lsx hn_bx8 bx (lsx) hn_bx8 5 (by decide) (fun z => absurd rfl z) hb1f.1) (zcV 3 hts w_1560 w_1562 wp_56 w_30 w_1563 (by decide +kernel) ⟨Nat.le_of_ble_eq_true rfl, Nat.le_of_ble_eq_true rfl⟩) (zc_preV hbase hK hN hQ hG hS ra8 rfl) rfl rfl hl.1 rfl (lv_room (Nat.le_of_ble_eq_true rfl)) d_Mo_answer_191 ⟨(by dsimp only [List.length_nil]; omega), (by dsimp only [List.length_nil]; omega)⟩) hS (fun G191 H locs hp191 hG hS => ?_)
                                obtain ⟨roq1, hstq1, hsq1⟩ := hp191
                                have hfq1 : zfr ro zKr G roq1 G191 := hf8.tr hsq1
                                refine zW_more (cells2 := rPi c1 c2 (wad 1 W8 (vrw (rVf rs) lsx (lsx) 5)) 0 - rPi c1 c2 Wz 0 + 3 * k) (slots2 := rPi c1 c2 (wad 1 W8 (vrw (rVf rs) lsx (lsx) 5)) 0 - rPi c1 c2 Wz 0 + 260 * k) (by dsimp only [List.length_nil]; omega) (by dsimp only [List.length_nil]; omega) ?_
                                obtain ⟨hq1, eh0q1, eh1q1, eh2q1, hcq1⟩ := id hstq1
                                obtain ⟨raq1, rbq1, ⟨fmq1, rt1q1, rt2q1, rt3q1, rt4q1⟩, rtlq1, ⟨foq1, rn1q1, rn2q1, rn3q1, rn4q1, rn5q1⟩, rrq1, rgq1, rasq1⟩ := id hcq1
                                rw [eh0q1] at raq1
                                obtain ⟨⟨frq1, rm4q1, hfrq1⟩, hn2q1, hRsq1⟩ := id rrq1.1
                                have hn_bxq1 : rNm E G191 roq1 bx lsx := hn_bx8.fr hsq1 zKr_0
                                obtain ⟨f_bxq1, n1_bxq1, n2_bxq1, n3_bxq1, n4_bxq1, n5_bxq1⟩ := id hn_bxq1
                                have sm_bxq1 := n3_bxq1.2
                                refine lv_iload hx hb d_Mo_answer_194 (lv_at hl 1 rfl) ?_
                                refine lv_if_eq (tgt := 215) hx hb d_Mo_answer_196 (by decide) (fun c196 => ?_) (fun c196 => ?_)
                                · have b196 : 0 = 0 := (nI_eq (a := 0) (b := 0) (by omega) (by omega)).mp c196
                                  refine lv_iinc (v := nI (k + 1)) (lv' := [(4, .int (nI (k + 1))), (5, .int 1), (8, .int 0), (7, .ref bx), (6, .int (nI (np_pos lsx kc))), (0, .ref a), (2, .int t), (3, .ref bx)]) hx hb d_Mo_answer_215 hl (k := 7) rfl (nI_add k 1) (by decide) rfl (fun ls hl => ?_)
                                  have hn9k : 9 - (k + 1) = n9 := by omega
                                  have hnx6 : vfo (rVf rs) lo (zscu se) t n9 (wad 1 W8 (vrw (rVf rs) lsx (lsx) 5)) (vtg 5 (rB (re rs j5))) = vfo (rVf rs) lo (zscu se) t 9 Wz ls1 := by rw [show wad 1 W8 (vrw (rVf rs) lsx (lsx) 5) = wad 1 W8 (vrw (rVf rs) lsx (lsx) 5) from rfl]; exact hnx5
                                  have hlez : zLe Wz (wad 1 W8 (vrw (rVf rs) lsx (lsx) 5)) := hle8.tr (hlef)
                                  refine lv_iconst (v := 0) hx hb d_Mo_answer_218 (by decide) ?_
                                  refine zi_as (y := nI 0) (nI_0.symm) ?_
                                  refine lv_istore (lv' := [(9, .int (nI 0)), (4, .int (nI (k + 1))), (5, .int 1), (8, .int 0), (7, .ref bx), (6, .int (nI (np_pos lsx kc))), (0, .ref a), (2, .int t), (3, .ref bx)]) hx hb d_Mo_answer_219 hl (by decide) rfl (fun ls hl => ?_)
                                  have loop221 : ∀ (N : Nat) (i : Nat) (xo : Nat) (H : Heap) (locs : List Loc), (rs.length - i) < N → (i ≤ rs.length) → ((xo = bx ∧ ∀ j, j < i → ¬ (rT (re rs j) = 5 ∧ rM (re rs j) = lsx)) ∨ ∃ j, j < i ∧ (rT (re rs j) = 5 ∧ rM (re rs j) = lsx) ∧ xo = rD (re rs j)) → zP E G191 H → zg_S (zc_b E) s.heap H locs → ∀ (ls : Array Slot), lv_has ls 10 [(0, .ref a), (2, .int t), (3, .ref xo), (4, .int (nI (k + 1))), (5, .int 1), (7, .ref bx), (9, .int (nI i))] → W p l e (rm_Mo_answer (rPi c1 c2 ((vfo (rVf rs) lo (zscu se) t 9 Wz ls1).2) 0 - rPi c1 c2 Wz 0 + 40) (rPi c1 c2 ((vfo (rVf rs) lo (zscu se) t 9 Wz ls1).2) 0 - rPi c1 c2 Wz 0 + 2700)) s m args below meth c H locs (rPi c1 c2 (wad 1 W8 (vrw (rVf rs) lsx (lsx) 5)) 0 - rPi c1 c2 Wz 0 + 3 * k) (rPi c1 c2 (wad 1 W8 (vrw (rVf rs) lsx (lsx) 5)) 0 - rPi c1 c2 Wz 0 + 260 * k) Q (F0 m 221 ls []) := by
                                    intro N
                                    induction N with
                                    | zero =>
                                      intro i xo H locs hlt
                                      exact absurd hlt (Nat.not_lt_zero _)
                                    | succ N ih =>
                                      intro i xo H locs hlt hi hxo hG hS ls hl
                                      refine lv_iload hx hb d_Mo_answer_221 (lv_at hl 6 rfl) ?_
                                      refine lv_aload_n hx hb d_Mo_answer_223 rfl (lv_at hl 0 rfl) ?_
                                      refine zg_get (ci := 11) (C := "ZoneAnswersModel") (T := T_Mo) (N := 21) hx hb hts zi_Mo hown hK hG raq1 rfl 5 (by decide) (hts _ w_1286) (fun _ h9 => h9) rfl d_Mo_answer_224 ?_
                                      refine lv_icmp_ge (tgt := 279) hx hb d_Mo_answer_227 (by decide) (fun c227 => ?_) (fun c227 => ?_)
                                      · have b227 : rs.length ≤ i := (nI_leI (a := rs.length) (b := i) (by omega) (by omega)).mp c227
                                        obtain ⟨j7, hj7, ⟨e71, e72⟩, e73⟩ := hxo.resolve_left (fun z => z.2 j5 (by omega) ⟨e51, e52⟩)
                                        have hj7r : j7 < rs.length := by omega
                                        have hv7 := rV5 hj7r e71 e72 (hcn _)
                                        rw [hv5] at hv7
                                        have eB7 : rB (re rs j5) = rB (re rs j7) := congrArg (fun z : List (Int32 × List Int32) => (z.headD (0, [])).2) hv7
                                        have hnn7 := hstq1.dn hj7r (Or.inr e71)
                                        rw [e71, ← eB7, ← e73] at hnn7
                                        refine lv_goto (tgt := 292) hx hb d_Mo_answer_279 (by decide) ?_
                                        refine lv_goto (tgt := 8) hx hb d_Mo_answer_292 (by decide) ?_
                                        refine zW_more (cells2 := rPi c1 c2 (wad 1 W8 (vrw (rVf rs) lsx (lsx) 5)) 0 - rPi c1 c2 Wz 0 + 3 * (k + 1) + (if (1 : Int32) = 0 then 3 else 0)) (slots2 := rPi c1 c2 (wad 1 W8 (vrw (rVf rs) lsx (lsx) 5)) 0 - rPi c1 c2 Wz 0 + 260 * (k + 1) + (if (1 : Int32) = 0 then 260 else 0)) (by rw [if_neg (by decide)]; omega) (by rw [if_neg (by decide)]; omega) ?_
                                        exact ih8 G191 (k + 1) 1 xo (vtg 5 (rB (re rs j5))) (wad 1 W8 (vrw (rVf rs) lsx (lsx) 5)) roq1 _ _ (by first | (rw [if_neg (by decide)]; omega) | (rw [if_pos rfl]; omega)) (by omega) (Or.inl ⟨rfl, by rw [hn9k]; exact hnx6⟩) (hnn7) (hlez) (hstq1) (hfq1) hG hS ls (lv_sub hl [0, 1, 2, 3, 4] rfl)
                                      · have b227 : ¬ rs.length ≤ i := fun q => c227 ((nI_leI (a := rs.length) (b := i) (by omega) (by omega)).mpr q)
                                        have hin : i < rs.length := by omega
                                        obtain ⟨hr1, ⟨nf, hr2, hr3, hr4, hr5⟩, df, hr6, hr7, hr8⟩ := hRsq1 _ (re_mem hin)
                                        have sm := hr4.2
                                        refine lv_aload_n hx hb d_Mo_answer_230 rfl (lv_at hl 0 rfl) ?_
                                        refine zg_get (ci := 11) (C := "ZoneAnswersModel") (T := T_Mo) (N := 21) hx hb hts zi_Mo hown hK hG raq1 rfl 4 (by decide) (hts _ w_1285) (fun _ h9 => h9) rfl d_Mo_answer_231 ?_
                                        refine lv_iload hx hb d_Mo_answer_234 (lv_at hl 6 rfl) ?_
                                        refine zg_aldq hx hb hK hG 4 rm4q1 rfl (vp_in_nI (by omega) (by omega)) d_Mo_answer_236 ?_
                                        refine zr_as (y := frq1 i) (by rw [zi_n _ (by omega)]) ?_
                                        refine zr_some (a := rA (re rs i)) (hfrq1 i hin) ?_
                                        refine zg_get (ci := 12) (C := "ZoneAnswersModel$Rec") (T := T_Re) (N := 5) hx hb hts zi_Re hown hK hG hr1 rfl 3 (by decide) (hts _ w_1268) (fun _ h9 => h9) rfl d_Mo_answer_237 ?_
                                        refine lv_iconst (v := 5) hx hb d_Mo_answer_240 (by decide) ?_
                                        refine lv_icmp_ne (tgt := 273) hx hb d_Mo_answer_241 (by decide) (fun c241 => ?_) (fun c241 => ?_)
                                        · refine lv_iinc (v := nI (i + 1)) (lv' := [(9, .int (nI (i + 1))), (0, .ref a), (2, .int t), (3, .ref xo), (4, .int (nI (k + 1))), (5, .int 1), (7, .ref bx)]) hx hb d_Mo_answer_273 hl (k := 6) rfl (nI_add i 1) (by decide) rfl (fun ls hl => ?_)
                                          refine lv_goto (tgt := 221) hx hb d_Mo_answer_276 (by decide) ?_
                                          exact ih (i + 1) xo _ _ (by omega) (by omega) (hxo.elim (fun z => Or.inl ⟨z.1, fun j hj => by rcases Nat.lt_or_ge j i with q1 | q1; exact z.2 j q1; rw [show j = i by omega]; first | exact fun w => c241 w.1 | exact fun w => hp256.1.z c259 ((zsm_n hr3 n2_bxq1 hr4 n3_bxq1).mpr w.2)⟩) (fun ⟨j, j1, j2⟩ => Or.inr ⟨j, by omega, j2⟩)) hG hS ls (lv_sub hl [1, 2, 3, 4, 5, 6, 0] rfl)
                                        · refine lv_aload_n hx hb d_Mo_answer_244 rfl (lv_at hl 0 rfl) ?_
                                          refine zg_get (ci := 11) (C := "ZoneAnswersModel") (T := T_Mo) (N := 21) hx hb hts zi_Mo hown hK hG raq1 rfl 4 (by decide) (hts _ w_1285) (fun _ h9 => h9) rfl d_Mo_answer_245 ?_
                                          refine lv_iload hx hb d_Mo_answer_248 (lv_at hl 6 rfl) ?_
                                          refine zg_aldq hx hb hK hG 4 rm4q1 rfl (vp_in_nI (by omega) (by omega)) d_Mo_answer_250 ?_
                                          refine zr_as (y := frq1 i) (by rw [zi_n _ (by omega)]) ?_
                                          refine zr_some (a := rA (re rs i)) (hfrq1 i hin) ?_
                                          refine zg_get (ci := 12) (C := "ZoneAnswersModel$Rec") (T := T_Re) (N := 5) hx hb hts zi_Re hown hK hG hr1 rfl 0 (by decide) (hts _ w_1265) (fun _ h9 => h9) rfl d_Mo_answer_251 ?_
                                          refine lv_aload hx hb d_Mo_answer_254 (lv_at hl 5 rfl) ?_
                                          refine zk_i (va_runS (As := [.ref (rN (re rs i)), .ref bx]) (rest := []) ⟨hx, hb, hml, hown, hts⟩ (t_Ns_same l E G191 (rN (re rs i)) (np_len (rM (re rs i))) nf hr2 bx (np_len (lsx)) f_bxq1 n1_bxq1 (by omega) (by omega)) (zcS 2 hts w_1405 w_1406 w_33 w_1407 (by decide +kernel) ⟨Nat.le_of_ble_eq_true rfl, Nat.le_of_ble_eq_true rfl⟩) (zc_pre hbase hK hN hQ hG hS) rfl rfl hl.1 rfl (lv_room (Nat.le_of_ble_eq_true rfl)) d_Mo_answer_256 ⟨(by dsimp only [List.length_nil]; omega), (by dsimp only [List.length_nil]; omega)⟩) hS (fun r256 G256 H locs hp256 hG hS => ?_)
                                          have hG : zP E G191 H := hp256.2 ▸ hG
                                          refine lv_if_eq (tgt := 273) hx hb d_Mo_answer_259 (by decide) (fun c259 => ?_) (fun c259 => ?_)
                                          · refine lv_iinc (v := nI (i + 1)) (lv' := [(9, .int (nI (i + 1))), (0, .ref a), (2, .int t), (3, .ref xo), (4, .int (nI (k + 1))), (5, .int 1), (7, .ref bx)]) hx hb d_Mo_answer_273 hl (k := 6) rfl (nI_add i 1) (by decide) rfl (fun ls hl => ?_)
                                            refine lv_goto (tgt := 221) hx hb d_Mo_answer_276 (by decide) ?_
                                            exact ih (i + 1) xo _ _ (by omega) (by omega) (hxo.elim (fun z => Or.inl ⟨z.1, fun j hj => by rcases Nat.lt_or_ge j i with q1 | q1; exact z.2 j q1; rw [show j = i by omega]; first | exact fun w => c241 w.1 | exact fun w => hp256.1.z c259 ((zsm_n hr3 n2_bxq1 hr4 n3_bxq1).mpr w.2)⟩) (fun ⟨j, j1, j2⟩ => Or.inr ⟨j, by omega, j2⟩)) hG hS ls (lv_sub hl [1, 2, 3, 4, 5, 6, 0] rfl)
                                          · refine lv_aload_n hx hb d_Mo_answer_262 rfl (lv_at hl 0 rfl) ?_
                                            refine zg_get (ci := 11) (C := "ZoneAnswersModel") (T := T_Mo) (N := 21) hx hb hts zi_Mo hown hK hG raq1 rfl 4 (by decide) (hts _ w_1285) (fun _ h9 => h9) rfl d_Mo_answer_263 ?_
                                            refine lv_iload hx hb d_Mo_answer_266 (lv_at hl 6 rfl) ?_
                                            refine zg_aldq hx hb hK hG 4 rm4q1 rfl (vp_in_nI (by omega) (by omega)) d_Mo_answer_268 ?_
                                            refine zr_as (y := frq1 i) (by rw [zi_n _ (by omega)]) ?_
                                            refine zr_some (a := rA (re rs i)) (hfrq1 i hin) ?_
                                            refine zg_get (ci := 12) (C := "ZoneAnswersModel$Rec") (T := T_Re) (N := 5) hx hb hts zi_Re hown hK hG hr1 rfl 1 (by decide) (hts _ w_1266) (fun _ h9 => h9) rfl d_Mo_answer_269 ?_
                                            refine lv_astore_n (lv' := [(3, .ref (rD (re rs i))), (0, .ref a), (2, .int t), (4, .int (nI (k + 1))), (5, .int 1), (7, .ref bx), (9, .int (nI i))]) hx hb d_Mo_answer_272 rfl hl (by decide) rfl (fun ls hl => ?_)
                                            refine lv_iinc (v := nI (i + 1)) (lv' := [(9, .int (nI (i + 1))), (3, .ref (rD (re rs i))), (0, .ref a), (2, .int t), (4, .int (nI (k + 1))), (5, .int 1), (7, .ref bx)]) hx hb d_Mo_answer_273 hl (k := 6) rfl (nI_add i 1) (by decide) rfl (fun ls hl => ?_)
                                            refine lv_goto (tgt := 221) hx hb d_Mo_answer_276 (by decide) ?_
                                            exact ih (i + 1) (rD (re rs i)) _ _ (by omega) (by omega) (Or.inr ⟨i, by omega, ⟨c241, (zsm_n hr3 n2_bxq1 hr4 n3_bxq1).mp (hp256.1.nz c259)⟩, rfl⟩) hG hS ls (lv_sub hl [2, 3, 1, 4, 5, 6, 0] rfl)
                                  exact loop221 _ 0 bx _ _ (Nat.lt_succ_self _) (Nat.zero_le _) (Or.inl ⟨rfl, fun j hj => absurd hj (Nat.not_lt_zero j)⟩) hG hS ls (lv_sub hl [6, 7, 8, 1, 2, 4, 0] rfl)
                                · have b196 : ¬ 0 = 0 := fun q => c196 ((nI_eq (a := 0) (b := 0) (by omega) (by omega)).mpr q)
                                  exact absurd rfl c196
                      · exact absurd (((zsm_n n2_bx8 n2_bx8 n3_bx8 n3_bx8)).mpr rfl) (hp138.1.z c141)
                    · have hnth : ¬ vth (rVf rs) lsx := fun z => hp73.1.z c76 ⟨hlox, np_len_suf hlox, z⟩
                      refine lv_aload_n hx hb d_Mo_answer_79 rfl (lv_at hl 4 rfl) ?_
                      refine lv_aload_n hx hb d_Mo_answer_80 rfl (lv_at hl 2 rfl) ?_
                      refine lv_aload_n hx hb d_Mo_answer_81 rfl (lv_at hl 4 rfl) ?_
                      have hGo82 := hG
                      refine zk_i (va_runV (As := [.ref bx]) (rest := [.ref bx]) ⟨hx, hb, hml, hown, hts⟩ (t_Mo_closest l E Gv a c1 c2 ro8 lo rs W8 [] True (wln W8, 0, [], wp) th co se tp v19 v20 hst8 bx lsx hnx hlox hnth) (zcV 1 hts w_1545 w_1547 wp_53 w_30 w_1548 (by decide +kernel) ⟨Nat.le_of_ble_eq_true rfl, Nat.le_of_ble_eq_true rfl⟩) (zc_preV hbase hK hN hQ hG hS ra8 rfl) rfl rfl hl.1 rfl (lv_room (Nat.le_of_ble_eq_true rfl)) d_Mo_answer_82 ⟨(by dsimp only [List.length_nil]; omega), (by dsimp only [List.length_nil]; omega)⟩) hS (fun r82 G82 H locs hp82 hG hS => ?_)
                      obtain ⟨⟨kst, hk20, hk2, hcl2, hcl3, er82⟩, eg82⟩ := hp82
                      have hG : zP E Gv H := eg82 ▸ hG
                      refine zi_as (y := nI (np_pos lsx kst)) er82 ?_
                      have hpk2 := np_pos_le lsx kst hk2
                      have hGo85 := hG
                      refine zk_q (va_runS (As := [.ref bx, .int (nI (np_pos lsx kst))]) (rest := []) ⟨hx, hb, hml, hown, hts⟩ (t_Ns_star l E Gv bx (np_len lsx) f_bx8 n1_bx8 n4_bx8 (by omega) (np_pos lsx kst) (by omega)) (zcS 2 hts w_1549 w_1550 w_33 w_1551 (by decide +kernel) ⟨Nat.le_of_ble_eq_true rfl, Nat.le_of_ble_eq_true rfl⟩) (zc_pre hbase hK hN hQ hG hS) rfl rfl hl.1 rfl (lv_room (Nat.le_of_ble_eq_true rfl)) d_Mo_answer_85 ⟨(by dsimp only [List.length_nil]; omega), (by dsimp only [List.length_nil]; omega)⟩) hS (fun r85 G85 H locs hp85 hG hS => ?_)
                      obtain ⟨qf, f285, er85, hq85, hx85, hq285, hft85, hs085, hs185, hcp85⟩ := hp85
                      obtain ⟨hnfqs, hlqs⟩ := np_f_star hk2 n2_bx8 hs085 hs185 hcp85
                      rw [← hlqs] at hq285
                      have hngqs := np_star_gk n3_bx8 hk20 hk2
                      have hfd : vfd (rVf rs) lsx = [42] :: lsx.drop kst := by rw [vfd_n hnth, hcl2]
                      have hlof : lo <:+ ([42] :: lsx.drop kst) := (suf_len hlox hcl3.1 (hcl3.2.2 lo hlox ⟨lo, hgd.top, List.suffix_refl _⟩)).trans (List.suffix_cons _ _)
                      have hzlf : zl lo ([42] :: lsx.drop kst) := zl_suf hlof (fun e => by have q1 := (suf_len hlox hcl3.1 (hcl3.2.2 lo hlox ⟨lo, hgd.top, List.suffix_refl _⟩)).length_le; rw [e] at q1; simp at q1; omega)
                      have hzlx : zl lo lsx := zl_suf hlox (fun e => hnth (e ▸ ⟨lo, hgd.top, List.suffix_refl _⟩))
                      have hnex : ¬ ([42] :: lsx.drop kst) = lsx ∨ True := Or.inr trivial
                      obtain ⟨hnqqs, hzqs⟩ := rNm.new (ro := ro8) hq85 hx85 hq285 hnfqs hngqs hft85
                      have hstqs := hst8.z hzqs
                      have hzqs := hzqs.w (K2 := zKr) (fun _ z => z.elim)
                      have hfqs := hf8.tr hzqs
                      refine zr_some (a := qf) er85 ?_
                      refine zW_more (cells2 := rPi c1 c2 W8 0 - rPi c1 c2 Wz 0 + 3 * k + 3) (slots2 := rPi c1 c2 W8 0 - rPi c1 c2 Wz 0 + 260 * k + 260) (by dsimp only [List.length_nil]; omega) (by dsimp only [List.length_nil]; omega) ?_
                      obtain ⟨hqs, eh0qs, eh1qs, eh2qs, hcqs⟩ := id hstqs
                      obtain ⟨raqs, rbqs, ⟨fmqs, rt1qs, rt2qs, rt3qs, rt4qs⟩, rtlqs, ⟨foqs, rn1qs, rn2qs, rn3qs, rn4qs, rn5qs⟩, rrqs, rgqs, rasqs⟩ := id hcqs
                      rw [eh0qs] at raqs
                      obtain ⟨⟨frqs, rm4qs, hfrqs⟩, hn2qs, hRsqs⟩ := id rrqs.1
                      have hn_bxqs : rNm E G85 (zrn ro8 qf (0, 0)) bx lsx := hn_bx8.fr hzqs zKr_0
                      obtain ⟨f_bxqs, n1_bxqs, n2_bxqs, n3_bxqs, n4_bxqs, n5_bxqs⟩ := id hn_bxqs
                      have sm_bxqs := n3_bxqs.2
                      obtain ⟨f_qfqs, n1_qfqs, n2_qfqs, n3_qfqs, n4_qfqs, n5_qfqs⟩ := id hnqqs
                      have sm_qfqs := n3_qfqs.2
                      refine lv_astore (lv' := [(7, .ref qf), (6, .int (nI (np_pos lsx kc))), (0, .ref a), (2, .int t), (3, .ref bx), (4, .int (nI k)), (5, .int on9)]) hx hb d_Mo_answer_88 hl (by decide) rfl (fun ls hl => ?_)
                      refine lv_aload_n hx hb d_Mo_answer_90 rfl (lv_at hl 2 rfl) ?_
                      refine lv_aload hx hb d_Mo_answer_91 (lv_at hl 0 rfl) ?_
                      refine zk_i (va_runV (As := [.ref qf]) (rest := []) ⟨hx, hb, hml, hown, hts⟩ (t_Mo_any_s l hstqs qf ([42] :: lsx.drop kst) hnqqs) (zcV 1 hts w_1413 w_1415 wp_31 w_30 w_1416 (by decide +kernel) ⟨Nat.le_of_ble_eq_true rfl, Nat.le_of_ble_eq_true rfl⟩) (zc_preV hbase hK hN hQ hG hS raqs rfl) rfl rfl hl.1 rfl (lv_room (Nat.le_of_ble_eq_true rfl)) d_Mo_answer_93 ⟨(by dsimp only [List.length_nil]; omega), (by dsimp only [List.length_nil]; omega)⟩) hS (fun r93 G93 H locs hp93 hG hS => ?_)
                      have hG : zP E G85 H := hp93.2 ▸ hG
                      refine lv_if_ne (tgt := 135) hx hb d_Mo_answer_96 (by decide) (fun c96 => ?_) (fun c96 => ?_)
                      · have hnvd : ¬ vD (rVf rs) lsx := fun ⟨t9, z⟩ => hnth ⟨lsx, ⟨t9, z⟩, List.suffix_refl _⟩
                        have hnes : ¬ ([42] :: lsx.drop kst) = lsx := fun e => hnvd (e ▸ hp93.1.nz c96)
                        have hfdf : vfd (rVf rs) lsx = [42] :: lsx.drop kst := hfd
                        have hor : vth (rVf rs) lsx ∨ vD (rVf rs) (vfd (rVf rs) lsx) := Or.inr (by rw [hfd]; exact hp93.1.nz c96)
                        refine lv_aload hx hb d_Mo_answer_135 (lv_at hl 0 rfl) ?_
                        refine lv_aload_n hx hb d_Mo_answer_137 rfl (lv_at hl 4 rfl) ?_
                        refine zk_i (va_runS (As := [.ref qf, .ref bx]) (rest := []) ⟨hx, hb, hml, hown, hts⟩ (t_Ns_same l E G85 qf (np_len ([42] :: lsx.drop kst)) f_qfqs n1_qfqs bx (np_len lsx) f_bxqs n1_bxqs (by omega) (by omega)) (zcS 2 hts w_1405 w_1406 w_33 w_1407 (by decide +kernel) ⟨Nat.le_of_ble_eq_true rfl, Nat.le_of_ble_eq_true rfl⟩) (zc_pre hbase hK hN hQ hG hS) rfl rfl hl.1 rfl (lv_room (Nat.le_of_ble_eq_true rfl)) d_Mo_answer_138 ⟨(by dsimp only [List.length_nil]; omega), (by dsimp only [List.length_nil]; omega)⟩) hS (fun r138 G138 H locs hp138 hG hS => ?_)
                        have hG : zP E G85 H := hp138.2 ▸ hG
                        refine lv_if_ne (tgt := 148) hx hb d_Mo_answer_141 (by decide) (fun c141 => ?_) (fun c141 => ?_)
                        · exact absurd (((zsm_n n2_qfqs n2_bxqs n3_qfqs n3_bxqs)).mp (hp138.1.nz c141)) hnes
                        · have hzw : zb 1 (¬ ([42] :: lsx.drop kst) = lsx) := zb.t hnes
                          refine lv_iconst (v := 1) hx hb d_Mo_answer_144 (by decide) ?_
                          refine lv_goto (tgt := 149) hx hb d_Mo_answer_145 (by decide) ?_
                          refine lv_istore (lv' := [(8, .int 1), (7, .ref qf), (6, .int (nI (np_pos lsx kc))), (0, .ref a), (2, .int t), (3, .ref bx), (4, .int (nI k)), (5, .int on9)]) hx hb d_Mo_answer_149 hl (by decide) rfl (fun ls hl => ?_)
                          refine lv_iload_n hx hb d_Mo_answer_151 rfl (lv_at hl 4 rfl) ?_
                          refine lv_iconst (v := 5) hx hb d_Mo_answer_152 (by decide) ?_
                          refine lv_icmp_eq (tgt := 178) hx hb d_Mo_answer_153 (by decide) (fun c153 => ?_) (fun c153 => ?_)
                          · have htot : vfo (rVf rs) lo (zscu se) t 9 Wz ls1 = (0, vtl (rVf rs) lo (zscu se) W8 lsx ([42] :: lsx.drop kst) t) := by rw [← hon1, vfo_tell hlox hvnc hor (by rw [hfdf]; exact Or.inl c153), hfdf]
                            have hbd9 : rBd c2 (vtl (rVf rs) lo (zscu se) W8 lsx ([42] :: lsx.drop kst) t) := by have q := hB; rw [htot] at q; exact q
                            have hPt : rPi c1 c2 ((vfo (rVf rs) lo (zscu se) t 9 Wz ls1).2) 0 = rPi c1 c2 (vtl (rVf rs) lo (zscu se) W8 lsx ([42] :: lsx.drop kst) t) 0 := by rw [htot]
                            have hlet : zLe (W8) (vtl (rVf rs) lo (zscu se) W8 lsx ([42] :: lsx.drop kst) t) := vtl_le _ _ _ _ _ _ _
                            have hpit := rPi_le (n := 0) (m := 0) hc1 hc2 hlet (rPw_le hlet)
                            have hwlt := wln_le hlet
                            refine lv_iconst (v := 0) hx hb d_Mo_answer_178 (by decide) ?_
                            refine lv_istore (lv' := [(5, .int 0), (8, .int 1), (7, .ref qf), (6, .int (nI (np_pos lsx kc))), (0, .ref a), (2, .int t), (3, .ref bx), (4, .int (nI k))]) hx hb d_Mo_answer_179 hl (by decide) rfl (fun ls hl => ?_)
                            refine lv_iload hx hb d_Mo_answer_181 (lv_at hl 0 rfl) ?_
                            refine lv_if_eq (tgt := 282) hx hb d_Mo_answer_183 (by decide) (fun c183 => ?_) (fun c183 => ?_)
                            · have b183 : 0 = 0 := (nI_eq (a := 0) (b := 0) (by omega) (by omega)).mp c183
                              refine lv_aload_n hx hb d_Mo_answer_282 rfl (lv_at hl 4 rfl) ?_
                              refine lv_aload_n hx hb d_Mo_answer_283 rfl (lv_at hl 6 rfl) ?_
                              refine lv_aload hx hb d_Mo_answer_284 (lv_at hl 2 rfl) ?_
                              refine lv_iload_n hx hb d_Mo_answer_286 rfl (lv_at hl 5 rfl) ?_
                              refine lv_iload hx hb d_Mo_answer_287 (lv_at hl 1 rfl) ?_
                              have hGo289 := hG
                              refine zk_v (va_runV (As := [.ref bx, .ref qf, .int t, .int 1]) (rest := []) ⟨hx, hb, hml, hown, hts⟩ (t_Mo_held l E G85 a c1 c2 (zrn ro8 qf (0, 0)) lo rs W8 wp th co se tp v19 v20 hstqs bx lsx hn_bxqs qf ([42] :: lsx.drop kst) hnqqs t 1 hzw (fun _ => hzlx) hlof (fun _ => hnvd) hbd9) (zcV 4 hts w_1564 w_1566 wp_57 w_30 w_1567 (by decide +kernel) ⟨Nat.le_of_ble_eq_true rfl, Nat.le_of_ble_eq_true rfl⟩) (zc_preV hbase hK hN hQ hG hS raqs rfl) rfl rfl hl.1 rfl (lv_room (Nat.le_of_ble_eq_true rfl)) d_Mo_answer_289 ⟨(by dsimp only [List.length_nil]; omega), (by dsimp only [List.length_nil]; omega)⟩) hS (fun G289 H locs hp289 hG hS => ?_)
                              obtain ⟨roqh, hstqh, hsqh⟩ := hp289
                              have hfqh : zfr ro zKr G roqh G289 := hfqs.tr hsqh
                              refine zW_more (cells2 := rPi c1 c2 (vtl (rVf rs) lo (zscu se) W8 lsx ([42] :: lsx.drop kst) t) 0 - rPi c1 c2 Wz 0 + 3 * k + 3) (slots2 := rPi c1 c2 (vtl (rVf rs) lo (zscu se) W8 lsx ([42] :: lsx.drop kst) t) 0 - rPi c1 c2 Wz 0 + 260 * k + 260) (by dsimp only [List.length_nil]; omega) (by dsimp only [List.length_nil]; omega) ?_
                              obtain ⟨hqh, eh0qh, eh1qh, eh2qh, hcqh⟩ := id hstqh
                              obtain ⟨raqh, rbqh, ⟨fmqh, rt1qh, rt2qh, rt3qh, rt4qh⟩, rtlqh, ⟨foqh, rn1qh, rn2qh, rn3qh, rn4qh, rn5qh⟩, rrqh, rgqh, rasqh⟩ := id hcqh
                              rw [eh0qh] at raqh
                              obtain ⟨⟨frqh, rm4qh, hfrqh⟩, hn2qh, hRsqh⟩ := id rrqh.1
                              have hn_bxqh : rNm E G289 roqh bx lsx := hn_bxqs.fr hsqh zKr_0
                              obtain ⟨f_bxqh, n1_bxqh, n2_bxqh, n3_bxqh, n4_bxqh, n5_bxqh⟩ := id hn_bxqh
                              have sm_bxqh := n3_bxqh.2
                              have hn_qfqh : rNm E G289 roqh qf ([42] :: lsx.drop kst) := hnqqs.fr hsqh zKr_0
                              obtain ⟨f_qfqh, n1_qfqh, n2_qfqh, n3_qfqh, n4_qfqh, n5_qfqh⟩ := id hn_qfqh
                              have sm_qfqh := n3_qfqh.2
                              refine lv_goto (tgt := 8) hx hb d_Mo_answer_292 (by decide) ?_
                              refine zW_more (cells2 := rPi c1 c2 (vtl (rVf rs) lo (zscu se) W8 lsx ([42] :: lsx.drop kst) t) 0 - rPi c1 c2 Wz 0 + 3 * k + (if (0 : Int32) = 0 then 3 else 0)) (slots2 := rPi c1 c2 (vtl (rVf rs) lo (zscu se) W8 lsx ([42] :: lsx.drop kst) t) 0 - rPi c1 c2 Wz 0 + 260 * k + (if (0 : Int32) = 0 then 260 else 0)) (by rw [if_pos rfl]; omega) (by rw [if_pos rfl]; omega) ?_
                              exact ih G289 k 0 bx lsx (vtl (rVf rs) lo (zscu se) W8 lsx ([42] :: lsx.drop kst) t) roqh _ _ (by first | (rw [if_neg (by decide)]; omega) | (rw [if_pos rfl]; omega)) (hk) (Or.inr ⟨rfl, htot.symm⟩) (hn_bxqh) (hle8.tr hlet) (hstqh) (hfqh) hG hS ls (lv_sub hl [4, 5, 6, 7, 0] rfl)
                            · have b183 : ¬ 0 = 0 := fun q => c183 ((nI_eq (a := 0) (b := 0) (by omega) (by omega)).mpr q)
                              exact absurd rfl c183
                          · refine lv_iload_n hx hb d_Mo_answer_156 rfl (lv_at hl 4 rfl) ?_
                            refine lv_sipush (v := 255) hx hb d_Mo_answer_157 (by decide) ?_
                            refine lv_icmp_eq (tgt := 178) hx hb d_Mo_answer_160 (by decide) (fun c160 => ?_) (fun c160 => ?_)
                            · have htot : vfo (rVf rs) lo (zscu se) t 9 Wz ls1 = (0, vtl (rVf rs) lo (zscu se) W8 lsx ([42] :: lsx.drop kst) t) := by rw [← hon1, vfo_tell hlox hvnc hor (by rw [hfdf]; exact Or.inr (Or.inl c160)), hfdf]
                              have hbd9 : rBd c2 (vtl (rVf rs) lo (zscu se) W8 lsx ([42] :: lsx.drop kst) t) := by have q := hB; rw [htot] at q; exact q
                              have hPt : rPi c1 c2 ((vfo (rVf rs) lo (zscu se) t 9 Wz ls1).2) 0 = rPi c1 c2 (vtl (rVf rs) lo (zscu se) W8 lsx ([42] :: lsx.drop kst) t) 0 := by rw [htot]
                              have hlet : zLe (W8) (vtl (rVf rs) lo (zscu se) W8 lsx ([42] :: lsx.drop kst) t) := vtl_le _ _ _ _ _ _ _
                              have hpit := rPi_le (n := 0) (m := 0) hc1 hc2 hlet (rPw_le hlet)
                              have hwlt := wln_le hlet
                              refine lv_iconst (v := 0) hx hb d_Mo_answer_178 (by decide) ?_
                              refine lv_istore (lv' := [(5, .int 0), (8, .int 1), (7, .ref qf), (6, .int (nI (np_pos lsx kc))), (0, .ref a), (2, .int t), (3, .ref bx), (4, .int (nI k))]) hx hb d_Mo_answer_179 hl (by decide) rfl (fun ls hl => ?_)
                              refine lv_iload hx hb d_Mo_answer_181 (lv_at hl 0 rfl) ?_
                              refine lv_if_eq (tgt := 282) hx hb d_Mo_answer_183 (by decide) (fun c183 => ?_) (fun c183 => ?_)
                              · have b183 : 0 = 0 := (nI_eq (a := 0) (b := 0) (by omega) (by omega)).mp c183
                                refine lv_aload_n hx hb d_Mo_answer_282 rfl (lv_at hl 4 rfl) ?_
                                refine lv_aload_n hx hb d_Mo_answer_283 rfl (lv_at hl 6 rfl) ?_
                                refine lv_aload hx hb d_Mo_answer_284 (lv_at hl 2 rfl) ?_
                                refine lv_iload_n hx hb d_Mo_answer_286 rfl (lv_at hl 5 rfl) ?_
                                refine lv_iload hx hb d_Mo_answer_287 (lv_at hl 1 rfl) ?_
                                have hGo289 := hG
                                refine zk_v (va_runV (As := [.ref bx, .ref qf, .int t, .int 1]) (rest := []) ⟨hx, hb, hml, hown, hts⟩ (t_Mo_held l E G85 a c1 c2 (zrn ro8 qf (0, 0)) lo rs W8 wp th co se tp v19 v20 hstqs bx lsx hn_bxqs qf ([42] :: lsx.drop kst) hnqqs t 1 hzw (fun _ => hzlx) hlof (fun _ => hnvd) hbd9) (zcV 4 hts w_1564 w_1566 wp_57 w_30 w_1567 (by decide +kernel) ⟨Nat.le_of_ble_eq_true rfl, Nat.le_of_ble_eq_true rfl⟩) (zc_preV hbase hK hN hQ hG hS raqs rfl) rfl rfl hl.1 rfl (lv_room (Nat.le_of_ble_eq_true rfl)) d_Mo_answer_289 ⟨(by dsimp only [List.length_nil]; omega), (by dsimp only [List.length_nil]; omega)⟩) hS (fun G289 H locs hp289 hG hS => ?_)
                                obtain ⟨roqh, hstqh, hsqh⟩ := hp289
                                have hfqh : zfr ro zKr G roqh G289 := hfqs.tr hsqh
                                refine zW_more (cells2 := rPi c1 c2 (vtl (rVf rs) lo (zscu se) W8 lsx ([42] :: lsx.drop kst) t) 0 - rPi c1 c2 Wz 0 + 3 * k + 3) (slots2 := rPi c1 c2 (vtl (rVf rs) lo (zscu se) W8 lsx ([42] :: lsx.drop kst) t) 0 - rPi c1 c2 Wz 0 + 260 * k + 260) (by dsimp only [List.length_nil]; omega) (by dsimp only [List.length_nil]; omega) ?_
                                obtain ⟨hqh, eh0qh, eh1qh, eh2qh, hcqh⟩ := id hstqh
                                obtain ⟨raqh, rbqh, ⟨fmqh, rt1qh, rt2qh, rt3qh, rt4qh⟩, rtlqh, ⟨foqh, rn1qh, rn2qh, rn3qh, rn4qh, rn5qh⟩, rrqh, rgqh, rasqh⟩ := id hcqh
                                rw [eh0qh] at raqh
                                obtain ⟨⟨frqh, rm4qh, hfrqh⟩, hn2qh, hRsqh⟩ := id rrqh.1
                                have hn_bxqh : rNm E G289 roqh bx lsx := hn_bxqs.fr hsqh zKr_0
                                obtain ⟨f_bxqh, n1_bxqh, n2_bxqh, n3_bxqh, n4_bxqh, n5_bxqh⟩ := id hn_bxqh
                                have sm_bxqh := n3_bxqh.2
                                have hn_qfqh : rNm E G289 roqh qf ([42] :: lsx.drop kst) := hnqqs.fr hsqh zKr_0
                                obtain ⟨f_qfqh, n1_qfqh, n2_qfqh, n3_qfqh, n4_qfqh, n5_qfqh⟩ := id hn_qfqh
                                have sm_qfqh := n3_qfqh.2
                                refine lv_goto (tgt := 8) hx hb d_Mo_answer_292 (by decide) ?_
                                refine zW_more (cells2 := rPi c1 c2 (vtl (rVf rs) lo (zscu se) W8 lsx ([42] :: lsx.drop kst) t) 0 - rPi c1 c2 Wz 0 + 3 * k + (if (0 : Int32) = 0 then 3 else 0)) (slots2 := rPi c1 c2 (vtl (rVf rs) lo (zscu se) W8 lsx ([42] :: lsx.drop kst) t) 0 - rPi c1 c2 Wz 0 + 260 * k + (if (0 : Int32) = 0 then 260 else 0)) (by rw [if_pos rfl]; omega) (by rw [if_pos rfl]; omega) ?_
                                exact ih G289 k 0 bx lsx (vtl (rVf rs) lo (zscu se) W8 lsx ([42] :: lsx.drop kst) t) roqh _ _ (by first | (rw [if_neg (by decide)]; omega) | (rw [if_pos rfl]; omega)) (hk) (Or.inr ⟨rfl, htot.symm⟩) (hn_bxqh) (hle8.tr hlet) (hstqh) (hfqh) hG hS ls (lv_sub hl [4, 5, 6, 7, 0] rfl)
                              · have b183 : ¬ 0 = 0 := fun q => c183 ((nI_eq (a := 0) (b := 0) (by omega) (by omega)).mpr q)
                                exact absurd rfl c183
                            · refine lv_aload_n hx hb d_Mo_answer_163 rfl (lv_at hl 3 rfl) ?_
                              refine lv_aload hx hb d_Mo_answer_164 (lv_at hl 1 rfl) ?_
                              refine lv_iconst (v := 0) hx hb d_Mo_answer_166 (by decide) ?_
                              refine zi_as (y := nI (np_pos ([42] :: lsx.drop kst) 0)) (by rw [np_pos0]; rfl) ?_
                              refine lv_iconst (v := 5) hx hb d_Mo_answer_167 (by decide) ?_
                              refine zk_i (va_runV (As := [.ref qf, .int (nI (np_pos ([42] :: lsx.drop kst) 0)), .int 5]) (rest := []) ⟨hx, hb, hml, hown, hts⟩ (t_Mo_has_s l hstqs 0 5 qf ([42] :: lsx.drop kst) hnqqs (Nat.zero_le _)) (zcV 3 hts w_1408 w_1410 wp_30 w_30 w_1411 (by decide +kernel) ⟨Nat.le_of_ble_eq_true rfl, Nat.le_of_ble_eq_true rfl⟩) (zc_preV hbase hK hN hQ hG hS raqs rfl) rfl rfl hl.1 rfl (lv_room (Nat.le_of_ble_eq_true rfl)) d_Mo_answer_168 ⟨(by dsimp only [List.length_nil]; omega), (by dsimp only [List.length_nil]; omega)⟩) hS (fun r168 G168 H locs hp168 hG hS => ?_)
                              have hG : zP E G85 H := hp168.2 ▸ hG
                              refine lv_if_eq (tgt := 178) hx hb d_Mo_answer_171 (by decide) (fun c171 => ?_) (fun c171 => ?_)
                              · have htot : vfo (rVf rs) lo (zscu se) t 9 Wz ls1 = (0, vtl (rVf rs) lo (zscu se) W8 lsx ([42] :: lsx.drop kst) t) := by rw [← hon1, vfo_tell hlox hvnc hor (by rw [hfdf]; exact Or.inr (Or.inr (Classical.byContradiction (fun z => hp168.1.z c171 z)))), hfdf]
                                have hbd9 : rBd c2 (vtl (rVf rs) lo (zscu se) W8 lsx ([42] :: lsx.drop kst) t) := by have q := hB; rw [htot] at q; exact q
                                have hPt : rPi c1 c2 ((vfo (rVf rs) lo (zscu se) t 9 Wz ls1).2) 0 = rPi c1 c2 (vtl (rVf rs) lo (zscu se) W8 lsx ([42] :: lsx.drop kst) t) 0 := by rw [htot]
                                have hlet : zLe (W8) (vtl (rVf rs) lo (zscu se) W8 lsx ([42] :: lsx.drop kst) t) := vtl_le _ _ _ _ _ _ _
                                have hpit := rPi_le (n := 0) (m := 0) hc1 hc2 hlet (rPw_le hlet)
                                have hwlt := wln_le hlet
                                refine lv_iconst (v := 0) hx hb d_Mo_answer_178 (by decide) ?_
                                refine lv_istore (lv' := [(5, .int 0), (8, .int 1), (7, .ref qf), (6, .int (nI (np_pos lsx kc))), (0, .ref a), (2, .int t), (3, .ref bx), (4, .int (nI k))]) hx hb d_Mo_answer_179 hl (by decide) rfl (fun ls hl => ?_)
                                refine lv_iload hx hb d_Mo_answer_181 (lv_at hl 0 rfl) ?_
                                refine lv_if_eq (tgt := 282) hx hb d_Mo_answer_183 (by decide) (fun c183 => ?_) (fun c183 => ?_)
                                · have b183 : 0 = 0 := (nI_eq (a := 0) (b := 0) (by omega) (by omega)).mp c183
                                  refine lv_aload_n hx hb d_Mo_answer_282 rfl (lv_at hl 4 rfl) ?_
                                  refine lv_aload_n hx hb d_Mo_answer_283 rfl (lv_at hl 6 rfl) ?_
                                  refine lv_aload hx hb d_Mo_answer_284 (lv_at hl 2 rfl) ?_
                                  refine lv_iload_n hx hb d_Mo_answer_286 rfl (lv_at hl 5 rfl) ?_
                                  refine lv_iload hx hb d_Mo_answer_287 (lv_at hl 1 rfl) ?_
                                  have hGo289 := hG
                                  refine zk_v (va_runV (As := [.ref bx, .ref qf, .int t, .int 1]) (rest := []) ⟨hx, hb, hml, hown, hts⟩ (t_Mo_held l E G85 a c1 c2 (zrn ro8 qf (0, 0)) lo rs W8 wp th co se tp v19 v20 hstqs bx lsx hn_bxqs qf ([42] :: lsx.drop kst) hnqqs t 1 hzw (fun _ => hzlx) hlof (fun _ => hnvd) hbd9) (zcV 4 hts w_1564 w_1566 wp_57 w_30 w_1567 (by decide +kernel) ⟨Nat.le_of_ble_eq_true rfl, Nat.le_of_ble_eq_true rfl⟩) (zc_preV hbase hK hN hQ hG hS raqs rfl) rfl rfl hl.1 rfl (lv_room (Nat.le_of_ble_eq_true rfl)) d_Mo_answer_289 ⟨(by dsimp only [List.length_nil]; omega), (by dsimp only [List.length_nil]; omega)⟩) hS (fun G289 H locs hp289 hG hS => ?_)
                                  obtain ⟨roqh, hstqh, hsqh⟩ := hp289
                                  have hfqh : zfr ro zKr G roqh G289 := hfqs.tr hsqh
                                  refine zW_more (cells2 := rPi c1 c2 (vtl (rVf rs) lo (zscu se) W8 lsx ([42] :: lsx.drop kst) t) 0 - rPi c1 c2 Wz 0 + 3 * k + 3) (slots2 := rPi c1 c2 (vtl (rVf rs) lo (zscu se) W8 lsx ([42] :: lsx.drop kst) t) 0 - rPi c1 c2 Wz 0 + 260 * k + 260) (by dsimp only [List.length_nil]; omega) (by dsimp only [List.length_nil]; omega) ?_
                                  obtain ⟨hqh, eh0qh, eh1qh, eh2qh, hcqh⟩ := id hstqh
                                  obtain ⟨raqh, rbqh, ⟨fmqh, rt1qh, rt2qh, rt3qh, rt4qh⟩, rtlqh, ⟨foqh, rn1qh, rn2qh, rn3qh, rn4qh, rn5qh⟩, rrqh, rgqh, rasqh⟩ := id hcqh
                                  rw [eh0qh] at raqh
                                  obtain ⟨⟨frqh, rm4qh, hfrqh⟩, hn2qh, hRsqh⟩ := id rrqh.1
                                  have hn_bxqh : rNm E G289 roqh bx lsx := hn_bxqs.fr hsqh zKr_0
                                  obtain ⟨f_bxqh, n1_bxqh, n2_bxqh, n3_bxqh, n4_bxqh, n5_bxqh⟩ := id hn_bxqh
                                  have sm_bxqh := n3_bxqh.2
                                  have hn_qfqh : rNm E G289 roqh qf ([42] :: lsx.drop kst) := hnqqs.fr hsqh zKr_0
                                  obtain ⟨f_qfqh, n1_qfqh, n2_qfqh, n3_qfqh, n4_qfqh, n5_qfqh⟩ := id hn_qfqh
                                  have sm_qfqh := n3_qfqh.2
                                  refine lv_goto (tgt := 8) hx hb d_Mo_answer_292 (by decide) ?_
                                  refine zW_more (cells2 := rPi c1 c2 (vtl (rVf rs) lo (zscu se) W8 lsx ([42] :: lsx.drop kst) t) 0 - rPi c1 c2 Wz 0 + 3 * k + (if (0 : Int32) = 0 then 3 else 0)) (slots2 := rPi c1 c2 (vtl (rVf rs) lo (zscu se) W8 lsx ([42] :: lsx.drop kst) t) 0 - rPi c1 c2 Wz 0 + 260 * k + (if (0 : Int32) = 0 then 260 else 0)) (by rw [if_pos rfl]; omega) (by rw [if_pos rfl]; omega) ?_
                                  exact ih G289 k 0 bx lsx (vtl (rVf rs) lo (zscu se) W8 lsx ([42] :: lsx.drop kst) t) roqh _ _ (by first | (rw [if_neg (by decide)]; omega) | (rw [if_pos rfl]; omega)) (hk) (Or.inr ⟨rfl, htot.symm⟩) (hn_bxqh) (hle8.tr hlet) (hstqh) (hfqh) hG hS ls (lv_sub hl [4, 5, 6, 7, 0] rfl)
                                · have b183 : ¬ 0 = 0 := fun q => c183 ((nI_eq (a := 0) (b := 0) (by omega) (by omega)).mpr q)
                                  exact absurd rfl c183
                              · have hy5 : (rVf rs) ([42] :: lsx.drop kst) 5 ≠ [] := hp168.1.nz c171
                                obtain ⟨e5, he5, e51, e52⟩ := rVf_ne.mp hy5
                                obtain ⟨j5, hj5, ej5⟩ := re_ix he5
                                rw [← ej5] at e51 e52
                                have hv5 := rV5 hj5 e51 e52 (hcn _)
                                have hnx5 : vfo (rVf rs) lo (zscu se) t n9 (vpr (rVf rs) lo (zscu se) (wad 1 W8 (vrw (rVf rs) lsx ([42] :: lsx.drop kst) 5)) (vov (rVf rs) lo lsx)) (vtg 5 (rB (re rs j5))) = vfo (rVf rs) lo (zscu se) t 9 Wz ls1 := by
                                  rw [← hon1, vfo_next hlox hvnc hor c153 c160 (by rw [hfdf]; exact hv5), hfdf, zif_n hnth]; rfl
                                have hlev : zLe (vpr (rVf rs) lo (zscu se) (wad 1 W8 (vrw (rVf rs) lsx ([42] :: lsx.drop kst) 5)) (vov (rVf rs) lo lsx)) (vfo (rVf rs) lo (zscu se) t 9 Wz ls1).2 := by rw [← hnx5]; exact vfo_le _ _ _
                                have hbv := hB.le hc2 hlev
                                have hpv := rPi_le (n := 0) (m := 0) hc1 hc2 hlev (rPw_le hlev)
                                have hlef : zLe (W8) (wad 1 W8 (vrw (rVf rs) lsx ([42] :: lsx.drop kst) 5)) := zLe_wad _ _ _
                                have hpif := rPi_le (n := 0) (m := 0) hc1 hc2 hlef (rPw_le hlef)
                                have hwlf := wln_le hlef
                                have hleg : zLe (wad 1 W8 (vrw (rVf rs) lsx ([42] :: lsx.drop kst) 5)) (vpr (rVf rs) lo (zscu se) (wad 1 W8 (vrw (rVf rs) lsx ([42] :: lsx.drop kst) 5)) (vov (rVf rs) lo lsx)) := vpr_le _ _ _ _ _
                                have hpig := rPi_le (n := 0) (m := 0) hc1 hc2 hleg (rPw_le hleg)
                                have hwlg := wln_le hleg
                                have hb1f := hbv.le hc2 hleg
                                refine lv_iconst (v := 1) hx hb d_Mo_answer_174 (by decide) ?_
                                refine lv_goto (tgt := 179) hx hb d_Mo_answer_175 (by decide) ?_
                                refine lv_istore (lv' := [(5, .int 1), (8, .int 1), (7, .ref qf), (6, .int (nI (np_pos lsx kc))), (0, .ref a), (2, .int t), (3, .ref bx), (4, .int (nI k))]) hx hb d_Mo_answer_179 hl (by decide) rfl (fun ls hl => ?_)
                                refine lv_iload hx hb d_Mo_answer_181 (lv_at hl 0 rfl) ?_
                                refine lv_if_eq (tgt := 282) hx hb d_Mo_answer_183 (by decide) (fun c183 => ?_) (fun c183 => ?_)
                                · have b183 : 1 = 0 := (nI_eq (a := 1) (b := 0) (by omega) (by omega)).mp c183
                                  exact absurd c183 (by decide)
                                · have b183 : ¬ 1 = 0 := fun q => c183 ((nI_eq (a := 1) (b := 0) (by omega) (by omega)).mpr q)
                                  refine lv_aload_n hx hb d_Mo_answer_186 rfl (lv_at hl 4 rfl) ?_
                                  refine lv_aload_n hx hb d_Mo_answer_187 rfl (lv_at hl 6 rfl) ?_
                                  refine lv_aload hx hb d_Mo_answer_188 (lv_at hl 2 rfl) ?_
                                  refine lv_iconst (v := 5) hx hb d_Mo_answer_190 (by decide) ?_
                                  have hGo191 := hG
                                  refine zk_v (va_runV (As := [.ref bx, .ref qf, .int 5]) (rest := []) ⟨hx, hb, hml, hown, hts⟩ (t_Mo_first l E G85 a c1 c2 (zrn ro8 qf (0, 0)) lo rs W8 wp th co se tp v19 v20 hstqs bx lsx hn_bxqs qf ([42] :: lsx.drop kst) hnqqs 5 (by decide) (fun _ => hnvd) hb1f.1) (zcV 3 hts w_1560 w_1562 wp_56 w_30 w_1563 (by decide +kernel) ⟨Nat.le_of_ble_eq_true rfl, Nat.le_of_ble_eq_true rfl⟩) (zc_preV hbase hK hN hQ hG hS raqs rfl) rfl rfl hl.1 rfl (lv_room (Nat.le_of_ble_eq_true rfl)) d_Mo_answer_191 ⟨(by dsimp only [List.length_nil]; omega), (by dsimp only [List.length_nil]; omega)⟩) hS (fun G191 H locs hp191 hG hS => ?_)
                                  obtain ⟨roq1, hstq1, hsq1⟩ := hp191
                                  have hfq1 : zfr ro zKr G roq1 G191 := hfqs.tr hsq1
                                  refine zW_more (cells2 := rPi c1 c2 (wad 1 W8 (vrw (rVf rs) lsx ([42] :: lsx.drop kst) 5)) 0 - rPi c1 c2 Wz 0 + 3 * k + 3) (slots2 := rPi c1 c2 (wad 1 W8 (vrw (rVf rs) lsx ([42] :: lsx.drop kst) 5)) 0 - rPi c1 c2 Wz 0 + 260 * k + 260) (by dsimp only [List.length_nil]; omega) (by dsimp only [List.length_nil]; omega) ?_
                                  obtain ⟨hq1, eh0q1, eh1q1, eh2q1, hcq1⟩ := id hstq1
                                  obtain ⟨raq1, rbq1, ⟨fmq1, rt1q1, rt2q1, rt3q1, rt4q1⟩, rtlq1, ⟨foq1, rn1q1, rn2q1, rn3q1, rn4q1, rn5q1⟩, rrq1, rgq1, rasq1⟩ := id hcq1
                                  rw [eh0q1] at raq1
                                  obtain ⟨⟨frq1, rm4q1, hfrq1⟩, hn2q1, hRsq1⟩ := id rrq1.1
                                  have hn_bxq1 : rNm E G191 roq1 bx lsx := hn_bxqs.fr hsq1 zKr_0
                                  obtain ⟨f_bxq1, n1_bxq1, n2_bxq1, n3_bxq1, n4_bxq1, n5_bxq1⟩ := id hn_bxq1
                                  have sm_bxq1 := n3_bxq1.2
                                  have hn_qfq1 : rNm E G191 roq1 qf ([42] :: lsx.drop kst) := hnqqs.fr hsq1 zKr_0
                                  obtain ⟨f_qfq1, n1_qfq1, n2_qfq1, n3_qfq1, n4_qfq1, n5_qfq1⟩ := id hn_qfq1
                                  have sm_qfq1 := n3_qfq1.2
                                  refine lv_iload hx hb d_Mo_answer_194 (lv_at hl 1 rfl) ?_
                                  refine lv_if_eq (tgt := 215) hx hb d_Mo_answer_196 (by decide) (fun c196 => ?_) (fun c196 => ?_)
                                  · have b196 : 1 = 0 := (nI_eq (a := 1) (b := 0) (by omega) (by omega)).mp c196
                                    exact absurd c196 (by decide)
                                  · have b196 : ¬ 1 = 0 := fun q => c196 ((nI_eq (a := 1) (b := 0) (by omega) (by omega)).mpr q)
                                    refine lv_aload_n hx hb d_Mo_answer_199 rfl (lv_at hl 4 rfl) ?_
                                    refine zg_get (ci := 11) (C := "ZoneAnswersModel") (T := T_Mo) (N := 21) hx hb hts zi_Mo hown hK hG raq1 rfl 17 (by decide) (hts _ w_1298) (fun _ h9 => h9) rfl d_Mo_answer_200 ?_
                                    refine lv_if_eq (tgt := 215) hx hb d_Mo_answer_203 (by decide) (fun c203 => ?_) (fun c203 => ?_)
                                    · have hsc := zscu_0 c203
                                      refine lv_iinc (v := nI (k + 1)) (lv' := [(4, .int (nI (k + 1))), (5, .int 1), (8, .int 1), (7, .ref qf), (6, .int (nI (np_pos lsx kc))), (0, .ref a), (2, .int t), (3, .ref bx)]) hx hb d_Mo_answer_215 hl (k := 7) rfl (nI_add k 1) (by decide) rfl (fun ls hl => ?_)
                                      have hn9k : 9 - (k + 1) = n9 := by omega
                                      have hnx6 : vfo (rVf rs) lo (zscu se) t n9 (wad 1 W8 (vrw (rVf rs) lsx ([42] :: lsx.drop kst) 5)) (vtg 5 (rB (re rs j5))) = vfo (rVf rs) lo (zscu se) t 9 Wz ls1 := by rw [show wad 1 W8 (vrw (rVf rs) lsx ([42] :: lsx.drop kst) 5) = vpr (rVf rs) lo (zscu se) (wad 1 W8 (vrw (rVf rs) lsx ([42] :: lsx.drop kst) 5)) (vov (rVf rs) lo lsx) from by rw [hsc, vpr_f]]; exact hnx5
                                      have hlez : zLe Wz (wad 1 W8 (vrw (rVf rs) lsx ([42] :: lsx.drop kst) 5)) := hle8.tr (hlef)
                                      refine lv_iconst (v := 0) hx hb d_Mo_answer_218 (by decide) ?_
                                      refine zi_as (y := nI 0) (nI_0.symm) ?_
                                      refine lv_istore (lv' := [(9, .int (nI 0)), (4, .int (nI (k + 1))), (5, .int 1), (8, .int 1), (7, .ref qf), (6, .int (nI (np_pos lsx kc))), (0, .ref a), (2, .int t), (3, .ref bx)]) hx hb d_Mo_answer_219 hl (by decide) rfl (fun ls hl => ?_)
                                      have loop221 : ∀ (N : Nat) (i : Nat) (xo : Nat) (H : Heap) (locs : List Loc), (rs.length - i) < N → (i ≤ rs.length) → ((xo = bx ∧ ∀ j, j < i → ¬ (rT (re rs j) = 5 ∧ rM (re rs j) = [42] :: lsx.drop kst)) ∨ ∃ j, j < i ∧ (rT (re rs j) = 5 ∧ rM (re rs j) = [42] :: lsx.drop kst) ∧ xo = rD (re rs j)) → zP E G191 H → zg_S (zc_b E) s.heap H locs → ∀ (ls : Array Slot), lv_has ls 10 [(0, .ref a), (2, .int t), (3, .ref xo), (4, .int (nI (k + 1))), (5, .int 1), (7, .ref qf), (9, .int (nI i))] → W p l e (rm_Mo_answer (rPi c1 c2 ((vfo (rVf rs) lo (zscu se) t 9 Wz ls1).2) 0 - rPi c1 c2 Wz 0 + 40) (rPi c1 c2 ((vfo (rVf rs) lo (zscu se) t 9 Wz ls1).2) 0 - rPi c1 c2 Wz 0 + 2700)) s m args below meth c H locs (rPi c1 c2 (wad 1 W8 (vrw (rVf rs) lsx ([42] :: lsx.drop kst) 5)) 0 - rPi c1 c2 Wz 0 + 3 * k + 3) (rPi c1 c2 (wad 1 W8 (vrw (rVf rs) lsx ([42] :: lsx.drop kst) 5)) 0 - rPi c1 c2 Wz 0 + 260 * k + 260) Q (F0 m 221 ls []) := by
                                        intro N
                                        induction N with
                                        | zero =>
                                          intro i xo H locs hlt
                                          exact absurd hlt (Nat.not_lt_zero _)
                                        | succ N ih =>
                                          intro i xo H locs hlt hi hxo hG hS ls hl
                                          refine lv_iload hx hb d_Mo_answer_221 (lv_at hl 6 rfl) ?_
                                          refine lv_aload_n hx hb d_Mo_answer_223 rfl (lv_at hl 0 rfl) ?_
                                          refine zg_get (ci := 11) (C := "ZoneAnswersModel") (T := T_Mo) (N := 21) hx hb hts zi_Mo hown hK hG raq1 rfl 5 (by decide) (hts _ w_1286) (fun _ h9 => h9) rfl d_Mo_answer_224 ?_
                                          refine lv_icmp_ge (tgt := 279) hx hb d_Mo_answer_227 (by decide) (fun c227 => ?_) (fun c227 => ?_)
                                          · have b227 : rs.length ≤ i := (nI_leI (a := rs.length) (b := i) (by omega) (by omega)).mp c227
                                            obtain ⟨j7, hj7, ⟨e71, e72⟩, e73⟩ := hxo.resolve_left (fun z => z.2 j5 (by omega) ⟨e51, e52⟩)
                                            have hj7r : j7 < rs.length := by omega
                                            have hv7 := rV5 hj7r e71 e72 (hcn _)
                                            rw [hv5] at hv7
                                            have eB7 : rB (re rs j5) = rB (re rs j7) := congrArg (fun z : List (Int32 × List Int32) => (z.headD (0, [])).2) hv7
                                            have hnn7 := hstq1.dn hj7r (Or.inr e71)
                                            rw [e71, ← eB7, ← e73] at hnn7
                                            refine lv_goto (tgt := 292) hx hb d_Mo_answer_279 (by decide) ?_
                                            refine lv_goto (tgt := 8) hx hb d_Mo_answer_292 (by decide) ?_
                                            refine zW_more (cells2 := rPi c1 c2 (wad 1 W8 (vrw (rVf rs) lsx ([42] :: lsx.drop kst) 5)) 0 - rPi c1 c2 Wz 0 + 3 * (k + 1) + (if (1 : Int32) = 0 then 3 else 0)) (slots2 := rPi c1 c2 (wad 1 W8 (vrw (rVf rs) lsx ([42] :: lsx.drop kst) 5)) 0 - rPi c1 c2 Wz 0 + 260 * (k + 1) + (if (1 : Int32) = 0 then 260 else 0)) (by rw [if_neg (by decide)]; omega) (by rw [if_neg (by decide)]; omega) ?_
                                            exact ih8 G191 (k + 1) 1 xo (vtg 5 (rB (re rs j5))) (wad 1 W8 (vrw (rVf rs) lsx ([42] :: lsx.drop kst) 5)) roq1 _ _ (by first | (rw [if_neg (by decide)]; omega) | (rw [if_pos rfl]; omega)) (by omega) (Or.inl ⟨rfl, by rw [hn9k]; exact hnx6⟩) (hnn7) (hlez) (hstq1) (hfq1) hG hS ls (lv_sub hl [0, 1, 2, 3, 4] rfl)
                                          · have b227 : ¬ rs.length ≤ i := fun q => c227 ((nI_leI (a := rs.length) (b := i) (by omega) (by omega)).mpr q)
                                            have hin : i < rs.length := by omega
                                            obtain ⟨hr1, ⟨nf, hr2, hr3, hr4, hr5⟩, df, hr6, hr7, hr8⟩ := hRsq1 _ (re_mem hin)
                                            have sm := hr4.2
                                            refine lv_aload_n hx hb d_Mo_answer_230 rfl (lv_at hl 0 rfl) ?_
                                            refine zg_get (ci := 11) (C := "ZoneAnswersModel") (T := T_Mo) (N := 21) hx hb hts zi_Mo hown hK hG raq1 rfl 4 (by decide) (hts _ w_1285) (fun _ h9 => h9) rfl d_Mo_answer_231 ?_
                                            refine lv_iload hx hb d_Mo_answer_234 (lv_at hl 6 rfl) ?_
                                            refine zg_aldq hx hb hK hG 4 rm4q1 rfl (vp_in_nI (by omega) (by omega)) d_Mo_answer_236 ?_
                                            refine zr_as (y := frq1 i) (by rw [zi_n _ (by omega)]) ?_
                                            refine zr_some (a := rA (re rs i)) (hfrq1 i hin) ?_
                                            refine zg_get (ci := 12) (C := "ZoneAnswersModel$Rec") (T := T_Re) (N := 5) hx hb hts zi_Re hown hK hG hr1 rfl 3 (by decide) (hts _ w_1268) (fun _ h9 => h9) rfl d_Mo_answer_237 ?_
                                            refine lv_iconst (v := 5) hx hb d_Mo_answer_240 (by decide) ?_
                                            refine lv_icmp_ne (tgt := 273) hx hb d_Mo_answer_241 (by decide) (fun c241 => ?_) (fun c241 => ?_)
                                            · refine lv_iinc (v := nI (i + 1)) (lv' := [(9, .int (nI (i + 1))), (0, .ref a), (2, .int t), (3, .ref xo), (4, .int (nI (k + 1))), (5, .int 1), (7, .ref qf)]) hx hb d_Mo_answer_273 hl (k := 6) rfl (nI_add i 1) (by decide) rfl (fun ls hl => ?_)
                                              refine lv_goto (tgt := 221) hx hb d_Mo_answer_276 (by decide) ?_
                                              exact ih (i + 1) xo _ _ (by omega) (by omega) (hxo.elim (fun z => Or.inl ⟨z.1, fun j hj => by rcases Nat.lt_or_ge j i with q1 | q1; exact z.2 j q1; rw [show j = i by omega]; first | exact fun w => c241 w.1 | exact fun w => hp256.1.z c259 ((zsm_n hr3 n2_qfq1 hr4 n3_qfq1).mpr w.2)⟩) (fun ⟨j, j1, j2⟩ => Or.inr ⟨j, by omega, j2⟩)) hG hS ls (lv_sub hl [1, 2, 3, 4, 5, 6, 0] rfl)
                                            · refine lv_aload_n hx hb d_Mo_answer_244 rfl (lv_at hl 0 rfl) ?_
                                              refine zg_get (ci := 11) (C := "ZoneAnswersModel") (T := T_Mo) (N := 21) hx hb hts zi_Mo hown hK hG raq1 rfl 4 (by decide) (hts _ w_1285) (fun _ h9 => h9) rfl d_Mo_answer_245 ?_
                                              refine lv_iload hx hb d_Mo_answer_248 (lv_at hl 6 rfl) ?_
                                              refine zg_aldq hx hb hK hG 4 rm4q1 rfl (vp_in_nI (by omega) (by omega)) d_Mo_answer_250 ?_
                                              refine zr_as (y := frq1 i) (by rw [zi_n _ (by omega)]) ?_
                                              refine zr_some (a := rA (re rs i)) (hfrq1 i hin) ?_
                                              refine zg_get (ci := 12) (C := "ZoneAnswersModel$Rec") (T := T_Re) (N := 5) hx hb hts zi_Re hown hK hG hr1 rfl 0 (by decide) (hts _ w_1265) (fun _ h9 => h9) rfl d_Mo_answer_251 ?_
                                              refine lv_aload hx hb d_Mo_answer_254 (lv_at hl 5 rfl) ?_
                                              refine zk_i (va_runS (As := [.ref (rN (re rs i)), .ref qf]) (rest := []) ⟨hx, hb, hml, hown, hts⟩ (t_Ns_same l E G191 (rN (re rs i)) (np_len (rM (re rs i))) nf hr2 qf (np_len ([42] :: lsx.drop kst)) f_qfq1 n1_qfq1 (by omega) (by omega)) (zcS 2 hts w_1405 w_1406 w_33 w_1407 (by decide +kernel) ⟨Nat.le_of_ble_eq_true rfl, Nat.le_of_ble_eq_true rfl⟩) (zc_pre hbase hK hN hQ hG hS) rfl rfl hl.1 rfl (lv_room (Nat.le_of_ble_eq_true rfl)) d_Mo_answer_256 ⟨(by dsimp only [List.length_nil]; omega), (by dsimp only [List.length_nil]; omega)⟩) hS (fun r256 G256 H locs hp256 hG hS => ?_)
                                              have hG : zP E G191 H := hp256.2 ▸ hG
                                              refine lv_if_eq (tgt := 273) hx hb d_Mo_answer_259 (by decide) (fun c259 => ?_) (fun c259 => ?_)
                                              · refine lv_iinc (v := nI (i + 1)) (lv' := [(9, .int (nI (i + 1))), (0, .ref a), (2, .int t), (3, .ref xo), (4, .int (nI (k + 1))), (5, .int 1), (7, .ref qf)]) hx hb d_Mo_answer_273 hl (k := 6) rfl (nI_add i 1) (by decide) rfl (fun ls hl => ?_)
                                                refine lv_goto (tgt := 221) hx hb d_Mo_answer_276 (by decide) ?_
                                                exact ih (i + 1) xo _ _ (by omega) (by omega) (hxo.elim (fun z => Or.inl ⟨z.1, fun j hj => by rcases Nat.lt_or_ge j i with q1 | q1; exact z.2 j q1; rw [show j = i by omega]; first | exact fun w => c241 w.1 | exact fun w => hp256.1.z c259 ((zsm_n hr3 n2_qfq1 hr4 n3_qfq1).mpr w.2)⟩) (fun ⟨j, j1, j2⟩ => Or.inr ⟨j, by omega, j2⟩)) hG hS ls (lv_sub hl [1, 2, 3, 4, 5, 6, 0] rfl)
                                              · refine lv_aload_n hx hb d_Mo_answer_262 rfl (lv_at hl 0 rfl) ?_
                                                refine zg_get (ci := 11) (C := "ZoneAnswersModel") (T := T_Mo) (N := 21) hx hb hts zi_Mo hown hK hG raq1 rfl 4 (by decide) (hts _ w_1285) (fun _ h9 => h9) rfl d_Mo_answer_263 ?_
                                                refine lv_iload hx hb d_Mo_answer_266 (lv_at hl 6 rfl) ?_
                                                refine zg_aldq hx hb hK hG 4 rm4q1 rfl (vp_in_nI (by omega) (by omega)) d_Mo_answer_268 ?_
                                                refine zr_as (y := frq1 i) (by rw [zi_n _ (by omega)]) ?_
                                                refine zr_some (a := rA (re rs i)) (hfrq1 i hin) ?_
                                                refine zg_get (ci := 12) (C := "ZoneAnswersModel$Rec") (T := T_Re) (N := 5) hx hb hts zi_Re hown hK hG hr1 rfl 1 (by decide) (hts _ w_1266) (fun _ h9 => h9) rfl d_Mo_answer_269 ?_
                                                refine lv_astore_n (lv' := [(3, .ref (rD (re rs i))), (0, .ref a), (2, .int t), (4, .int (nI (k + 1))), (5, .int 1), (7, .ref qf), (9, .int (nI i))]) hx hb d_Mo_answer_272 rfl hl (by decide) rfl (fun ls hl => ?_)
                                                refine lv_iinc (v := nI (i + 1)) (lv' := [(9, .int (nI (i + 1))), (3, .ref (rD (re rs i))), (0, .ref a), (2, .int t), (4, .int (nI (k + 1))), (5, .int 1), (7, .ref qf)]) hx hb d_Mo_answer_273 hl (k := 6) rfl (nI_add i 1) (by decide) rfl (fun ls hl => ?_)
                                                refine lv_goto (tgt := 221) hx hb d_Mo_answer_276 (by decide) ?_
                                                exact ih (i + 1) (rD (re rs i)) _ _ (by omega) (by omega) (Or.inr ⟨i, by omega, ⟨c241, (zsm_n hr3 n2_qfq1 hr4 n3_qfq1).mp (hp256.1.nz c259)⟩, rfl⟩) hG hS ls (lv_sub hl [2, 3, 1, 4, 5, 6, 0] rfl)
                                      exact loop221 _ 0 bx _ _ (Nat.lt_succ_self _) (Nat.zero_le _) (Or.inl ⟨rfl, fun j hj => absurd hj (Nat.not_lt_zero j)⟩) hG hS ls (lv_sub hl [6, 7, 8, 1, 2, 4, 0] rfl)
                                    · have hsc := zscu_1 c203
                                      have hVt : vpr (rVf rs) lo (zscu se) (wad 1 W8 (vrw (rVf rs) lsx ([42] :: lsx.drop kst) 5)) (vov (rVf rs) lo lsx) = vpr (rVf rs) lo true (wad 1 W8 (vrw (rVf rs) lsx ([42] :: lsx.drop kst) 5)) (vov (rVf rs) lo lsx) := by rw [hsc]
                                      have hbv2 : rBd c2 (vpr (rVf rs) lo true (wad 1 W8 (vrw (rVf rs) lsx ([42] :: lsx.drop kst) 5)) (vov (rVf rs) lo lsx)) := by rw [← hVt]; exact hbv
                                      have hpv2 : rPi c1 c2 (vpr (rVf rs) lo true (wad 1 W8 (vrw (rVf rs) lsx ([42] :: lsx.drop kst) 5)) (vov (rVf rs) lo lsx)) 0 ≤ rPi c1 c2 ((vfo (rVf rs) lo (zscu se) t 9 Wz ls1).2) 0 := by rw [← hVt]; exact hpv
                                      have hpig2 : rPi c1 c2 (wad 1 W8 (vrw (rVf rs) lsx ([42] :: lsx.drop kst) 5)) 0 ≤ rPi c1 c2 (vpr (rVf rs) lo true (wad 1 W8 (vrw (rVf rs) lsx ([42] :: lsx.drop kst) 5)) (vov (rVf rs) lo lsx)) 0 := by rw [← hVt]; exact hpig
                                      refine lv_aload_n hx hb d_Mo_answer_206 rfl (lv_at hl 4 rfl) ?_
                                      refine lv_aload_n hx hb d_Mo_answer_207 rfl (lv_at hl 4 rfl) ?_
                                      refine lv_aload_n hx hb d_Mo_answer_208 rfl (lv_at hl 6 rfl) ?_
                                      have hGo209 := hG
                                      refine zk_q (va_runV (As := [.ref bx]) (rest := [.ref a]) ⟨hx, hb, hml, hown, hts⟩ (t_Mo_before_s l hstq1 bx lsx hn_bxq1 (hzlx)) (zcV 1 hts w_1556 w_1558 wp_55 w_30 w_1559 (by decide +kernel) ⟨Nat.le_of_ble_eq_true rfl, Nat.le_of_ble_eq_true rfl⟩) (zc_preV hbase hK hN hQ hG hS raq1 rfl) rfl rfl hl.1 rfl (lv_room (Nat.le_of_ble_eq_true rfl)) d_Mo_answer_209 ⟨(by dsimp only [List.length_nil]; omega), (by dsimp only [List.length_nil]; omega)⟩) hS (fun r209 G209 H locs hp209 hG hS => ?_)
                                      have hG : zP E G191 H := hp209.2 ▸ hG
                                      obtain ⟨j209, hj209, er209, hov209, hv209⟩ := hp209.1
                                      refine zr_some (a := rN (re rs j209)) er209 ?_
                                      have hnb209 := (hstq1.nm hj209).1
                                      have hGo212 := hG
                                      refine zk_v (va_runV (As := [.ref (rN (re rs j209))]) (rest := []) ⟨hx, hb, hml, hown, hts⟩ (t_Mo_link l E G191 a c1 c2 roq1 lo rs (wad 1 W8 (vrw (rVf rs) lsx ([42] :: lsx.drop kst) 5)) wp th co se tp v19 v20 hstq1 (rN (re rs j209)) (rM (re rs j209)) hnb209 hov209.1.2 (by rw [hv209] at hbv2; have := (hbv2.le hc2 (vpr_le _ _ _ _ _)).1; omega) (by rw [hv209] at hbv2; exact hbv2.2)) (zcV 1 hts w_1493 w_1495 wp_43 w_30 w_1496 (by decide +kernel) ⟨Nat.le_of_ble_eq_true rfl, Nat.le_of_ble_eq_true rfl⟩) (zc_preV hbase hK hN hQ hG hS raq1 rfl) rfl rfl hl.1 rfl (lv_room (Nat.le_of_ble_eq_true rfl)) d_Mo_answer_212 ⟨(by dsimp only [List.length_nil]; rw [← hv209]; omega), (by dsimp only [List.length_nil]; rw [← hv209]; omega)⟩) hS (fun G212 H locs hp212 hG hS => ?_)
                                      obtain ⟨roq2, hstq2, hsq2⟩ := hp212
                                      have hstq2 : rSt E G212 roq2 a c1 c2 lo rs (vpr (rVf rs) lo true (wad 1 W8 (vrw (rVf rs) lsx ([42] :: lsx.drop kst) 5)) (vov (rVf rs) lo lsx)) ([]) True (wln (vpr (rVf rs) lo true (wad 1 W8 (vrw (rVf rs) lsx ([42] :: lsx.drop kst) 5)) (vov (rVf rs) lo lsx)), 0, [], wp) th tp co se v19 v20 := by rw [hv209]; exact hstq2
                                      have hfq2 : zfr ro zKr G roq2 G212 := hfq1.tr hsq2
                                      refine zW_more (cells2 := rPi c1 c2 (vpr (rVf rs) lo true (wad 1 W8 (vrw (rVf rs) lsx ([42] :: lsx.drop kst) 5)) (vov (rVf rs) lo lsx)) 0 - rPi c1 c2 Wz 0 + 3 * k + 3) (slots2 := rPi c1 c2 (vpr (rVf rs) lo true (wad 1 W8 (vrw (rVf rs) lsx ([42] :: lsx.drop kst) 5)) (vov (rVf rs) lo lsx)) 0 - rPi c1 c2 Wz 0 + 260 * k + 260) (by dsimp only [List.length_nil]; rw [← hv209]; omega) (by dsimp only [List.length_nil]; rw [← hv209]; omega) ?_
                                      obtain ⟨hq2, eh0q2, eh1q2, eh2q2, hcq2⟩ := id hstq2
                                      obtain ⟨raq2, rbq2, ⟨fmq2, rt1q2, rt2q2, rt3q2, rt4q2⟩, rtlq2, ⟨foq2, rn1q2, rn2q2, rn3q2, rn4q2, rn5q2⟩, rrq2, rgq2, rasq2⟩ := id hcq2
                                      rw [eh0q2] at raq2
                                      obtain ⟨⟨frq2, rm4q2, hfrq2⟩, hn2q2, hRsq2⟩ := id rrq2.1
                                      have hn_bxq2 : rNm E G212 roq2 bx lsx := hn_bxq1.fr hsq2 zKr_0
                                      obtain ⟨f_bxq2, n1_bxq2, n2_bxq2, n3_bxq2, n4_bxq2, n5_bxq2⟩ := id hn_bxq2
                                      have sm_bxq2 := n3_bxq2.2
                                      have hn_qfq2 : rNm E G212 roq2 qf ([42] :: lsx.drop kst) := hn_qfq1.fr hsq2 zKr_0
                                      obtain ⟨f_qfq2, n1_qfq2, n2_qfq2, n3_qfq2, n4_qfq2, n5_qfq2⟩ := id hn_qfq2
                                      have sm_qfq2 := n3_qfq2.2
                                      refine lv_iinc (v := nI (k + 1)) (lv' := [(4, .int (nI (k + 1))), (5, .int 1), (8, .int 1), (7, .ref qf), (6, .int (nI (np_pos lsx kc))), (0, .ref a), (2, .int t), (3, .ref bx)]) hx hb d_Mo_answer_215 hl (k := 7) rfl (nI_add k 1) (by decide) rfl (fun ls hl => ?_)
                                      have hn9k : 9 - (k + 1) = n9 := by omega
                                      have hnx6 : vfo (rVf rs) lo (zscu se) t n9 (vpr (rVf rs) lo true (wad 1 W8 (vrw (rVf rs) lsx ([42] :: lsx.drop kst) 5)) (vov (rVf rs) lo lsx)) (vtg 5 (rB (re rs j5))) = vfo (rVf rs) lo (zscu se) t 9 Wz ls1 := by rw [show vpr (rVf rs) lo true (wad 1 W8 (vrw (rVf rs) lsx ([42] :: lsx.drop kst) 5)) (vov (rVf rs) lo lsx) = vpr (rVf rs) lo (zscu se) (wad 1 W8 (vrw (rVf rs) lsx ([42] :: lsx.drop kst) 5)) (vov (rVf rs) lo lsx) from by rw [hsc]]; exact hnx5
                                      have hlez : zLe Wz (vpr (rVf rs) lo true (wad 1 W8 (vrw (rVf rs) lsx ([42] :: lsx.drop kst) 5)) (vov (rVf rs) lo lsx)) := hle8.tr (hlef.tr (vpr_le _ _ _ _ _))
                                      refine lv_iconst (v := 0) hx hb d_Mo_answer_218 (by decide) ?_
                                      refine zi_as (y := nI 0) (nI_0.symm) ?_
                                      refine lv_istore (lv' := [(9, .int (nI 0)), (4, .int (nI (k + 1))), (5, .int 1), (8, .int 1), (7, .ref qf), (6, .int (nI (np_pos lsx kc))), (0, .ref a), (2, .int t), (3, .ref bx)]) hx hb d_Mo_answer_219 hl (by decide) rfl (fun ls hl => ?_)
                                      have loop221 : ∀ (N : Nat) (i : Nat) (xo : Nat) (H : Heap) (locs : List Loc), (rs.length - i) < N → (i ≤ rs.length) → ((xo = bx ∧ ∀ j, j < i → ¬ (rT (re rs j) = 5 ∧ rM (re rs j) = [42] :: lsx.drop kst)) ∨ ∃ j, j < i ∧ (rT (re rs j) = 5 ∧ rM (re rs j) = [42] :: lsx.drop kst) ∧ xo = rD (re rs j)) → zP E G212 H → zg_S (zc_b E) s.heap H locs → ∀ (ls : Array Slot), lv_has ls 10 [(0, .ref a), (2, .int t), (3, .ref xo), (4, .int (nI (k + 1))), (5, .int 1), (7, .ref qf), (9, .int (nI i))] → W p l e (rm_Mo_answer (rPi c1 c2 ((vfo (rVf rs) lo (zscu se) t 9 Wz ls1).2) 0 - rPi c1 c2 Wz 0 + 40) (rPi c1 c2 ((vfo (rVf rs) lo (zscu se) t 9 Wz ls1).2) 0 - rPi c1 c2 Wz 0 + 2700)) s m args below meth c H locs (rPi c1 c2 (vpr (rVf rs) lo true (wad 1 W8 (vrw (rVf rs) lsx ([42] :: lsx.drop kst) 5)) (vov (rVf rs) lo lsx)) 0 - rPi c1 c2 Wz 0 + 3 * k + 3) (rPi c1 c2 (vpr (rVf rs) lo true (wad 1 W8 (vrw (rVf rs) lsx ([42] :: lsx.drop kst) 5)) (vov (rVf rs) lo lsx)) 0 - rPi c1 c2 Wz 0 + 260 * k + 260) Q (F0 m 221 ls []) := by
                                        intro N
                                        induction N with
                                        | zero =>
                                          intro i xo H locs hlt
                                          exact absurd hlt (Nat.not_lt_zero _)
                                        | succ N ih =>
                                          intro i xo H locs hlt hi hxo hG hS ls hl
                                          refine lv_iload hx hb d_Mo_answer_221 (lv_at hl 6 rfl) ?_
                                          refine lv_aload_n hx hb d_Mo_answer_223 rfl (lv_at hl 0 rfl) ?_
                                          refine zg_get (ci := 11) (C := "ZoneAnswersModel") (T := T_Mo) (N := 21) hx hb hts zi_Mo hown hK hG raq2 rfl 5 (by decide) (hts _ w_1286) (fun _ h9 => h9) rfl d_Mo_answer_224 ?_
                                          refine lv_icmp_ge (tgt := 279) hx hb d_Mo_answer_227 (by decide) (fun c227 => ?_) (fun c227 => ?_)
                                          · have b227 : rs.length ≤ i := (nI_leI (a := rs.length) (b := i) (by omega) (by omega)).mp c227
                                            obtain ⟨j7, hj7, ⟨e71, e72⟩, e73⟩ := hxo.resolve_left (fun z => z.2 j5 (by omega) ⟨e51, e52⟩)
                                            have hj7r : j7 < rs.length := by omega
                                            have hv7 := rV5 hj7r e71 e72 (hcn _)
                                            rw [hv5] at hv7
                                            have eB7 : rB (re rs j5) = rB (re rs j7) := congrArg (fun z : List (Int32 × List Int32) => (z.headD (0, [])).2) hv7
                                            have hnn7 := hstq2.dn hj7r (Or.inr e71)
                                            rw [e71, ← eB7, ← e73] at hnn7
                                            refine lv_goto (tgt := 292) hx hb d_Mo_answer_279 (by decide) ?_
                                            refine lv_goto (tgt := 8) hx hb d_Mo_answer_292 (by decide) ?_
                                            refine zW_more (cells2 := rPi c1 c2 (vpr (rVf rs) lo true (wad 1 W8 (vrw (rVf rs) lsx ([42] :: lsx.drop kst) 5)) (vov (rVf rs) lo lsx)) 0 - rPi c1 c2 Wz 0 + 3 * (k + 1) + (if (1 : Int32) = 0 then 3 else 0)) (slots2 := rPi c1 c2 (vpr (rVf rs) lo true (wad 1 W8 (vrw (rVf rs) lsx ([42] :: lsx.drop kst) 5)) (vov (rVf rs) lo lsx)) 0 - rPi c1 c2 Wz 0 + 260 * (k + 1) + (if (1 : Int32) = 0 then 260 else 0)) (by rw [if_neg (by decide)]; omega) (by rw [if_neg (by decide)]; omega) ?_
                                            exact ih8 G212 (k + 1) 1 xo (vtg 5 (rB (re rs j5))) (vpr (rVf rs) lo true (wad 1 W8 (vrw (rVf rs) lsx ([42] :: lsx.drop kst) 5)) (vov (rVf rs) lo lsx)) roq2 _ _ (by first | (rw [if_neg (by decide)]; omega) | (rw [if_pos rfl]; omega)) (by omega) (Or.inl ⟨rfl, by rw [hn9k]; exact hnx6⟩) (hnn7) (hlez) (hstq2) (hfq2) hG hS ls (lv_sub hl [0, 1, 2, 3, 4] rfl)
                                          · have b227 : ¬ rs.length ≤ i := fun q => c227 ((nI_leI (a := rs.length) (b := i) (by omega) (by omega)).mpr q)
                                            have hin : i < rs.length := by omega
                                            obtain ⟨hr1, ⟨nf, hr2, hr3, hr4, hr5⟩, df, hr6, hr7, hr8⟩ := hRsq2 _ (re_mem hin)
                                            have sm := hr4.2
                                            refine lv_aload_n hx hb d_Mo_answer_230 rfl (lv_at hl 0 rfl) ?_
                                            refine zg_get (ci := 11) (C := "ZoneAnswersModel") (T := T_Mo) (N := 21) hx hb hts zi_Mo hown hK hG raq2 rfl 4 (by decide) (hts _ w_1285) (fun _ h9 => h9) rfl d_Mo_answer_231 ?_
                                            refine lv_iload hx hb d_Mo_answer_234 (lv_at hl 6 rfl) ?_
                                            refine zg_aldq hx hb hK hG 4 rm4q2 rfl (vp_in_nI (by omega) (by omega)) d_Mo_answer_236 ?_
                                            refine zr_as (y := frq2 i) (by rw [zi_n _ (by omega)]) ?_
                                            refine zr_some (a := rA (re rs i)) (hfrq2 i hin) ?_
                                            refine zg_get (ci := 12) (C := "ZoneAnswersModel$Rec") (T := T_Re) (N := 5) hx hb hts zi_Re hown hK hG hr1 rfl 3 (by decide) (hts _ w_1268) (fun _ h9 => h9) rfl d_Mo_answer_237 ?_
                                            refine lv_iconst (v := 5) hx hb d_Mo_answer_240 (by decide) ?_
                                            refine lv_icmp_ne (tgt := 273) hx hb d_Mo_answer_241 (by decide) (fun c241 => ?_) (fun c241 => ?_)
                                            · refine lv_iinc (v := nI (i + 1)) (lv' := [(9, .int (nI (i + 1))), (0, .ref a), (2, .int t), (3, .ref xo), (4, .int (nI (k + 1))), (5, .int 1), (7, .ref qf)]) hx hb d_Mo_answer_273 hl (k := 6) rfl (nI_add i 1) (by decide) rfl (fun ls hl => ?_)
                                              refine lv_goto (tgt := 221) hx hb d_Mo_answer_276 (by decide) ?_
                                              exact ih (i + 1) xo _ _ (by omega) (by omega) (hxo.elim (fun z => Or.inl ⟨z.1, fun j hj => by rcases Nat.lt_or_ge j i with q1 | q1; exact z.2 j q1; rw [show j = i by omega]; first | exact fun w => c241 w.1 | exact fun w => hp256.1.z c259 ((zsm_n hr3 n2_qfq2 hr4 n3_qfq2).mpr w.2)⟩) (fun ⟨j, j1, j2⟩ => Or.inr ⟨j, by omega, j2⟩)) hG hS ls (lv_sub hl [1, 2, 3, 4, 5, 6, 0] rfl)
                                            · refine lv_aload_n hx hb d_Mo_answer_244 rfl (lv_at hl 0 rfl) ?_
                                              refine zg_get (ci := 11) (C := "ZoneAnswersModel") (T := T_Mo) (N := 21) hx hb hts zi_Mo hown hK hG raq2 rfl 4 (by decide) (hts _ w_1285) (fun _ h9 => h9) rfl d_Mo_answer_245 ?_
                                              refine lv_iload hx hb d_Mo_answer_248 (lv_at hl 6 rfl) ?_
                                              refine zg_aldq hx hb hK hG 4 rm4q2 rfl (vp_in_nI (by omega) (by omega)) d_Mo_answer_250 ?_
                                              refine zr_as (y := frq2 i) (by rw [zi_n _ (by omega)]) ?_
                                              refine zr_some (a := rA (re rs i)) (hfrq2 i hin) ?_
                                              refine zg_get (ci := 12) (C := "ZoneAnswersModel$Rec") (T := T_Re) (N := 5) hx hb hts zi_Re hown hK hG hr1 rfl 0 (by decide) (hts _ w_1265) (fun _ h9 => h9) rfl d_Mo_answer_251 ?_
                                              refine lv_aload hx hb d_Mo_answer_254 (lv_at hl 5 rfl) ?_
                                              refine zk_i (va_runS (As := [.ref (rN (re rs i)), .ref qf]) (rest := []) ⟨hx, hb, hml, hown, hts⟩ (t_Ns_same l E G212 (rN (re rs i)) (np_len (rM (re rs i))) nf hr2 qf (np_len ([42] :: lsx.drop kst)) f_qfq2 n1_qfq2 (by omega) (by omega)) (zcS 2 hts w_1405 w_1406 w_33 w_1407 (by decide +kernel) ⟨Nat.le_of_ble_eq_true rfl, Nat.le_of_ble_eq_true rfl⟩) (zc_pre hbase hK hN hQ hG hS) rfl rfl hl.1 rfl (lv_room (Nat.le_of_ble_eq_true rfl)) d_Mo_answer_256 ⟨(by dsimp only [List.length_nil]; omega), (by dsimp only [List.length_nil]; omega)⟩) hS (fun r256 G256 H locs hp256 hG hS => ?_)
                                              have hG : zP E G212 H := hp256.2 ▸ hG
                                              refine lv_if_eq (tgt := 273) hx hb d_Mo_answer_259 (by decide) (fun c259 => ?_) (fun c259 => ?_)
                                              · refine lv_iinc (v := nI (i + 1)) (lv' := [(9, .int (nI (i + 1))), (0, .ref a), (2, .int t), (3, .ref xo), (4, .int (nI (k + 1))), (5, .int 1), (7, .ref qf)]) hx hb d_Mo_answer_273 hl (k := 6) rfl (nI_add i 1) (by decide) rfl (fun ls hl => ?_)
                                                refine lv_goto (tgt := 221) hx hb d_Mo_answer_276 (by decide) ?_
                                                exact ih (i + 1) xo _ _ (by omega) (by omega) (hxo.elim (fun z => Or.inl ⟨z.1, fun j hj => by rcases Nat.lt_or_ge j i with q1 | q1; exact z.2 j q1; rw [show j = i by omega]; first | exact fun w => c241 w.1 | exact fun w => hp256.1.z c259 ((zsm_n hr3 n2_qfq2 hr4 n3_qfq2).mpr w.2)⟩) (fun ⟨j, j1, j2⟩ => Or.inr ⟨j, by omega, j2⟩)) hG hS ls (lv_sub hl [1, 2, 3, 4, 5, 6, 0] rfl)
                                              · refine lv_aload_n hx hb d_Mo_answer_262 rfl (lv_at hl 0 rfl) ?_
                                                refine zg_get (ci := 11) (C := "ZoneAnswersModel") (T := T_Mo) (N := 21) hx hb hts zi_Mo hown hK hG raq2 rfl 4 (by decide) (hts _ w_1285) (fun _ h9 => h9) rfl d_Mo_answer_263 ?_
                                                refine lv_iload hx hb d_Mo_answer_266 (lv_at hl 6 rfl) ?_
                                                refine zg_aldq hx hb hK hG 4 rm4q2 rfl (vp_in_nI (by omega) (by omega)) d_Mo_answer_268 ?_
                                                refine zr_as (y := frq2 i) (by rw [zi_n _ (by omega)]) ?_
                                                refine zr_some (a := rA (re rs i)) (hfrq2 i hin) ?_
                                                refine zg_get (ci := 12) (C := "ZoneAnswersModel$Rec") (T := T_Re) (N := 5) hx hb hts zi_Re hown hK hG hr1 rfl 1 (by decide) (hts _ w_1266) (fun _ h9 => h9) rfl d_Mo_answer_269 ?_
                                                refine lv_astore_n (lv' := [(3, .ref (rD (re rs i))), (0, .ref a), (2, .int t), (4, .int (nI (k + 1))), (5, .int 1), (7, .ref qf), (9, .int (nI i))]) hx hb d_Mo_answer_272 rfl hl (by decide) rfl (fun ls hl => ?_)
                                                refine lv_iinc (v := nI (i + 1)) (lv' := [(9, .int (nI (i + 1))), (3, .ref (rD (re rs i))), (0, .ref a), (2, .int t), (4, .int (nI (k + 1))), (5, .int 1), (7, .ref qf)]) hx hb d_Mo_answer_273 hl (k := 6) rfl (nI_add i 1) (by decide) rfl (fun ls hl => ?_)
                                                refine lv_goto (tgt := 221) hx hb d_Mo_answer_276 (by decide) ?_
                                                exact ih (i + 1) (rD (re rs i)) _ _ (by omega) (by omega) (Or.inr ⟨i, by omega, ⟨c241, (zsm_n hr3 n2_qfq2 hr4 n3_qfq2).mp (hp256.1.nz c259)⟩, rfl⟩) hG hS ls (lv_sub hl [2, 3, 1, 4, 5, 6, 0] rfl)
                                      exact loop221 _ 0 bx _ _ (Nat.lt_succ_self _) (Nat.zero_le _) (Or.inl ⟨rfl, fun j hj => absurd hj (Nat.not_lt_zero j)⟩) hG hS ls (lv_sub hl [6, 7, 8, 1, 2, 4, 0] rfl)
                      · refine lv_aload_n hx hb d_Mo_answer_99 rfl (lv_at hl 2 rfl) ?_
                        refine lv_iconst (v := 3) hx hb d_Mo_answer_100 (by decide) ?_
                        refine zg_put (ci := 11) (v := .int 3) (ty := .int) (C := "ZoneAnswersModel") (T := T_Mo) (N := 21) hx hb hts zi_Mo t_Mo t_Mo_ok n_Mo hown hK hG hS raqs rfl 14 (by decide) (hts _ w_1295) (fun _ h9 => h9) rfl (by decide +kernel) rfl rfl (Nat.le_of_ble_eq_true rfl) d_Mo_answer_101 (fun H locs hG hS => ?_)
                        obtain ⟨G1, eG1⟩ : ∃ z : zg_G, z = zg_up G85 a (.inr (11, [.int th, .ref (hqs 1), .int (nI tp.length), .ref (hqs 3), .ref (hqs 4), .int (nI rs.length), .ref (hqs 6), .ref (hqs 7), .ref (hqs 8), .ref (hqs 9), .ref (hqs 10), .ref (hqs 11), .ref (hqs 12), .int (nI (wln W8)), .int 3, .ref (hqs 15), .int (nI (rPw W8 + ([] : List Int32).length)), .int se, .ref (hqs 18), v19, v20])) := ⟨_, rfl⟩
                        have hG : zP E G1 H := by rw [eG1]; exact hG
                        have k2 : G1 a = some (.inr (11, [.int th, .ref (hqs 1), .int (nI tp.length), .ref (hqs 3), .ref (hqs 4), .int (nI rs.length), .ref (hqs 6), .ref (hqs 7), .ref (hqs 8), .ref (hqs 9), .ref (hqs 10), .ref (hqs 11), .ref (hqs 12), .int (nI (wln W8)), .int 3, .ref (hqs 15), .int (nI (rPw W8 + ([] : List Int32).length)), .int se, .ref (hqs 18), v19, v20])) := by rw [eG1]; exact zg_up_self _ _ _
                        obtain ⟨hstqc3, hsqc3⟩ := rSt.set hstqs th 3 se v19 v20 raqs
                        rw [← eG1] at hstqc3 hsqc3
                        have hfqc3 := hfqs.tr hsqc3
                        have htot : vfo (rVf rs) lo (zscu se) t 9 Wz ls1 = (3, vdn (rVf rs) lo (zscu se) W8 lsx ([42] :: lsx.drop kst)) := by rw [← hon1, vfo_deny hlox hvnc hnth (by rw [hfd]; exact hp93.1.z c96), hfd]
                        have hbd9 : rBd c2 (vdn (rVf rs) lo (zscu se) W8 lsx ([42] :: lsx.drop kst)) := by have q := hB; rw [htot] at q; exact q
                        have hPt : rPi c1 c2 ((vfo (rVf rs) lo (zscu se) t 9 Wz ls1).2) 0 = rPi c1 c2 (vdn (rVf rs) lo (zscu se) W8 lsx ([42] :: lsx.drop kst)) 0 := by rw [htot]
                        have hPt2 : rPi c1 c2 (vdn (rVf rs) lo (zscu se) W8 lsx ([42] :: lsx.drop kst)) 0 = rPi c1 c2 (vpr (rVf rs) lo (zscu se) (vpr (rVf rs) lo (zscu se) (vst (rVf rs) lo W8) (vov (rVf rs) lo lsx)) (vov (rVf rs) lo ([42] :: lsx.drop kst))) 0 := rfl
                        have hles : zLe (W8) (vst (rVf rs) lo W8) := vst_le _ _ _
                        have hpis := rPi_le (n := 0) (m := 0) hc1 hc2 hles (rPw_le hles)
                        have hwls := wln_le hles
                        have hleu : zLe (vst (rVf rs) lo W8) (vpr (rVf rs) lo (zscu se) (vst (rVf rs) lo W8) (vov (rVf rs) lo lsx)) := vpr_le _ _ _ _ _
                        have hpiu := rPi_le (n := 0) (m := 0) hc1 hc2 hleu (rPw_le hleu)
                        have hwlu := wln_le hleu
                        have hleq : zLe (vpr (rVf rs) lo (zscu se) (vst (rVf rs) lo W8) (vov (rVf rs) lo lsx)) (vdn (rVf rs) lo (zscu se) W8 lsx ([42] :: lsx.drop kst)) := vpr_le _ _ _ _ _
                        have hpiq := rPi_le (n := 0) (m := 0) hc1 hc2 hleq (rPw_le hleq)
                        have hwlq := wln_le hleq
                        obtain ⟨hqc3, eh0qc3, eh1qc3, eh2qc3, hcqc3⟩ := id hstqc3
                        obtain ⟨raqc3, rbqc3, ⟨fmqc3, rt1qc3, rt2qc3, rt3qc3, rt4qc3⟩, rtlqc3, ⟨foqc3, rn1qc3, rn2qc3, rn3qc3, rn4qc3, rn5qc3⟩, rrqc3, rgqc3, rasqc3⟩ := id hcqc3
                        rw [eh0qc3] at raqc3
                        obtain ⟨⟨frqc3, rm4qc3, hfrqc3⟩, hn2qc3, hRsqc3⟩ := id rrqc3.1
                        have hn_bxqc3 : rNm E G1 (zrn ro8 qf (0, 0)) bx lsx := hn_bxqs.fr hsqc3 zKr_0
                        obtain ⟨f_bxqc3, n1_bxqc3, n2_bxqc3, n3_bxqc3, n4_bxqc3, n5_bxqc3⟩ := id hn_bxqc3
                        have sm_bxqc3 := n3_bxqc3.2
                        have hn_qfqc3 : rNm E G1 (zrn ro8 qf (0, 0)) qf ([42] :: lsx.drop kst) := hnqqs.fr hsqc3 zKr_0
                        obtain ⟨f_qfqc3, n1_qfqc3, n2_qfqc3, n3_qfqc3, n4_qfqc3, n5_qfqc3⟩ := id hn_qfqc3
                        have sm_qfqc3 := n3_qfqc3.2
                        refine lv_aload_n hx hb d_Mo_answer_104 rfl (lv_at hl 2 rfl) ?_
                        have hGo105 := hG
                        refine zk_v (va_runV (As := []) (rest := []) ⟨hx, hb, hml, hown, hts⟩ (t_Mo_nothing l E G1 a c1 c2 (zrn ro8 qf (0, 0)) lo rs W8 wp th 3 se tp v19 v20 hstqc3 (by have := hb8.1; omega)) (zcV 0 hts w_1552 w_1554 wp_54 w_30 w_1555 (by decide +kernel) ⟨Nat.le_of_ble_eq_true rfl, Nat.le_of_ble_eq_true rfl⟩) (zc_preV hbase hK hN hQ hG hS raqc3 rfl) rfl rfl hl.1 rfl (lv_room (Nat.le_of_ble_eq_true rfl)) d_Mo_answer_105 ⟨(by dsimp only [List.length_nil]; omega), (by dsimp only [List.length_nil]; omega)⟩) hS (fun G105 H locs hp105 hG hS => ?_)
                        obtain ⟨roqn, hstqn, hsqn⟩ := hp105
                        have hfqn : zfr ro zKr G roqn G105 := hfqc3.tr hsqn
                        refine zW_more (cells2 := rPi c1 c2 (vst (rVf rs) lo W8) 0 - rPi c1 c2 Wz 0 + 3 * k + 3) (slots2 := rPi c1 c2 (vst (rVf rs) lo W8) 0 - rPi c1 c2 Wz 0 + 260 * k + 260) (by dsimp only [List.length_nil]; omega) (by dsimp only [List.length_nil]; omega) ?_
                        obtain ⟨hqn, eh0qn, eh1qn, eh2qn, hcqn⟩ := id hstqn
                        obtain ⟨raqn, rbqn, ⟨fmqn, rt1qn, rt2qn, rt3qn, rt4qn⟩, rtlqn, ⟨foqn, rn1qn, rn2qn, rn3qn, rn4qn, rn5qn⟩, rrqn, rgqn, rasqn⟩ := id hcqn
                        rw [eh0qn] at raqn
                        obtain ⟨⟨frqn, rm4qn, hfrqn⟩, hn2qn, hRsqn⟩ := id rrqn.1
                        have hn_bxqn : rNm E G105 roqn bx lsx := hn_bxqc3.fr hsqn zKr_0
                        obtain ⟨f_bxqn, n1_bxqn, n2_bxqn, n3_bxqn, n4_bxqn, n5_bxqn⟩ := id hn_bxqn
                        have sm_bxqn := n3_bxqn.2
                        have hn_qfqn : rNm E G105 roqn qf ([42] :: lsx.drop kst) := hn_qfqc3.fr hsqn zKr_0
                        obtain ⟨f_qfqn, n1_qfqn, n2_qfqn, n3_qfqn, n4_qfqn, n5_qfqn⟩ := id hn_qfqn
                        have sm_qfqn := n3_qfqn.2
                        refine lv_aload_n hx hb d_Mo_answer_108 rfl (lv_at hl 2 rfl) ?_
                        refine zg_get (ci := 11) (C := "ZoneAnswersModel") (T := T_Mo) (N := 21) hx hb hts zi_Mo hown hK hG raqn rfl 17 (by decide) (hts _ w_1298) (fun _ h9 => h9) rfl d_Mo_answer_109 ?_
                        refine lv_if_eq (tgt := 134) hx hb d_Mo_answer_112 (by decide) (fun c112 => ?_) (fun c112 => ?_)
                        · have hsc := zscu_0 c112
                          exact hret _ _ _ _ _ _ _ (⟨roqn, by rw [htot]; show rSt E G105 roqn a c1 c2 lo rs (vdn (rVf rs) lo (zscu se) W8 lsx ([42] :: lsx.drop kst)) ([]) True (wln (vdn (rVf rs) lo (zscu se) W8 lsx ([42] :: lsx.drop kst)), 0, [], wp) th tp 3 se v19 v20; unfold vdn; rw [hsc, vpr_f, vpr_f]; exact hstqn, hfqn⟩) hG hS (by dsimp only [List.length_nil]; omega) (by dsimp only [List.length_nil]; omega) d_Mo_answer_134
                        · have hsc := zscu_1 c112
                          have hbd1 : rBd c2 (vpr (rVf rs) lo true (vst (rVf rs) lo W8) (vov (rVf rs) lo lsx)) := by rw [← hsc]; exact hbd9.le hc2 hleq
                          have hbd2 : rBd c2 (vpr (rVf rs) lo true (vpr (rVf rs) lo true (vst (rVf rs) lo W8) (vov (rVf rs) lo lsx)) (vov (rVf rs) lo ([42] :: lsx.drop kst))) := by rw [← hsc]; exact hbd9
                          have hPt3 : rPi c1 c2 ((vfo (rVf rs) lo (zscu se) t 9 Wz ls1).2) 0 = rPi c1 c2 (vpr (rVf rs) lo true (vpr (rVf rs) lo true (vst (rVf rs) lo W8) (vov (rVf rs) lo lsx)) (vov (rVf rs) lo ([42] :: lsx.drop kst))) 0 := by rw [hPt, hPt2, hsc]
                          have hpiu2 : rPi c1 c2 (vst (rVf rs) lo W8) 0 ≤ rPi c1 c2 (vpr (rVf rs) lo true (vst (rVf rs) lo W8) (vov (rVf rs) lo lsx)) 0 := by have q := vpr_le (rVf rs) lo true (vst (rVf rs) lo W8) (vov (rVf rs) lo lsx); exact rPi_le hc1 hc2 q (rPw_le q)
                          have hpiq2 : rPi c1 c2 (vpr (rVf rs) lo true (vst (rVf rs) lo W8) (vov (rVf rs) lo lsx)) 0 ≤ rPi c1 c2 (vpr (rVf rs) lo true (vpr (rVf rs) lo true (vst (rVf rs) lo W8) (vov (rVf rs) lo lsx)) (vov (rVf rs) lo ([42] :: lsx.drop kst))) 0 := by have q := vpr_le (rVf rs) lo true (vpr (rVf rs) lo true (vst (rVf rs) lo W8) (vov (rVf rs) lo lsx)) (vov (rVf rs) lo ([42] :: lsx.drop kst)); exact rPi_le hc1 hc2 q (rPw_le q)
                          refine lv_aload_n hx hb d_Mo_answer_115 rfl (lv_at hl 2 rfl) ?_
                          refine lv_aload_n hx hb d_Mo_answer_116 rfl (lv_at hl 2 rfl) ?_
                          refine lv_aload_n hx hb d_Mo_answer_117 rfl (lv_at hl 4 rfl) ?_
                          have hGo118 := hG
                          refine zk_q (va_runV (As := [.ref bx]) (rest := [.ref a]) ⟨hx, hb, hml, hown, hts⟩ (t_Mo_before_s l hstqn bx (lsx) hn_bxqn (hzlx)) (zcV 1 hts w_1556 w_1558 wp_55 w_30 w_1559 (by decide +kernel) ⟨Nat.le_of_ble_eq_true rfl, Nat.le_of_ble_eq_true rfl⟩) (zc_preV hbase hK hN hQ hG hS raqn rfl) rfl rfl hl.1 rfl (lv_room (Nat.le_of_ble_eq_true rfl)) d_Mo_answer_118 ⟨(by dsimp only [List.length_nil]; omega), (by dsimp only [List.length_nil]; omega)⟩) hS (fun r118 G118 H locs hp118 hG hS => ?_)
                          have hG : zP E G105 H := hp118.2 ▸ hG
                          obtain ⟨j118, hj118, er118, hov118, hv118⟩ := hp118.1
                          refine zr_some (a := rN (re rs j118)) er118 ?_
                          have hnb118 := (hstqn.nm hj118).1
                          have hGo121 := hG
                          refine zk_v (va_runV (As := [.ref (rN (re rs j118))]) (rest := []) ⟨hx, hb, hml, hown, hts⟩ (t_Mo_link l E G105 a c1 c2 roqn lo rs (vst (rVf rs) lo W8) wp th 3 se tp v19 v20 hstqn (rN (re rs j118)) (rM (re rs j118)) hnb118 hov118.1.2 (by rw [hv118] at hbd1; have := (hbd1.le hc2 (vpr_le _ _ _ _ _)).1; omega) (by rw [hv118] at hbd1; exact hbd1.2)) (zcV 1 hts w_1493 w_1495 wp_43 w_30 w_1496 (by decide +kernel) ⟨Nat.le_of_ble_eq_true rfl, Nat.le_of_ble_eq_true rfl⟩) (zc_preV hbase hK hN hQ hG hS raqn rfl) rfl rfl hl.1 rfl (lv_room (Nat.le_of_ble_eq_true rfl)) d_Mo_answer_121 ⟨(by dsimp only [List.length_nil]; rw [← hv118]; omega), (by dsimp only [List.length_nil]; rw [← hv118]; omega)⟩) hS (fun G121 H locs hp121 hG hS => ?_)
                          obtain ⟨roqk, hstqk, hsqk⟩ := hp121
                          have hstqk : rSt E G121 roqk a c1 c2 lo rs (vpr (rVf rs) lo true (vst (rVf rs) lo W8) (vov (rVf rs) lo (lsx))) ([]) True (wln (vpr (rVf rs) lo true (vst (rVf rs) lo W8) (vov (rVf rs) lo (lsx))), 0, [], wp) th tp 3 se v19 v20 := by rw [hv118]; exact hstqk
                          have hfqk : zfr ro zKr G roqk G121 := hfqn.tr hsqk
                          refine zW_more (cells2 := rPi c1 c2 (vpr (rVf rs) lo true (vst (rVf rs) lo W8) (vov (rVf rs) lo (lsx))) 0 - rPi c1 c2 Wz 0 + 3 * k + 3) (slots2 := rPi c1 c2 (vpr (rVf rs) lo true (vst (rVf rs) lo W8) (vov (rVf rs) lo (lsx))) 0 - rPi c1 c2 Wz 0 + 260 * k + 260) (by dsimp only [List.length_nil]; rw [← hv118]; omega) (by dsimp only [List.length_nil]; rw [← hv118]; omega) ?_
                          obtain ⟨hqk, eh0qk, eh1qk, eh2qk, hcqk⟩ := id hstqk
                          obtain ⟨raqk, rbqk, ⟨fmqk, rt1qk, rt2qk, rt3qk, rt4qk⟩, rtlqk, ⟨foqk, rn1qk, rn2qk, rn3qk, rn4qk, rn5qk⟩, rrqk, rgqk, rasqk⟩ := id hcqk
                          rw [eh0qk] at raqk
                          obtain ⟨⟨frqk, rm4qk, hfrqk⟩, hn2qk, hRsqk⟩ := id rrqk.1
                          have hn_bxqk : rNm E G121 roqk bx lsx := hn_bxqn.fr hsqk zKr_0
                          obtain ⟨f_bxqk, n1_bxqk, n2_bxqk, n3_bxqk, n4_bxqk, n5_bxqk⟩ := id hn_bxqk
                          have sm_bxqk := n3_bxqk.2
                          have hn_qfqk : rNm E G121 roqk qf ([42] :: lsx.drop kst) := hn_qfqn.fr hsqk zKr_0
                          obtain ⟨f_qfqk, n1_qfqk, n2_qfqk, n3_qfqk, n4_qfqk, n5_qfqk⟩ := id hn_qfqk
                          have sm_qfqk := n3_qfqk.2
                          refine lv_aload_n hx hb d_Mo_answer_124 rfl (lv_at hl 2 rfl) ?_
                          refine lv_aload_n hx hb d_Mo_answer_125 rfl (lv_at hl 2 rfl) ?_
                          refine lv_aload hx hb d_Mo_answer_126 (lv_at hl 0 rfl) ?_
                          have hGo128 := hG
                          refine zk_q (va_runV (As := [.ref qf]) (rest := [.ref a]) ⟨hx, hb, hml, hown, hts⟩ (t_Mo_before_s l hstqk qf ([42] :: lsx.drop kst) hn_qfqk (hzlf)) (zcV 1 hts w_1556 w_1558 wp_55 w_30 w_1559 (by decide +kernel) ⟨Nat.le_of_ble_eq_true rfl, Nat.le_of_ble_eq_true rfl⟩) (zc_preV hbase hK hN hQ hG hS raqk rfl) rfl rfl hl.1 rfl (lv_room (Nat.le_of_ble_eq_true rfl)) d_Mo_answer_128 ⟨(by dsimp only [List.length_nil]; omega), (by dsimp only [List.length_nil]; omega)⟩) hS (fun r128 G128 H locs hp128 hG hS => ?_)
                          have hG : zP E G121 H := hp128.2 ▸ hG
                          obtain ⟨j128, hj128, er128, hov128, hv128⟩ := hp128.1
                          refine zr_some (a := rN (re rs j128)) er128 ?_
                          have hnb128 := (hstqk.nm hj128).1
                          have hGo131 := hG
                          refine zk_v (va_runV (As := [.ref (rN (re rs j128))]) (rest := []) ⟨hx, hb, hml, hown, hts⟩ (t_Mo_link l E G121 a c1 c2 roqk lo rs (vpr (rVf rs) lo true (vst (rVf rs) lo W8) (vov (rVf rs) lo (lsx))) wp th 3 se tp v19 v20 hstqk (rN (re rs j128)) (rM (re rs j128)) hnb128 hov128.1.2 (by rw [hv128] at hbd2; have := (hbd2.le hc2 (vpr_le _ _ _ _ _)).1; omega) (by rw [hv128] at hbd2; exact hbd2.2)) (zcV 1 hts w_1493 w_1495 wp_43 w_30 w_1496 (by decide +kernel) ⟨Nat.le_of_ble_eq_true rfl, Nat.le_of_ble_eq_true rfl⟩) (zc_preV hbase hK hN hQ hG hS raqk rfl) rfl rfl hl.1 rfl (lv_room (Nat.le_of_ble_eq_true rfl)) d_Mo_answer_131 ⟨(by dsimp only [List.length_nil]; rw [← hv128]; omega), (by dsimp only [List.length_nil]; rw [← hv128]; omega)⟩) hS (fun G131 H locs hp131 hG hS => ?_)
                          obtain ⟨roqm, hstqm, hsqm⟩ := hp131
                          have hstqm : rSt E G131 roqm a c1 c2 lo rs (vpr (rVf rs) lo true (vpr (rVf rs) lo true (vst (rVf rs) lo W8) (vov (rVf rs) lo (lsx))) (vov (rVf rs) lo ([42] :: lsx.drop kst))) ([]) True (wln (vpr (rVf rs) lo true (vpr (rVf rs) lo true (vst (rVf rs) lo W8) (vov (rVf rs) lo (lsx))) (vov (rVf rs) lo ([42] :: lsx.drop kst))), 0, [], wp) th tp 3 se v19 v20 := by rw [hv128]; exact hstqm
                          have hfqm : zfr ro zKr G roqm G131 := hfqk.tr hsqm
                          refine zW_more (cells2 := rPi c1 c2 (vpr (rVf rs) lo true (vpr (rVf rs) lo true (vst (rVf rs) lo W8) (vov (rVf rs) lo (lsx))) (vov (rVf rs) lo ([42] :: lsx.drop kst))) 0 - rPi c1 c2 Wz 0 + 3 * k + 3) (slots2 := rPi c1 c2 (vpr (rVf rs) lo true (vpr (rVf rs) lo true (vst (rVf rs) lo W8) (vov (rVf rs) lo (lsx))) (vov (rVf rs) lo ([42] :: lsx.drop kst))) 0 - rPi c1 c2 Wz 0 + 260 * k + 260) (by dsimp only [List.length_nil]; rw [← hv128]; omega) (by dsimp only [List.length_nil]; rw [← hv128]; omega) ?_
                          obtain ⟨hqm, eh0qm, eh1qm, eh2qm, hcqm⟩ := id hstqm
                          obtain ⟨raqm, rbqm, ⟨fmqm, rt1qm, rt2qm, rt3qm, rt4qm⟩, rtlqm, ⟨foqm, rn1qm, rn2qm, rn3qm, rn4qm, rn5qm⟩, rrqm, rgqm, rasqm⟩ := id hcqm
                          rw [eh0qm] at raqm
                          obtain ⟨⟨frqm, rm4qm, hfrqm⟩, hn2qm, hRsqm⟩ := id rrqm.1
                          have hn_bxqm : rNm E G131 roqm bx lsx := hn_bxqk.fr hsqm zKr_0
                          obtain ⟨f_bxqm, n1_bxqm, n2_bxqm, n3_bxqm, n4_bxqm, n5_bxqm⟩ := id hn_bxqm
                          have sm_bxqm := n3_bxqm.2
                          have hn_qfqm : rNm E G131 roqm qf ([42] :: lsx.drop kst) := hn_qfqk.fr hsqm zKr_0
                          obtain ⟨f_qfqm, n1_qfqm, n2_qfqm, n3_qfqm, n4_qfqm, n5_qfqm⟩ := id hn_qfqm
                          have sm_qfqm := n3_qfqm.2
                          exact hret _ _ _ _ _ _ _ (⟨roqm, by rw [htot]; show rSt E G131 roqm a c1 c2 lo rs (vdn (rVf rs) lo (zscu se) W8 lsx ([42] :: lsx.drop kst)) ([]) True (wln (vdn (rVf rs) lo (zscu se) W8 lsx ([42] :: lsx.drop kst)), 0, [], wp) th tp 3 se v19 v20; unfold vdn; rw [hsc]; exact hstqm, hfqm⟩) hG hS (by dsimp only [List.length_nil]; omega) (by dsimp only [List.length_nil]; omega) d_Mo_answer_134
                  · have hnd : ¬ (t = 43 ∧ lsx.drop kc = lsx) := fun z => c51 z.1
                    have htot : vfo (rVf rs) lo (zscu se) t 9 Wz ls1 = (0, vrf (rVf rs) lo (zscu se) W8 (lsx.drop kc)) := by rw [← hon1]; exact vfo_ref hlox hvy hnd
                    have hbd9 : rBd c2 (vrf (rVf rs) lo (zscu se) W8 (lsx.drop kc)) := by have q := hB; rw [htot] at q; exact q
                    have hPt : rPi c1 c2 ((vfo (rVf rs) lo (zscu se) t 9 Wz ls1).2) 0 = rPi c1 c2 (vrf (rVf rs) lo (zscu se) W8 (lsx.drop kc)) 0 := by rw [htot]
                    have hlev : zLe (W8) (vrf (rVf rs) lo (zscu se) W8 (lsx.drop kc)) := vrf_le _ _ _ _ _
                    have hpiv := rPi_le (n := 0) (m := 0) hc1 hc2 hlev (rPw_le hlev)
                    have hwlv := wln_le hlev
                    refine lv_aload_n hx hb d_Mo_answer_54 rfl (lv_at hl 1 rfl) ?_
                    refine lv_aload_n hx hb d_Mo_answer_55 rfl (lv_at hl 3 rfl) ?_
                    refine lv_iload hx hb d_Mo_answer_56 (lv_at hl 0 rfl) ?_
                    refine lv_aload_n hx hb d_Mo_answer_58 rfl (lv_at hl 3 rfl) ?_
                    refine zg_alen hx hb hK hG 0 n1_bx8 rfl (v := nI (np_len lsx)) rfl d_Mo_answer_59 ?_
                    have hGo60 := hG
                    refine zk_q (va_runS (As := [.ref bx, .int (nI (np_pos lsx kc)), .int (nI (np_len lsx))]) (rest := [.ref a]) ⟨hx, hb, hml, hown, hts⟩ (t_Ns_cut l E Gv bx (np_len lsx) f_bx8 n1_bx8 n4_bx8 (by omega) (np_pos lsx kc) (np_len lsx) (by omega) (Nat.le_refl _)) (zcS 3 hts w_1391 w_1373 w_33 w_1374 (by decide +kernel) ⟨Nat.le_of_ble_eq_true rfl, Nat.le_of_ble_eq_true rfl⟩) (zc_pre hbase hK hN hQ hG hS) rfl rfl hl.1 rfl (lv_room (Nat.le_of_ble_eq_true rfl)) d_Mo_answer_60 ⟨(by dsimp only [List.length_nil]; omega), (by dsimp only [List.length_nil]; omega)⟩) hS (fun r60 G60 H locs hp60 hG hS => ?_)
                    obtain ⟨qc, f260, er60, hq60, hx60, hq260, hft60, hcp60⟩ := hp60
                    have hld := np_len_drop lsx kc hkc
                    rw [show np_len lsx - np_pos lsx kc = np_len (lsx.drop kc) by omega] at hq260
                    have hnfqd : np_f (lsx.drop kc) f260 := fun j hj => by rw [hcp60 j (by omega)]; exact (n2_bx8.drop hkc) j hj
                    have hngqd := n3_bx8.drop hkc
                    obtain ⟨hnqqd, hzqd⟩ := rNm.new (ro := ro8) hq60 hx60 hq260 hnfqd hngqd hft60
                    have hstqd := hst8.z hzqd
                    have hzqd := hzqd.w (K2 := zKr) (fun _ z => z.elim)
                    have hfqd := hf8.tr hzqd
                    refine zr_some (a := qc) er60 ?_
                    refine zW_more (cells2 := rPi c1 c2 W8 0 - rPi c1 c2 Wz 0 + 3 * k + 3) (slots2 := rPi c1 c2 W8 0 - rPi c1 c2 Wz 0 + 260 * k + 260) (by dsimp only [List.length_nil]; omega) (by dsimp only [List.length_nil]; omega) ?_
                    obtain ⟨hqd, eh0qd, eh1qd, eh2qd, hcqd⟩ := id hstqd
                    obtain ⟨raqd, rbqd, ⟨fmqd, rt1qd, rt2qd, rt3qd, rt4qd⟩, rtlqd, ⟨foqd, rn1qd, rn2qd, rn3qd, rn4qd, rn5qd⟩, rrqd, rgqd, rasqd⟩ := id hcqd
                    rw [eh0qd] at raqd
                    obtain ⟨⟨frqd, rm4qd, hfrqd⟩, hn2qd, hRsqd⟩ := id rrqd.1
                    have hn_bxqd : rNm E G60 (zrn ro8 qc (0, 0)) bx lsx := hn_bx8.fr hzqd zKr_0
                    obtain ⟨f_bxqd, n1_bxqd, n2_bxqd, n3_bxqd, n4_bxqd, n5_bxqd⟩ := id hn_bxqd
                    have sm_bxqd := n3_bxqd.2
                    obtain ⟨f_qcqd, n1_qcqd, n2_qcqd, n3_qcqd, n4_qcqd, n5_qcqd⟩ := id hnqqd
                    have sm_qcqd := n3_qcqd.2
                    have hGo63 := hG
                    refine zk_v (va_runV (As := [.ref qc]) (rest := []) ⟨hx, hb, hml, hown, hts⟩ (t_Mo_delegated l E G60 a c1 c2 (zrn ro8 qc (0, 0)) lo rs W8 wp th co se tp v19 v20 hstqd qc (lsx.drop kc) hnqqd (rco_self hvy) hbd9) (zcV 1 hts w_1471 w_1473 wp_39 w_30 w_1474 (by decide +kernel) ⟨Nat.le_of_ble_eq_true rfl, Nat.le_of_ble_eq_true rfl⟩) (zc_preV hbase hK hN hQ hG hS raqd rfl) rfl rfl hl.1 rfl (lv_room (Nat.le_of_ble_eq_true rfl)) d_Mo_answer_63 ⟨(by dsimp only [List.length_nil]; omega), (by dsimp only [List.length_nil]; omega)⟩) hS (fun G63 H locs hp63 hG hS => ?_)
                    obtain ⟨roqv, hstqv, hsqv⟩ := hp63
                    have hfqv : zfr ro zKr G roqv G63 := hfqd.tr hsqv
                    refine zW_more (cells2 := rPi c1 c2 (vrf (rVf rs) lo (zscu se) W8 (lsx.drop kc)) 0 - rPi c1 c2 Wz 0 + 3 * k + 3) (slots2 := rPi c1 c2 (vrf (rVf rs) lo (zscu se) W8 (lsx.drop kc)) 0 - rPi c1 c2 Wz 0 + 260 * k + 260) (by dsimp only [List.length_nil]; omega) (by dsimp only [List.length_nil]; omega) ?_
                    obtain ⟨hqv, eh0qv, eh1qv, eh2qv, hcqv⟩ := id hstqv
                    obtain ⟨raqv, rbqv, ⟨fmqv, rt1qv, rt2qv, rt3qv, rt4qv⟩, rtlqv, ⟨foqv, rn1qv, rn2qv, rn3qv, rn4qv, rn5qv⟩, rrqv, rgqv, rasqv⟩ := id hcqv
                    rw [eh0qv] at raqv
                    obtain ⟨⟨frqv, rm4qv, hfrqv⟩, hn2qv, hRsqv⟩ := id rrqv.1
                    have hn_bxqv : rNm E G63 roqv bx lsx := hn_bxqd.fr hsqv zKr_0
                    obtain ⟨f_bxqv, n1_bxqv, n2_bxqv, n3_bxqv, n4_bxqv, n5_bxqv⟩ := id hn_bxqv
                    have sm_bxqv := n3_bxqv.2
                    have hn_qcqv : rNm E G63 roqv qc (lsx.drop kc) := hnqqd.fr hsqv zKr_0
                    obtain ⟨f_qcqv, n1_qcqv, n2_qcqv, n3_qcqv, n4_qcqv, n5_qcqv⟩ := id hn_qcqv
                    have sm_qcqv := n3_qcqv.2
                    exact hret _ _ _ _ _ _ _ (⟨roqv, by rw [htot]; show rSt E G63 roqv a c1 c2 lo rs (vrf (rVf rs) lo (zscu se) W8 (lsx.drop kc)) ([]) True (wln (vrf (rVf rs) lo (zscu se) W8 (lsx.drop kc)), 0, [], wp) th tp 0 se v19 v20; rw [hco0] at hstqv; exact hstqv, hfqv⟩) hG hS (by dsimp only [List.length_nil]; omega) (by dsimp only [List.length_nil]; omega) d_Mo_answer_66
            · have hG : zP E Gv H := eg33 ▸ hG
              refine zi_as (y := (-1)) er33 ?_
              have hvnc : vnc (rVf rs) lo t lsx := fun c hc => by rw [hvn] at hc; cases hc
              refine lv_istore (lv' := [(6, .int (-1)), (0, .ref a), (2, .int t), (3, .ref bx), (4, .int (nI k)), (5, .int on9)]) hx hb d_Mo_answer_36 hl (by decide) rfl (fun ls hl => ?_)
              refine lv_iload hx hb d_Mo_answer_38 (lv_at hl 0 rfl) ?_
              refine lv_if_lt (tgt := 67) hx hb d_Mo_answer_40 (by decide) (fun c40 => ?_) (fun c40 => ?_)
              · refine lv_aload_n hx hb d_Mo_answer_67 rfl (lv_at hl 3 rfl) ?_
                refine lv_astore (lv' := [(7, .ref bx), (6, .int (-1)), (0, .ref a), (2, .int t), (3, .ref bx), (4, .int (nI k)), (5, .int on9)]) hx hb d_Mo_answer_68 hl (by decide) rfl (fun ls hl => ?_)
                refine lv_aload_n hx hb d_Mo_answer_70 rfl (lv_at hl 2 rfl) ?_
                refine lv_aload_n hx hb d_Mo_answer_71 rfl (lv_at hl 4 rfl) ?_
                refine lv_iconst (v := 0) hx hb d_Mo_answer_72 (by decide) ?_
                refine zi_as (y := nI (np_pos lsx 0)) (by rw [np_pos0]; rfl) ?_
                refine zk_i (va_runV (As := [.ref bx, .int (nI (np_pos lsx 0))]) (rest := []) ⟨hx, hb, hml, hown, hts⟩ (t_Mo_there_s l hst8 0 bx lsx hnx (Nat.zero_le _)) (zcV 2 hts w_1540 w_1542 wp_52 w_30 w_1543 (by decide +kernel) ⟨Nat.le_of_ble_eq_true rfl, Nat.le_of_ble_eq_true rfl⟩) (zc_preV hbase hK hN hQ hG hS ra8 rfl) rfl rfl hl.1 rfl (lv_room (Nat.le_of_ble_eq_true rfl)) d_Mo_answer_73 ⟨(by dsimp only [List.length_nil]; omega), (by dsimp only [List.length_nil]; omega)⟩) hS (fun r73 G73 H locs hp73 hG hS => ?_)
                have hG : zP E Gv H := hp73.2 ▸ hG
                refine lv_if_ne (tgt := 135) hx hb d_Mo_answer_76 (by decide) (fun c76 => ?_) (fun c76 => ?_)
                · have hth : vth (rVf rs) lsx := (hp73.1.nz c76).2.2
                  have hfdf : vfd (rVf rs) lsx = lsx := vfd_y hth
                  have hor : vth (rVf rs) lsx ∨ vD (rVf rs) (vfd (rVf rs) lsx) := Or.inl hth
                  refine lv_aload hx hb d_Mo_answer_135 (lv_at hl 0 rfl) ?_
                  refine lv_aload_n hx hb d_Mo_answer_137 rfl (lv_at hl 4 rfl) ?_
                  refine zk_i (va_runS (As := [.ref bx, .ref bx]) (rest := []) ⟨hx, hb, hml, hown, hts⟩ (t_Ns_same l E Gv bx (np_len (lsx)) f_bx8 n1_bx8 bx (np_len lsx) f_bx8 n1_bx8 (by omega) (by omega)) (zcS 2 hts w_1405 w_1406 w_33 w_1407 (by decide +kernel) ⟨Nat.le_of_ble_eq_true rfl, Nat.le_of_ble_eq_true rfl⟩) (zc_pre hbase hK hN hQ hG hS) rfl rfl hl.1 rfl (lv_room (Nat.le_of_ble_eq_true rfl)) d_Mo_answer_138 ⟨(by dsimp only [List.length_nil]; omega), (by dsimp only [List.length_nil]; omega)⟩) hS (fun r138 G138 H locs hp138 hG hS => ?_)
                  have hG : zP E Gv H := hp138.2 ▸ hG
                  refine lv_if_ne (tgt := 148) hx hb d_Mo_answer_141 (by decide) (fun c141 => ?_) (fun c141 => ?_)
                  · have hzw : zb 0 (¬ lsx = lsx) := zb.f (fun z => z rfl)
                    refine lv_iconst (v := 0) hx hb d_Mo_answer_148 (by decide) ?_
                    refine lv_istore (lv' := [(8, .int 0), (7, .ref bx), (6, .int (-1)), (0, .ref a), (2, .int t), (3, .ref bx), (4, .int (nI k)), (5, .int on9)]) hx hb d_Mo_answer_149 hl (by decide) rfl (fun ls hl => ?_)
                    refine lv_iload_n hx hb d_Mo_answer_151 rfl (lv_at hl 4 rfl) ?_
                    refine lv_iconst (v := 5) hx hb d_Mo_answer_152 (by decide) ?_
                    refine lv_icmp_eq (tgt := 178) hx hb d_Mo_answer_153 (by decide) (fun c153 => ?_) (fun c153 => ?_)
                    · have htot : vfo (rVf rs) lo (zscu se) t 9 Wz ls1 = (0, vtl (rVf rs) lo (zscu se) W8 lsx (lsx) t) := by rw [← hon1, vfo_tell hlox hvnc hor (by rw [hfdf]; exact Or.inl c153), hfdf]
                      have hbd9 : rBd c2 (vtl (rVf rs) lo (zscu se) W8 lsx (lsx) t) := by have q := hB; rw [htot] at q; exact q
                      have hPt : rPi c1 c2 ((vfo (rVf rs) lo (zscu se) t 9 Wz ls1).2) 0 = rPi c1 c2 (vtl (rVf rs) lo (zscu se) W8 lsx (lsx) t) 0 := by rw [htot]
                      have hlet : zLe (W8) (vtl (rVf rs) lo (zscu se) W8 lsx (lsx) t) := vtl_le _ _ _ _ _ _ _
                      have hpit := rPi_le (n := 0) (m := 0) hc1 hc2 hlet (rPw_le hlet)
                      have hwlt := wln_le hlet
                      refine lv_iconst (v := 0) hx hb d_Mo_answer_178 (by decide) ?_
                      refine lv_istore (lv' := [(5, .int 0), (8, .int 0), (7, .ref bx), (6, .int (-1)), (0, .ref a), (2, .int t), (3, .ref bx), (4, .int (nI k))]) hx hb d_Mo_answer_179 hl (by decide) rfl (fun ls hl => ?_)
                      refine lv_iload hx hb d_Mo_answer_181 (lv_at hl 0 rfl) ?_
                      refine lv_if_eq (tgt := 282) hx hb d_Mo_answer_183 (by decide) (fun c183 => ?_) (fun c183 => ?_)
                      · have b183 : 0 = 0 := (nI_eq (a := 0) (b := 0) (by omega) (by omega)).mp c183
                        refine lv_aload_n hx hb d_Mo_answer_282 rfl (lv_at hl 4 rfl) ?_
                        refine lv_aload_n hx hb d_Mo_answer_283 rfl (lv_at hl 6 rfl) ?_
                        refine lv_aload hx hb d_Mo_answer_284 (lv_at hl 2 rfl) ?_
                        refine lv_iload_n hx hb d_Mo_answer_286 rfl (lv_at hl 5 rfl) ?_
                        refine lv_iload hx hb d_Mo_answer_287 (lv_at hl 1 rfl) ?_
                        have hGo289 := hG
                        refine zk_v (va_runV (As := [.ref bx, .ref bx, .int t, .int 0]) (rest := []) ⟨hx, hb, hml, hown, hts⟩ (t_Mo_held l E Gv a c1 c2 ro8 lo rs W8 wp th co se tp v19 v20 hst8 bx lsx hn_bx8 bx (lsx) hn_bx8 t 0 hzw (fun z => absurd rfl z) hlox (fun z => absurd rfl z) hbd9) (zcV 4 hts w_1564 w_1566 wp_57 w_30 w_1567 (by decide +kernel) ⟨Nat.le_of_ble_eq_true rfl, Nat.le_of_ble_eq_true rfl⟩) (zc_preV hbase hK hN hQ hG hS ra8 rfl) rfl rfl hl.1 rfl (lv_room (Nat.le_of_ble_eq_true rfl)) d_Mo_answer_289 ⟨(by dsimp only [List.length_nil]; omega), (by dsimp only [List.length_nil]; omega)⟩) hS (fun G289 H locs hp289 hG hS => ?_)
                        obtain ⟨roqh, hstqh, hsqh⟩ := hp289
                        have hfqh : zfr ro zKr G roqh G289 := hf8.tr hsqh
                        refine zW_more (cells2 := rPi c1 c2 (vtl (rVf rs) lo (zscu se) W8 lsx (lsx) t) 0 - rPi c1 c2 Wz 0 + 3 * k) (slots2 := rPi c1 c2 (vtl (rVf rs) lo (zscu se) W8 lsx (lsx) t) 0 - rPi c1 c2 Wz 0 + 260 * k) (by dsimp only [List.length_nil]; omega) (by dsimp only [List.length_nil]; omega) ?_
                        obtain ⟨hqh, eh0qh, eh1qh, eh2qh, hcqh⟩ := id hstqh
                        obtain ⟨raqh, rbqh, ⟨fmqh, rt1qh, rt2qh, rt3qh, rt4qh⟩, rtlqh, ⟨foqh, rn1qh, rn2qh, rn3qh, rn4qh, rn5qh⟩, rrqh, rgqh, rasqh⟩ := id hcqh
                        rw [eh0qh] at raqh
                        obtain ⟨⟨frqh, rm4qh, hfrqh⟩, hn2qh, hRsqh⟩ := id rrqh.1
                        have hn_bxqh : rNm E G289 roqh bx lsx := hn_bx8.fr hsqh zKr_0
                        obtain ⟨f_bxqh, n1_bxqh, n2_bxqh, n3_bxqh, n4_bxqh, n5_bxqh⟩ := id hn_bxqh
                        have sm_bxqh := n3_bxqh.2
                        refine lv_goto (tgt := 8) hx hb d_Mo_answer_292 (by decide) ?_
                        refine zW_more (cells2 := rPi c1 c2 (vtl (rVf rs) lo (zscu se) W8 lsx (lsx) t) 0 - rPi c1 c2 Wz 0 + 3 * k + (if (0 : Int32) = 0 then 3 else 0)) (slots2 := rPi c1 c2 (vtl (rVf rs) lo (zscu se) W8 lsx (lsx) t) 0 - rPi c1 c2 Wz 0 + 260 * k + (if (0 : Int32) = 0 then 260 else 0)) (by rw [if_pos rfl]; omega) (by rw [if_pos rfl]; omega) ?_
                        exact ih G289 k 0 bx lsx (vtl (rVf rs) lo (zscu se) W8 lsx (lsx) t) roqh _ _ (by first | (rw [if_neg (by decide)]; omega) | (rw [if_pos rfl]; omega)) (hk) (Or.inr ⟨rfl, htot.symm⟩) (hn_bxqh) (hle8.tr hlet) (hstqh) (hfqh) hG hS ls (lv_sub hl [4, 5, 6, 7, 0] rfl)
                      · have b183 : ¬ 0 = 0 := fun q => c183 ((nI_eq (a := 0) (b := 0) (by omega) (by omega)).mpr q)
                        exact absurd rfl c183
                    · refine lv_iload_n hx hb d_Mo_answer_156 rfl (lv_at hl 4 rfl) ?_
                      refine lv_sipush (v := 255) hx hb d_Mo_answer_157 (by decide) ?_
                      refine lv_icmp_eq (tgt := 178) hx hb d_Mo_answer_160 (by decide) (fun c160 => ?_) (fun c160 => ?_)
                      · have htot : vfo (rVf rs) lo (zscu se) t 9 Wz ls1 = (0, vtl (rVf rs) lo (zscu se) W8 lsx (lsx) t) := by rw [← hon1, vfo_tell hlox hvnc hor (by rw [hfdf]; exact Or.inr (Or.inl c160)), hfdf]
                        have hbd9 : rBd c2 (vtl (rVf rs) lo (zscu se) W8 lsx (lsx) t) := by have q := hB; rw [htot] at q; exact q
                        have hPt : rPi c1 c2 ((vfo (rVf rs) lo (zscu se) t 9 Wz ls1).2) 0 = rPi c1 c2 (vtl (rVf rs) lo (zscu se) W8 lsx (lsx) t) 0 := by rw [htot]
                        have hlet : zLe (W8) (vtl (rVf rs) lo (zscu se) W8 lsx (lsx) t) := vtl_le _ _ _ _ _ _ _
                        have hpit := rPi_le (n := 0) (m := 0) hc1 hc2 hlet (rPw_le hlet)
                        have hwlt := wln_le hlet
                        refine lv_iconst (v := 0) hx hb d_Mo_answer_178 (by decide) ?_
                        refine lv_istore (lv' := [(5, .int 0), (8, .int 0), (7, .ref bx), (6, .int (-1)), (0, .ref a), (2, .int t), (3, .ref bx), (4, .int (nI k))]) hx hb d_Mo_answer_179 hl (by decide) rfl (fun ls hl => ?_)
                        refine lv_iload hx hb d_Mo_answer_181 (lv_at hl 0 rfl) ?_
                        refine lv_if_eq (tgt := 282) hx hb d_Mo_answer_183 (by decide) (fun c183 => ?_) (fun c183 => ?_)
                        · have b183 : 0 = 0 := (nI_eq (a := 0) (b := 0) (by omega) (by omega)).mp c183
                          refine lv_aload_n hx hb d_Mo_answer_282 rfl (lv_at hl 4 rfl) ?_
                          refine lv_aload_n hx hb d_Mo_answer_283 rfl (lv_at hl 6 rfl) ?_
                          refine lv_aload hx hb d_Mo_answer_284 (lv_at hl 2 rfl) ?_
                          refine lv_iload_n hx hb d_Mo_answer_286 rfl (lv_at hl 5 rfl) ?_
                          refine lv_iload hx hb d_Mo_answer_287 (lv_at hl 1 rfl) ?_
                          have hGo289 := hG
                          refine zk_v (va_runV (As := [.ref bx, .ref bx, .int t, .int 0]) (rest := []) ⟨hx, hb, hml, hown, hts⟩ (t_Mo_held l E Gv a c1 c2 ro8 lo rs W8 wp th co se tp v19 v20 hst8 bx lsx hn_bx8 bx (lsx) hn_bx8 t 0 hzw (fun z => absurd rfl z) hlox (fun z => absurd rfl z) hbd9) (zcV 4 hts w_1564 w_1566 wp_57 w_30 w_1567 (by decide +kernel) ⟨Nat.le_of_ble_eq_true rfl, Nat.le_of_ble_eq_true rfl⟩) (zc_preV hbase hK hN hQ hG hS ra8 rfl) rfl rfl hl.1 rfl (lv_room (Nat.le_of_ble_eq_true rfl)) d_Mo_answer_289 ⟨(by dsimp only [List.length_nil]; omega), (by dsimp only [List.length_nil]; omega)⟩) hS (fun G289 H locs hp289 hG hS => ?_)
                          obtain ⟨roqh, hstqh, hsqh⟩ := hp289
                          have hfqh : zfr ro zKr G roqh G289 := hf8.tr hsqh
                          refine zW_more (cells2 := rPi c1 c2 (vtl (rVf rs) lo (zscu se) W8 lsx (lsx) t) 0 - rPi c1 c2 Wz 0 + 3 * k) (slots2 := rPi c1 c2 (vtl (rVf rs) lo (zscu se) W8 lsx (lsx) t) 0 - rPi c1 c2 Wz 0 + 260 * k) (by dsimp only [List.length_nil]; omega) (by dsimp only [List.length_nil]; omega) ?_
                          obtain ⟨hqh, eh0qh, eh1qh, eh2qh, hcqh⟩ := id hstqh
                          obtain ⟨raqh, rbqh, ⟨fmqh, rt1qh, rt2qh, rt3qh, rt4qh⟩, rtlqh, ⟨foqh, rn1qh, rn2qh, rn3qh, rn4qh, rn5qh⟩, rrqh, rgqh, rasqh⟩ := id hcqh
                          rw [eh0qh] at raqh
                          obtain ⟨⟨frqh, rm4qh, hfrqh⟩, hn2qh, hRsqh⟩ := id rrqh.1
                          have hn_bxqh : rNm E G289 roqh bx lsx := hn_bx8.fr hsqh zKr_0
                          obtain ⟨f_bxqh, n1_bxqh, n2_bxqh, n3_bxqh, n4_bxqh, n5_bxqh⟩ := id hn_bxqh
                          have sm_bxqh := n3_bxqh.2
                          refine lv_goto (tgt := 8) hx hb d_Mo_answer_292 (by decide) ?_
                          refine zW_more (cells2 := rPi c1 c2 (vtl (rVf rs) lo (zscu se) W8 lsx (lsx) t) 0 - rPi c1 c2 Wz 0 + 3 * k + (if (0 : Int32) = 0 then 3 else 0)) (slots2 := rPi c1 c2 (vtl (rVf rs) lo (zscu se) W8 lsx (lsx) t) 0 - rPi c1 c2 Wz 0 + 260 * k + (if (0 : Int32) = 0 then 260 else 0)) (by rw [if_pos rfl]; omega) (by rw [if_pos rfl]; omega) ?_
                          exact ih G289 k 0 bx lsx (vtl (rVf rs) lo (zscu se) W8 lsx (lsx) t) roqh _ _ (by first | (rw [if_neg (by decide)]; omega) | (rw [if_pos rfl]; omega)) (hk) (Or.inr ⟨rfl, htot.symm⟩) (hn_bxqh) (hle8.tr hlet) (hstqh) (hfqh) hG hS ls (lv_sub hl [4, 5, 6, 7, 0] rfl)
                        · have b183 : ¬ 0 = 0 := fun q => c183 ((nI_eq (a := 0) (b := 0) (by omega) (by omega)).mpr q)
                          exact absurd rfl c183
                      · refine lv_aload_n hx hb d_Mo_answer_163 rfl (lv_at hl 3 rfl) ?_
                        refine lv_aload hx hb d_Mo_answer_164 (lv_at hl 1 rfl) ?_
                        refine lv_iconst (v := 0) hx hb d_Mo_answer_166 (by decide) ?_
                        refine zi_as (y := nI (np_pos (lsx) 0)) (by rw [np_pos0]; rfl) ?_
                        refine lv_iconst (v := 5) hx hb d_Mo_answer_167 (by decide) ?_
                        refine zk_i (va_runV (As := [.ref bx, .int (nI (np_pos (lsx) 0)), .int 5]) (rest := []) ⟨hx, hb, hml, hown, hts⟩ (t_Mo_has_s l hst8 0 5 bx (lsx) hn_bx8 (Nat.zero_le _)) (zcV 3 hts w_1408 w_1410 wp_30 w_30 w_1411 (by decide +kernel) ⟨Nat.le_of_ble_eq_true rfl, Nat.le_of_ble_eq_true rfl⟩) (zc_preV hbase hK hN hQ hG hS ra8 rfl) rfl rfl hl.1 rfl (lv_room (Nat.le_of_ble_eq_true rfl)) d_Mo_answer_168 ⟨(by dsimp only [List.length_nil]; omega), (by dsimp only [List.length_nil]; omega)⟩) hS (fun r168 G168 H locs hp168 hG hS => ?_)
                        have hG : zP E Gv H := hp168.2 ▸ hG
                        refine lv_if_eq (tgt := 178) hx hb d_Mo_answer_171 (by decide) (fun c171 => ?_) (fun c171 => ?_)
                        · have htot : vfo (rVf rs) lo (zscu se) t 9 Wz ls1 = (0, vtl (rVf rs) lo (zscu se) W8 lsx (lsx) t) := by rw [← hon1, vfo_tell hlox hvnc hor (by rw [hfdf]; exact Or.inr (Or.inr (Classical.byContradiction (fun z => hp168.1.z c171 z)))), hfdf]
                          have hbd9 : rBd c2 (vtl (rVf rs) lo (zscu se) W8 lsx (lsx) t) := by have q := hB; rw [htot] at q; exact q
                          have hPt : rPi c1 c2 ((vfo (rVf rs) lo (zscu se) t 9 Wz ls1).2) 0 = rPi c1 c2 (vtl (rVf rs) lo (zscu se) W8 lsx (lsx) t) 0 := by rw [htot]
                          have hlet : zLe (W8) (vtl (rVf rs) lo (zscu se) W8 lsx (lsx) t) := vtl_le _ _ _ _ _ _ _
                          have hpit := rPi_le (n := 0) (m := 0) hc1 hc2 hlet (rPw_le hlet)
                          have hwlt := wln_le hlet
                          refine lv_iconst (v := 0) hx hb d_Mo_answer_178 (by decide) ?_
                          refine lv_istore (lv' := [(5, .int 0), (8, .int 0), (7, .ref bx), (6, .int (-1)), (0, .ref a), (2, .int t), (3, .ref bx), (4, .int (nI k))]) hx hb d_Mo_answer_179 hl (by decide) rfl (fun ls hl => ?_)
                          refine lv_iload hx hb d_Mo_answer_181 (lv_at hl 0 rfl) ?_
                          refine lv_if_eq (tgt := 282) hx hb d_Mo_answer_183 (by decide) (fun c183 => ?_) (fun c183 => ?_)
                          · have b183 : 0 = 0 := (nI_eq (a := 0) (b := 0) (by omega) (by omega)).mp c183
                            refine lv_aload_n hx hb d_Mo_answer_282 rfl (lv_at hl 4 rfl) ?_
                            refine lv_aload_n hx hb d_Mo_answer_283 rfl (lv_at hl 6 rfl) ?_
                            refine lv_aload hx hb d_Mo_answer_284 (lv_at hl 2 rfl) ?_
                            refine lv_iload_n hx hb d_Mo_answer_286 rfl (lv_at hl 5 rfl) ?_
                            refine lv_iload hx hb d_Mo_answer_287 (lv_at hl 1 rfl) ?_
                            have hGo289 := hG
                            refine zk_v (va_runV (As := [.ref bx, .ref bx, .int t, .int 0]) (rest := []) ⟨hx, hb, hml, hown, hts⟩ (t_Mo_held l E Gv a c1 c2 ro8 lo rs W8 wp th co se tp v19 v20 hst8 bx lsx hn_bx8 bx (lsx) hn_bx8 t 0 hzw (fun z => absurd rfl z) hlox (fun z => absurd rfl z) hbd9) (zcV 4 hts w_1564 w_1566 wp_57 w_30 w_1567 (by decide +kernel) ⟨Nat.le_of_ble_eq_true rfl, Nat.le_of_ble_eq_true rfl⟩) (zc_preV hbase hK hN hQ hG hS ra8 rfl) rfl rfl hl.1 rfl (lv_room (Nat.le_of_ble_eq_true rfl)) d_Mo_answer_289 ⟨(by dsimp only [List.length_nil]; omega), (by dsimp only [List.length_nil]; omega)⟩) hS (fun G289 H locs hp289 hG hS => ?_)
                            obtain ⟨roqh, hstqh, hsqh⟩ := hp289
                            have hfqh : zfr ro zKr G roqh G289 := hf8.tr hsqh
                            refine zW_more (cells2 := rPi c1 c2 (vtl (rVf rs) lo (zscu se) W8 lsx (lsx) t) 0 - rPi c1 c2 Wz 0 + 3 * k) (slots2 := rPi c1 c2 (vtl (rVf rs) lo (zscu se) W8 lsx (lsx) t) 0 - rPi c1 c2 Wz 0 + 260 * k) (by dsimp only [List.length_nil]; omega) (by dsimp only [List.length_nil]; omega) ?_
                            obtain ⟨hqh, eh0qh, eh1qh, eh2qh, hcqh⟩ := id hstqh
                            obtain ⟨raqh, rbqh, ⟨fmqh, rt1qh, rt2qh, rt3qh, rt4qh⟩, rtlqh, ⟨foqh, rn1qh, rn2qh, rn3qh, rn4qh, rn5qh⟩, rrqh, rgqh, rasqh⟩ := id hcqh
                            rw [eh0qh] at raqh
                            obtain ⟨⟨frqh, rm4qh, hfrqh⟩, hn2qh, hRsqh⟩ := id rrqh.1
                            have hn_bxqh : rNm E G289 roqh bx lsx := hn_bx8.fr hsqh zKr_0
                            obtain ⟨f_bxqh, n1_bxqh, n2_bxqh, n3_bxqh, n4_bxqh, n5_bxqh⟩ := id hn_bxqh
                            have sm_bxqh := n3_bxqh.2
                            refine lv_goto (tgt := 8) hx hb d_Mo_answer_292 (by decide) ?_
                            refine zW_more (cells2 := rPi c1 c2 (vtl (rVf rs) lo (zscu se) W8 lsx (lsx) t) 0 - rPi c1 c2 Wz 0 + 3 * k + (if (0 : Int32) = 0 then 3 else 0)) (slots2 := rPi c1 c2 (vtl (rVf rs) lo (zscu se) W8 lsx (lsx) t) 0 - rPi c1 c2 Wz 0 + 260 * k + (if (0 : Int32) = 0 then 260 else 0)) (by rw [if_pos rfl]; omega) (by rw [if_pos rfl]; omega) ?_
                            exact ih G289 k 0 bx lsx (vtl (rVf rs) lo (zscu se) W8 lsx (lsx) t) roqh _ _ (by first | (rw [if_neg (by decide)]; omega) | (rw [if_pos rfl]; omega)) (hk) (Or.inr ⟨rfl, htot.symm⟩) (hn_bxqh) (hle8.tr hlet) (hstqh) (hfqh) hG hS ls (lv_sub hl [4, 5, 6, 7, 0] rfl)
                          · have b183 : ¬ 0 = 0 := fun q => c183 ((nI_eq (a := 0) (b := 0) (by omega) (by omega)).mpr q)
                            exact absurd rfl c183
                        · have hy5 : (rVf rs) (lsx) 5 ≠ [] := hp168.1.nz c171
                          obtain ⟨e5, he5, e51, e52⟩ := rVf_ne.mp hy5
                          obtain ⟨j5, hj5, ej5⟩ := re_ix he5
                          rw [← ej5] at e51 e52
                          have hv5 := rV5 hj5 e51 e52 (hcn _)
                          have hnx5 : vfo (rVf rs) lo (zscu se) t n9 (wad 1 W8 (vrw (rVf rs) lsx (lsx) 5)) (vtg 5 (rB (re rs j5))) = vfo (rVf rs) lo (zscu se) t 9 Wz ls1 := by
                            rw [← hon1, vfo_next hlox hvnc hor c153 c160 (by rw [hfdf]; exact hv5), hfdf, zif_y hth]; rfl
                          have hlev : zLe (wad 1 W8 (vrw (rVf rs) lsx (lsx) 5)) (vfo (rVf rs) lo (zscu se) t 9 Wz ls1).2 := by rw [← hnx5]; exact vfo_le _ _ _
                          have hbv := hB.le hc2 hlev
                          have hpv := rPi_le (n := 0) (m := 0) hc1 hc2 hlev (rPw_le hlev)
                          have hlef : zLe (W8) (wad 1 W8 (vrw (rVf rs) lsx (lsx) 5)) := zLe_wad _ _ _
                          have hpif := rPi_le (n := 0) (m := 0) hc1 hc2 hlef (rPw_le hlef)
                          have hwlf := wln_le hlef
                          have hb1f := hbv
                          refine lv_iconst (v := 1) hx hb d_Mo_answer_174 (by decide) ?_
                          refine lv_goto (tgt := 179) hx hb d_Mo_answer_175 (by decide) ?_
                          refine lv_istore (lv' := [(5, .int 1), (8, .int 0), (7, .ref bx), (6, .int (-1)), (0, .ref a), (2, .int t), (3, .ref bx), (4, .int (nI k))]) hx hb d_Mo_answer_179 hl (by decide) rfl (fun ls hl => ?_)
                          refine lv_iload hx hb d_Mo_answer_181 (lv_at hl 0 rfl) ?_
                          refine lv_if_eq (tgt := 282) hx hb d_Mo_answer_183 (by decide) (fun c183 => ?_) (fun c183 => ?_)
                          · have b183 : 1 = 0 := (nI_eq (a := 1) (b := 0) (by omega) (by omega)).mp c183
                            exact absurd c183 (by decide)
                          · have b183 : ¬ 1 = 0 := fun q => c183 ((nI_eq (a := 1) (b := 0) (by omega) (by omega)).mpr q)
                            refine lv_aload_n hx hb d_Mo_answer_186 rfl (lv_at hl 4 rfl) ?_
                            refine lv_aload_n hx hb d_Mo_answer_187 rfl (lv_at hl 6 rfl) ?_
                            refine lv_aload hx hb d_Mo_answer_188 (lv_at hl 2 rfl) ?_
                            refine lv_iconst (v := 5) hx hb d_Mo_answer_190 (by decide) ?_
                            have hGo191 := hG
                            refine zk_v (va_runV (As := [.ref bx, .ref bx, .int 5]) (rest := []) ⟨hx, hb, hml, hown, hts⟩ (t_Mo_first l E Gv a c1 c2 ro8 lo rs W8 wp th co se tp v19 v20 hst8 bx lsx hn_bx8 bx (lsx) hn_bx8 5 (by decide) (fun z => absurd rfl z) hb1f.1) (zcV 3 hts w_1560 w_1562 wp_56 w_30 w_1563 (by decide +kernel) ⟨Nat.le_of_ble_eq_true rfl, Nat.le_of_ble_eq_true rfl⟩) (zc_preV hbase hK hN hQ hG hS ra8 rfl) rfl rfl hl.1 rfl (lv_room (Nat.le_of_ble_eq_true rfl)) d_Mo_answer_191 ⟨(by dsimp only [List.length_nil]; omega), (by dsimp only [List.length_nil]; omega)⟩) hS (fun G191 H locs hp191 hG hS => ?_)
                            obtain ⟨roq1, hstq1, hsq1⟩ := hp191
                            have hfq1 : zfr ro zKr G roq1 G191 := hf8.tr hsq1
                            refine zW_more (cells2 := rPi c1 c2 (wad 1 W8 (vrw (rVf rs) lsx (lsx) 5)) 0 - rPi c1 c2 Wz 0 + 3 * k) (slots2 := rPi c1 c2 (wad 1 W8 (vrw (rVf rs) lsx (lsx) 5)) 0 - rPi c1 c2 Wz 0 + 260 * k) (by dsimp only [List.length_nil]; omega) (by dsimp only [List.length_nil]; omega) ?_
                            obtain ⟨hq1, eh0q1, eh1q1, eh2q1, hcq1⟩ := id hstq1
                            obtain ⟨raq1, rbq1, ⟨fmq1, rt1q1, rt2q1, rt3q1, rt4q1⟩, rtlq1, ⟨foq1, rn1q1, rn2q1, rn3q1, rn4q1, rn5q1⟩, rrq1, rgq1, rasq1⟩ := id hcq1
                            rw [eh0q1] at raq1
                            obtain ⟨⟨frq1, rm4q1, hfrq1⟩, hn2q1, hRsq1⟩ := id rrq1.1
                            have hn_bxq1 : rNm E G191 roq1 bx lsx := hn_bx8.fr hsq1 zKr_0
                            obtain ⟨f_bxq1, n1_bxq1, n2_bxq1, n3_bxq1, n4_bxq1, n5_bxq1⟩ := id hn_bxq1
                            have sm_bxq1 := n3_bxq1.2
                            refine lv_iload hx hb d_Mo_answer_194 (lv_at hl 1 rfl) ?_
                            refine lv_if_eq (tgt := 215) hx hb d_Mo_answer_196 (by decide) (fun c196 => ?_) (fun c196 => ?_)
                            · have b196 : 0 = 0 := (nI_eq (a := 0) (b := 0) (by omega) (by omega)).mp c196
                              refine lv_iinc (v := nI (k + 1)) (lv' := [(4, .int (nI (k + 1))), (5, .int 1), (8, .int 0), (7, .ref bx), (6, .int (-1)), (0, .ref a), (2, .int t), (3, .ref bx)]) hx hb d_Mo_answer_215 hl (k := 7) rfl (nI_add k 1) (by decide) rfl (fun ls hl => ?_)
                              have hn9k : 9 - (k + 1) = n9 := by omega
                              have hnx6 : vfo (rVf rs) lo (zscu se) t n9 (wad 1 W8 (vrw (rVf rs) lsx (lsx) 5)) (vtg 5 (rB (re rs j5))) = vfo (rVf rs) lo (zscu se) t 9 Wz ls1 := by rw [show wad 1 W8 (vrw (rVf rs) lsx (lsx) 5) = wad 1 W8 (vrw (rVf rs) lsx (lsx) 5) from rfl]; exact hnx5
                              have hlez : zLe Wz (wad 1 W8 (vrw (rVf rs) lsx (lsx) 5)) := hle8.tr (hlef)
                              refine lv_iconst (v := 0) hx hb d_Mo_answer_218 (by decide) ?_
                              refine zi_as (y := nI 0) (nI_0.symm) ?_
                              refine lv_istore (lv' := [(9, .int (nI 0)), (4, .int (nI (k + 1))), (5, .int 1), (8, .int 0), (7, .ref bx), (6, .int (-1)), (0, .ref a), (2, .int t), (3, .ref bx)]) hx hb d_Mo_answer_219 hl (by decide) rfl (fun ls hl => ?_)
                              have loop221 : ∀ (N : Nat) (i : Nat) (xo : Nat) (H : Heap) (locs : List Loc), (rs.length - i) < N → (i ≤ rs.length) → ((xo = bx ∧ ∀ j, j < i → ¬ (rT (re rs j) = 5 ∧ rM (re rs j) = lsx)) ∨ ∃ j, j < i ∧ (rT (re rs j) = 5 ∧ rM (re rs j) = lsx) ∧ xo = rD (re rs j)) → zP E G191 H → zg_S (zc_b E) s.heap H locs → ∀ (ls : Array Slot), lv_has ls 10 [(0, .ref a), (2, .int t), (3, .ref xo), (4, .int (nI (k + 1))), (5, .int 1), (7, .ref bx), (9, .int (nI i))] → W p l e (rm_Mo_answer (rPi c1 c2 ((vfo (rVf rs) lo (zscu se) t 9 Wz ls1).2) 0 - rPi c1 c2 Wz 0 + 40) (rPi c1 c2 ((vfo (rVf rs) lo (zscu se) t 9 Wz ls1).2) 0 - rPi c1 c2 Wz 0 + 2700)) s m args below meth c H locs (rPi c1 c2 (wad 1 W8 (vrw (rVf rs) lsx (lsx) 5)) 0 - rPi c1 c2 Wz 0 + 3 * k) (rPi c1 c2 (wad 1 W8 (vrw (rVf rs) lsx (lsx) 5)) 0 - rPi c1 c2 Wz 0 + 260 * k) Q (F0 m 221 ls []) := by
                                intro N
                                induction N with
                                | zero =>
                                  intro i xo H locs hlt
                                  exact absurd hlt (Nat.not_lt_zero _)
                                | succ N ih =>
                                  intro i xo H locs hlt hi hxo hG hS ls hl
                                  refine lv_iload hx hb d_Mo_answer_221 (lv_at hl 6 rfl) ?_
                                  refine lv_aload_n hx hb d_Mo_answer_223 rfl (lv_at hl 0 rfl) ?_
                                  refine zg_get (ci := 11) (C := "ZoneAnswersModel") (T := T_Mo) (N := 21) hx hb hts zi_Mo hown hK hG raq1 rfl 5 (by decide) (hts _ w_1286) (fun _ h9 => h9) rfl d_Mo_answer_224 ?_
                                  refine lv_icmp_ge (tgt := 279) hx hb d_Mo_answer_227 (by decide) (fun c227 => ?_) (fun c227 => ?_)
                                  · have b227 : rs.length ≤ i := (nI_leI (a := rs.length) (b := i) (by omega) (by omega)).mp c227
                                    obtain ⟨j7, hj7, ⟨e71, e72⟩, e73⟩ := hxo.resolve_left (fun z => z.2 j5 (by omega) ⟨e51, e52⟩)
                                    have hj7r : j7 < rs.length := by omega
                                    have hv7 := rV5 hj7r e71 e72 (hcn _)
                                    rw [hv5] at hv7
                                    have eB7 : rB (re rs j5) = rB (re rs j7) := congrArg (fun z : List (Int32 × List Int32) => (z.headD (0, [])).2) hv7
                                    have hnn7 := hstq1.dn hj7r (Or.inr e71)
                                    rw [e71, ← eB7, ← e73] at hnn7
                                    refine lv_goto (tgt := 292) hx hb d_Mo_answer_279 (by decide) ?_
                                    refine lv_goto (tgt := 8) hx hb d_Mo_answer_292 (by decide) ?_
                                    refine zW_more (cells2 := rPi c1 c2 (wad 1 W8 (vrw (rVf rs) lsx (lsx) 5)) 0 - rPi c1 c2 Wz 0 + 3 * (k + 1) + (if (1 : Int32) = 0 then 3 else 0)) (slots2 := rPi c1 c2 (wad 1 W8 (vrw (rVf rs) lsx (lsx) 5)) 0 - rPi c1 c2 Wz 0 + 260 * (k + 1) + (if (1 : Int32) = 0 then 260 else 0)) (by rw [if_neg (by decide)]; omega) (by rw [if_neg (by decide)]; omega) ?_
                                    exact ih8 G191 (k + 1) 1 xo (vtg 5 (rB (re rs j5))) (wad 1 W8 (vrw (rVf rs) lsx (lsx) 5)) roq1 _ _ (by first | (rw [if_neg (by decide)]; omega) | (rw [if_pos rfl]; omega)) (by omega) (Or.inl ⟨rfl, by rw [hn9k]; exact hnx6⟩) (hnn7) (hlez) (hstq1) (hfq1) hG hS ls (lv_sub hl [0, 1, 2, 3, 4] rfl)
                                  · have b227 : ¬ rs.length ≤ i := fun q => c227 ((nI_leI (a := rs.length) (b := i) (by omega) (by omega)).mpr q)
                                    have hin : i < rs.length := by omega
                                    obtain ⟨hr1, ⟨nf, hr2, hr3, hr4, hr5⟩, df, hr6, hr7, hr8⟩ := hRsq1 _ (re_mem hin)
                                    have sm := hr4.2
                                    refine lv_aload_n hx hb d_Mo_answer_230 rfl (lv_at hl 0 rfl) ?_
                                    refine zg_get (ci := 11) (C := "ZoneAnswersModel") (T := T_Mo) (N := 21) hx hb hts zi_Mo hown hK hG raq1 rfl 4 (by decide) (hts _ w_1285) (fun _ h9 => h9) rfl d_Mo_answer_231 ?_
                                    refine lv_iload hx hb d_Mo_answer_234 (lv_at hl 6 rfl) ?_
                                    refine zg_aldq hx hb hK hG 4 rm4q1 rfl (vp_in_nI (by omega) (by omega)) d_Mo_answer_236 ?_
                                    refine zr_as (y := frq1 i) (by rw [zi_n _ (by omega)]) ?_
                                    refine zr_some (a := rA (re rs i)) (hfrq1 i hin) ?_
                                    refine zg_get (ci := 12) (C := "ZoneAnswersModel$Rec") (T := T_Re) (N := 5) hx hb hts zi_Re hown hK hG hr1 rfl 3 (by decide) (hts _ w_1268) (fun _ h9 => h9) rfl d_Mo_answer_237 ?_
                                    refine lv_iconst (v := 5) hx hb d_Mo_answer_240 (by decide) ?_
                                    refine lv_icmp_ne (tgt := 273) hx hb d_Mo_answer_241 (by decide) (fun c241 => ?_) (fun c241 => ?_)
                                    · refine lv_iinc (v := nI (i + 1)) (lv' := [(9, .int (nI (i + 1))), (0, .ref a), (2, .int t), (3, .ref xo), (4, .int (nI (k + 1))), (5, .int 1), (7, .ref bx)]) hx hb d_Mo_answer_273 hl (k := 6) rfl (nI_add i 1) (by decide) rfl (fun ls hl => ?_)
                                      refine lv_goto (tgt := 221) hx hb d_Mo_answer_276 (by decide) ?_
                                      exact ih (i + 1) xo _ _ (by omega) (by omega) (hxo.elim (fun z => Or.inl ⟨z.1, fun j hj => by rcases Nat.lt_or_ge j i with q1 | q1; exact z.2 j q1; rw [show j = i by omega]; first | exact fun w => c241 w.1 | exact fun w => hp256.1.z c259 ((zsm_n hr3 n2_bxq1 hr4 n3_bxq1).mpr w.2)⟩) (fun ⟨j, j1, j2⟩ => Or.inr ⟨j, by omega, j2⟩)) hG hS ls (lv_sub hl [1, 2, 3, 4, 5, 6, 0] rfl)
                                    · refine lv_aload_n hx hb d_Mo_answer_244 rfl (lv_at hl 0 rfl) ?_
                                      refine zg_get (ci := 11) (C := "ZoneAnswersModel") (T := T_Mo) (N := 21) hx hb hts zi_Mo hown hK hG raq1 rfl 4 (by decide) (hts _ w_1285) (fun _ h9 => h9) rfl d_Mo_answer_245 ?_
                                      refine lv_iload hx hb d_Mo_answer_248 (lv_at hl 6 rfl) ?_
                                      refine zg_aldq hx hb hK hG 4 rm4q1 rfl (vp_in_nI (by omega) (by omega)) d_Mo_answer_250 ?_
                                      refine zr_as (y := frq1 i) (by rw [zi_n _ (by omega)]) ?_
                                      refine zr_some (a := rA (re rs i)) (hfrq1 i hin) ?_
                                      refine zg_get (ci := 12) (C := "ZoneAnswersModel$Rec") (T := T_Re) (N := 5) hx hb hts zi_Re hown hK hG hr1 rfl 0 (by decide) (hts _ w_1265) (fun _ h9 => h9) rfl d_Mo_answer_251 ?_
                                      refine lv_aload hx hb d_Mo_answer_254 (lv_at hl 5 rfl) ?_
                                      refine zk_i (va_runS (As := [.ref (rN (re rs i)), .ref bx]) (rest := []) ⟨hx, hb, hml, hown, hts⟩ (t_Ns_same l E G191 (rN (re rs i)) (np_len (rM (re rs i))) nf hr2 bx (np_len (lsx)) f_bxq1 n1_bxq1 (by omega) (by omega)) (zcS 2 hts w_1405 w_1406 w_33 w_1407 (by decide +kernel) ⟨Nat.le_of_ble_eq_true rfl, Nat.le_of_ble_eq_true rfl⟩) (zc_pre hbase hK hN hQ hG hS) rfl rfl hl.1 rfl (lv_room (Nat.le_of_ble_eq_true rfl)) d_Mo_answer_256 ⟨(by dsimp only [List.length_nil]; omega), (by dsimp only [List.length_nil]; omega)⟩) hS (fun r256 G256 H locs hp256 hG hS => ?_)
                                      have hG : zP E G191 H := hp256.2 ▸ hG
                                      refine lv_if_eq (tgt := 273) hx hb d_Mo_answer_259 (by decide) (fun c259 => ?_) (fun c259 => ?_)
                                      · refine lv_iinc (v := nI (i + 1)) (lv' := [(9, .int (nI (i + 1))), (0, .ref a), (2, .int t), (3, .ref xo), (4, .int (nI (k + 1))), (5, .int 1), (7, .ref bx)]) hx hb d_Mo_answer_273 hl (k := 6) rfl (nI_add i 1) (by decide) rfl (fun ls hl => ?_)
                                        refine lv_goto (tgt := 221) hx hb d_Mo_answer_276 (by decide) ?_
                                        exact ih (i + 1) xo _ _ (by omega) (by omega) (hxo.elim (fun z => Or.inl ⟨z.1, fun j hj => by rcases Nat.lt_or_ge j i with q1 | q1; exact z.2 j q1; rw [show j = i by omega]; first | exact fun w => c241 w.1 | exact fun w => hp256.1.z c259 ((zsm_n hr3 n2_bxq1 hr4 n3_bxq1).mpr w.2)⟩) (fun ⟨j, j1, j2⟩ => Or.inr ⟨j, by omega, j2⟩)) hG hS ls (lv_sub hl [1, 2, 3, 4, 5, 6, 0] rfl)
                                      · refine lv_aload_n hx hb d_Mo_answer_262 rfl (lv_at hl 0 rfl) ?_
                                        refine zg_get (ci := 11) (C := "ZoneAnswersModel") (T := T_Mo) (N := 21) hx hb hts zi_Mo hown hK hG raq1 rfl 4 (by decide) (hts _ w_1285) (fun _ h9 => h9) rfl d_Mo_answer_263 ?_
                                        refine lv_iload hx hb d_Mo_answer_266 (lv_at hl 6 rfl) ?_
                                        refine zg_aldq hx hb hK hG 4 rm4q1 rfl (vp_in_nI (by omega) (by omega)) d_Mo_answer_268 ?_
                                        refine zr_as (y := frq1 i) (by rw [zi_n _ (by omega)]) ?_
                                        refine zr_some (a := rA (re rs i)) (hfrq1 i hin) ?_
                                        refine zg_get (ci := 12) (C := "ZoneAnswersModel$Rec") (T := T_Re) (N := 5) hx hb hts zi_Re hown hK hG hr1 rfl 1 (by decide) (hts _ w_1266) (fun _ h9 => h9) rfl d_Mo_answer_269 ?_
                                        refine lv_astore_n (lv' := [(3, .ref (rD (re rs i))), (0, .ref a), (2, .int t), (4, .int (nI (k + 1))), (5, .int 1), (7, .ref bx), (9, .int (nI i))]) hx hb d_Mo_answer_272 rfl hl (by decide) rfl (fun ls hl => ?_)
                                        refine lv_iinc (v := nI (i + 1)) (lv' := [(9, .int (nI (i + 1))), (3, .ref (rD (re rs i))), (0, .ref a), (2, .int t), (4, .int (nI (k + 1))), (5, .int 1), (7, .ref bx)]) hx hb d_Mo_answer_273 hl (k := 6) rfl (nI_add i 1) (by decide) rfl (fun ls hl => ?_)
                                        refine lv_goto (tgt := 221) hx hb d_Mo_answer_276 (by decide) ?_
                                        exact ih (i + 1) (rD (re rs i)) _ _ (by omega) (by omega) (Or.inr ⟨i, by omega, ⟨c241, (zsm_n hr3 n2_bxq1 hr4 n3_bxq1).mp (hp256.1.nz c259)⟩, rfl⟩) hG hS ls (lv_sub hl [2, 3, 1, 4, 5, 6, 0] rfl)
                              exact loop221 _ 0 bx _ _ (Nat.lt_succ_self _) (Nat.zero_le _) (Or.inl ⟨rfl, fun j hj => absurd hj (Nat.not_lt_zero j)⟩) hG hS ls (lv_sub hl [6, 7, 8, 1, 2, 4, 0] rfl)
                            · have b196 : ¬ 0 = 0 := fun q => c196 ((nI_eq (a := 0) (b := 0) (by omega) (by omega)).mpr q)
                              exact absurd rfl c196
                  · exact absurd (((zsm_n n2_bx8 n2_bx8 n3_bx8 n3_bx8)).mpr rfl) (hp138.1.z c141)
                · have hnth : ¬ vth (rVf rs) lsx := fun z => hp73.1.z c76 ⟨hlox, np_len_suf hlox, z⟩
                  refine lv_aload_n hx hb d_Mo_answer_79 rfl (lv_at hl 4 rfl) ?_
                  refine lv_aload_n hx hb d_Mo_answer_80 rfl (lv_at hl 2 rfl) ?_
                  refine lv_aload_n hx hb d_Mo_answer_81 rfl (lv_at hl 4 rfl) ?_
                  have hGo82 := hG
                  refine zk_i (va_runV (As := [.ref bx]) (rest := [.ref bx]) ⟨hx, hb, hml, hown, hts⟩ (t_Mo_closest l E Gv a c1 c2 ro8 lo rs W8 [] True (wln W8, 0, [], wp) th co se tp v19 v20 hst8 bx lsx hnx hlox hnth) (zcV 1 hts w_1545 w_1547 wp_53 w_30 w_1548 (by decide +kernel) ⟨Nat.le_of_ble_eq_true rfl, Nat.le_of_ble_eq_true rfl⟩) (zc_preV hbase hK hN hQ hG hS ra8 rfl) rfl rfl hl.1 rfl (lv_room (Nat.le_of_ble_eq_true rfl)) d_Mo_answer_82 ⟨(by dsimp only [List.length_nil]; omega), (by dsimp only [List.length_nil]; omega)⟩) hS (fun r82 G82 H locs hp82 hG hS => ?_)
                  obtain ⟨⟨kst, hk20, hk2, hcl2, hcl3, er82⟩, eg82⟩ := hp82
                  have hG : zP E Gv H := eg82 ▸ hG
                  refine zi_as (y := nI (np_pos lsx kst)) er82 ?_
                  have hpk2 := np_pos_le lsx kst hk2
                  have hGo85 := hG
                  refine zk_q (va_runS (As := [.ref bx, .int (nI (np_pos lsx kst))]) (rest := []) ⟨hx, hb, hml, hown, hts⟩ (t_Ns_star l E Gv bx (np_len lsx) f_bx8 n1_bx8 n4_bx8 (by omega) (np_pos lsx kst) (by omega)) (zcS 2 hts w_1549 w_1550 w_33 w_1551 (by decide +kernel) ⟨Nat.le_of_ble_eq_true rfl, Nat.le_of_ble_eq_true rfl⟩) (zc_pre hbase hK hN hQ hG hS) rfl rfl hl.1 rfl (lv_room (Nat.le_of_ble_eq_true rfl)) d_Mo_answer_85 ⟨(by dsimp only [List.length_nil]; omega), (by dsimp only [List.length_nil]; omega)⟩) hS (fun r85 G85 H locs hp85 hG hS => ?_)
                  obtain ⟨qf, f285, er85, hq85, hx85, hq285, hft85, hs085, hs185, hcp85⟩ := hp85
                  obtain ⟨hnfqs, hlqs⟩ := np_f_star hk2 n2_bx8 hs085 hs185 hcp85
                  rw [← hlqs] at hq285
                  have hngqs := np_star_gk n3_bx8 hk20 hk2
                  have hfd : vfd (rVf rs) lsx = [42] :: lsx.drop kst := by rw [vfd_n hnth, hcl2]
                  have hlof : lo <:+ ([42] :: lsx.drop kst) := (suf_len hlox hcl3.1 (hcl3.2.2 lo hlox ⟨lo, hgd.top, List.suffix_refl _⟩)).trans (List.suffix_cons _ _)
                  have hzlf : zl lo ([42] :: lsx.drop kst) := zl_suf hlof (fun e => by have q1 := (suf_len hlox hcl3.1 (hcl3.2.2 lo hlox ⟨lo, hgd.top, List.suffix_refl _⟩)).length_le; rw [e] at q1; simp at q1; omega)
                  have hzlx : zl lo lsx := zl_suf hlox (fun e => hnth (e ▸ ⟨lo, hgd.top, List.suffix_refl _⟩))
                  have hnex : ¬ ([42] :: lsx.drop kst) = lsx ∨ True := Or.inr trivial
                  obtain ⟨hnqqs, hzqs⟩ := rNm.new (ro := ro8) hq85 hx85 hq285 hnfqs hngqs hft85
                  have hstqs := hst8.z hzqs
                  have hzqs := hzqs.w (K2 := zKr) (fun _ z => z.elim)
                  have hfqs := hf8.tr hzqs
                  refine zr_some (a := qf) er85 ?_
                  refine zW_more (cells2 := rPi c1 c2 W8 0 - rPi c1 c2 Wz 0 + 3 * k + 3) (slots2 := rPi c1 c2 W8 0 - rPi c1 c2 Wz 0 + 260 * k + 260) (by dsimp only [List.length_nil]; omega) (by dsimp only [List.length_nil]; omega) ?_
                  obtain ⟨hqs, eh0qs, eh1qs, eh2qs, hcqs⟩ := id hstqs
                  obtain ⟨raqs, rbqs, ⟨fmqs, rt1qs, rt2qs, rt3qs, rt4qs⟩, rtlqs, ⟨foqs, rn1qs, rn2qs, rn3qs, rn4qs, rn5qs⟩, rrqs, rgqs, rasqs⟩ := id hcqs
                  rw [eh0qs] at raqs
                  obtain ⟨⟨frqs, rm4qs, hfrqs⟩, hn2qs, hRsqs⟩ := id rrqs.1
                  have hn_bxqs : rNm E G85 (zrn ro8 qf (0, 0)) bx lsx := hn_bx8.fr hzqs zKr_0
                  obtain ⟨f_bxqs, n1_bxqs, n2_bxqs, n3_bxqs, n4_bxqs, n5_bxqs⟩ := id hn_bxqs
                  have sm_bxqs := n3_bxqs.2
                  obtain ⟨f_qfqs, n1_qfqs, n2_qfqs, n3_qfqs, n4_qfqs, n5_qfqs⟩ := id hnqqs
                  have sm_qfqs := n3_qfqs.2
                  refine lv_astore (lv' := [(7, .ref qf), (6, .int (-1)), (0, .ref a), (2, .int t), (3, .ref bx), (4, .int (nI k)), (5, .int on9)]) hx hb d_Mo_answer_88 hl (by decide) rfl (fun ls hl => ?_)
                  refine lv_aload_n hx hb d_Mo_answer_90 rfl (lv_at hl 2 rfl) ?_
                  refine lv_aload hx hb d_Mo_answer_91 (lv_at hl 0 rfl) ?_
                  refine zk_i (va_runV (As := [.ref qf]) (rest := []) ⟨hx, hb, hml, hown, hts⟩ (t_Mo_any_s l hstqs qf ([42] :: lsx.drop kst) hnqqs) (zcV 1 hts w_1413 w_1415 wp_31 w_30 w_1416 (by decide +kernel) ⟨Nat.le_of_ble_eq_true rfl, Nat.le_of_ble_eq_true rfl⟩) (zc_preV hbase hK hN hQ hG hS raqs rfl) rfl rfl hl.1 rfl (lv_room (Nat.le_of_ble_eq_true rfl)) d_Mo_answer_93 ⟨(by dsimp only [List.length_nil]; omega), (by dsimp only [List.length_nil]; omega)⟩) hS (fun r93 G93 H locs hp93 hG hS => ?_)
                  have hG : zP E G85 H := hp93.2 ▸ hG
                  refine lv_if_ne (tgt := 135) hx hb d_Mo_answer_96 (by decide) (fun c96 => ?_) (fun c96 => ?_)
                  · have hnvd : ¬ vD (rVf rs) lsx := fun ⟨t9, z⟩ => hnth ⟨lsx, ⟨t9, z⟩, List.suffix_refl _⟩
                    have hnes : ¬ ([42] :: lsx.drop kst) = lsx := fun e => hnvd (e ▸ hp93.1.nz c96)
                    have hfdf : vfd (rVf rs) lsx = [42] :: lsx.drop kst := hfd
                    have hor : vth (rVf rs) lsx ∨ vD (rVf rs) (vfd (rVf rs) lsx) := Or.inr (by rw [hfd]; exact hp93.1.nz c96)
                    refine lv_aload hx hb d_Mo_answer_135 (lv_at hl 0 rfl) ?_
                    refine lv_aload_n hx hb d_Mo_answer_137 rfl (lv_at hl 4 rfl) ?_
                    refine zk_i (va_runS (As := [.ref qf, .ref bx]) (rest := []) ⟨hx, hb, hml, hown, hts⟩ (t_Ns_same l E G85 qf (np_len ([42] :: lsx.drop kst)) f_qfqs n1_qfqs bx (np_len lsx) f_bxqs n1_bxqs (by omega) (by omega)) (zcS 2 hts w_1405 w_1406 w_33 w_1407 (by decide +kernel) ⟨Nat.le_of_ble_eq_true rfl, Nat.le_of_ble_eq_true rfl⟩) (zc_pre hbase hK hN hQ hG hS) rfl rfl hl.1 rfl (lv_room (Nat.le_of_ble_eq_true rfl)) d_Mo_answer_138 ⟨(by dsimp only [List.length_nil]; omega), (by dsimp only [List.length_nil]; omega)⟩) hS (fun r138 G138 H locs hp138 hG hS => ?_)
                    have hG : zP E G85 H := hp138.2 ▸ hG
                    refine lv_if_ne (tgt := 148) hx hb d_Mo_answer_141 (by decide) (fun c141 => ?_) (fun c141 => ?_)
                    · exact absurd (((zsm_n n2_qfqs n2_bxqs n3_qfqs n3_bxqs)).mp (hp138.1.nz c141)) hnes
                    · have hzw : zb 1 (¬ ([42] :: lsx.drop kst) = lsx) := zb.t hnes
                      refine lv_iconst (v := 1) hx hb d_Mo_answer_144 (by decide) ?_
                      refine lv_goto (tgt := 149) hx hb d_Mo_answer_145 (by decide) ?_
                      refine lv_istore (lv' := [(8, .int 1), (7, .ref qf), (6, .int (-1)), (0, .ref a), (2, .int t), (3, .ref bx), (4, .int (nI k)), (5, .int on9)]) hx hb d_Mo_answer_149 hl (by decide) rfl (fun ls hl => ?_)
                      refine lv_iload_n hx hb d_Mo_answer_151 rfl (lv_at hl 4 rfl) ?_
                      refine lv_iconst (v := 5) hx hb d_Mo_answer_152 (by decide) ?_
                      refine lv_icmp_eq (tgt := 178) hx hb d_Mo_answer_153 (by decide) (fun c153 => ?_) (fun c153 => ?_)
                      · have htot : vfo (rVf rs) lo (zscu se) t 9 Wz ls1 = (0, vtl (rVf rs) lo (zscu se) W8 lsx ([42] :: lsx.drop kst) t) := by rw [← hon1, vfo_tell hlox hvnc hor (by rw [hfdf]; exact Or.inl c153), hfdf]
                        have hbd9 : rBd c2 (vtl (rVf rs) lo (zscu se) W8 lsx ([42] :: lsx.drop kst) t) := by have q := hB; rw [htot] at q; exact q
                        have hPt : rPi c1 c2 ((vfo (rVf rs) lo (zscu se) t 9 Wz ls1).2) 0 = rPi c1 c2 (vtl (rVf rs) lo (zscu se) W8 lsx ([42] :: lsx.drop kst) t) 0 := by rw [htot]
                        have hlet : zLe (W8) (vtl (rVf rs) lo (zscu se) W8 lsx ([42] :: lsx.drop kst) t) := vtl_le _ _ _ _ _ _ _
                        have hpit := rPi_le (n := 0) (m := 0) hc1 hc2 hlet (rPw_le hlet)
                        have hwlt := wln_le hlet
                        refine lv_iconst (v := 0) hx hb d_Mo_answer_178 (by decide) ?_
                        refine lv_istore (lv' := [(5, .int 0), (8, .int 1), (7, .ref qf), (6, .int (-1)), (0, .ref a), (2, .int t), (3, .ref bx), (4, .int (nI k))]) hx hb d_Mo_answer_179 hl (by decide) rfl (fun ls hl => ?_)
                        refine lv_iload hx hb d_Mo_answer_181 (lv_at hl 0 rfl) ?_
                        refine lv_if_eq (tgt := 282) hx hb d_Mo_answer_183 (by decide) (fun c183 => ?_) (fun c183 => ?_)
                        · have b183 : 0 = 0 := (nI_eq (a := 0) (b := 0) (by omega) (by omega)).mp c183
                          refine lv_aload_n hx hb d_Mo_answer_282 rfl (lv_at hl 4 rfl) ?_
                          refine lv_aload_n hx hb d_Mo_answer_283 rfl (lv_at hl 6 rfl) ?_
                          refine lv_aload hx hb d_Mo_answer_284 (lv_at hl 2 rfl) ?_
                          refine lv_iload_n hx hb d_Mo_answer_286 rfl (lv_at hl 5 rfl) ?_
                          refine lv_iload hx hb d_Mo_answer_287 (lv_at hl 1 rfl) ?_
                          have hGo289 := hG
                          refine zk_v (va_runV (As := [.ref bx, .ref qf, .int t, .int 1]) (rest := []) ⟨hx, hb, hml, hown, hts⟩ (t_Mo_held l E G85 a c1 c2 (zrn ro8 qf (0, 0)) lo rs W8 wp th co se tp v19 v20 hstqs bx lsx hn_bxqs qf ([42] :: lsx.drop kst) hnqqs t 1 hzw (fun _ => hzlx) hlof (fun _ => hnvd) hbd9) (zcV 4 hts w_1564 w_1566 wp_57 w_30 w_1567 (by decide +kernel) ⟨Nat.le_of_ble_eq_true rfl, Nat.le_of_ble_eq_true rfl⟩) (zc_preV hbase hK hN hQ hG hS raqs rfl) rfl rfl hl.1 rfl (lv_room (Nat.le_of_ble_eq_true rfl)) d_Mo_answer_289 ⟨(by dsimp only [List.length_nil]; omega), (by dsimp only [List.length_nil]; omega)⟩) hS (fun G289 H locs hp289 hG hS => ?_)
                          obtain ⟨roqh, hstqh, hsqh⟩ := hp289
                          have hfqh : zfr ro zKr G roqh G289 := hfqs.tr hsqh
                          refine zW_more (cells2 := rPi c1 c2 (vtl (rVf rs) lo (zscu se) W8 lsx ([42] :: lsx.drop kst) t) 0 - rPi c1 c2 Wz 0 + 3 * k + 3) (slots2 := rPi c1 c2 (vtl (rVf rs) lo (zscu se) W8 lsx ([42] :: lsx.drop kst) t) 0 - rPi c1 c2 Wz 0 + 260 * k + 260) (by dsimp only [List.length_nil]; omega) (by dsimp only [List.length_nil]; omega) ?_
                          obtain ⟨hqh, eh0qh, eh1qh, eh2qh, hcqh⟩ := id hstqh
                          obtain ⟨raqh, rbqh, ⟨fmqh, rt1qh, rt2qh, rt3qh, rt4qh⟩, rtlqh, ⟨foqh, rn1qh, rn2qh, rn3qh, rn4qh, rn5qh⟩, rrqh, rgqh, rasqh⟩ := id hcqh
                          rw [eh0qh] at raqh
                          obtain ⟨⟨frqh, rm4qh, hfrqh⟩, hn2qh, hRsqh⟩ := id rrqh.1
                          have hn_bxqh : rNm E G289 roqh bx lsx := hn_bxqs.fr hsqh zKr_0
                          obtain ⟨f_bxqh, n1_bxqh, n2_bxqh, n3_bxqh, n4_bxqh, n5_bxqh⟩ := id hn_bxqh
                          have sm_bxqh := n3_bxqh.2
                          have hn_qfqh : rNm E G289 roqh qf ([42] :: lsx.drop kst) := hnqqs.fr hsqh zKr_0
                          obtain ⟨f_qfqh, n1_qfqh, n2_qfqh, n3_qfqh, n4_qfqh, n5_qfqh⟩ := id hn_qfqh
                          have sm_qfqh := n3_qfqh.2
                          refine lv_goto (tgt := 8) hx hb d_Mo_answer_292 (by decide) ?_
                          refine zW_more (cells2 := rPi c1 c2 (vtl (rVf rs) lo (zscu se) W8 lsx ([42] :: lsx.drop kst) t) 0 - rPi c1 c2 Wz 0 + 3 * k + (if (0 : Int32) = 0 then 3 else 0)) (slots2 := rPi c1 c2 (vtl (rVf rs) lo (zscu se) W8 lsx ([42] :: lsx.drop kst) t) 0 - rPi c1 c2 Wz 0 + 260 * k + (if (0 : Int32) = 0 then 260 else 0)) (by rw [if_pos rfl]; omega) (by rw [if_pos rfl]; omega) ?_
                          exact ih G289 k 0 bx lsx (vtl (rVf rs) lo (zscu se) W8 lsx ([42] :: lsx.drop kst) t) roqh _ _ (by first | (rw [if_neg (by decide)]; omega) | (rw [if_pos rfl]; omega)) (hk) (Or.inr ⟨rfl, htot.symm⟩) (hn_bxqh) (hle8.tr hlet) (hstqh) (hfqh) hG hS ls (lv_sub hl [4, 5, 6, 7, 0] rfl)
                        · have b183 : ¬ 0 = 0 := fun q => c183 ((nI_eq (a := 0) (b := 0) (by omega) (by omega)).mpr q)
                          exact absurd rfl c183
                      · refine lv_iload_n hx hb d_Mo_answer_156 rfl (lv_at hl 4 rfl) ?_
                        refine lv_sipush (v := 255) hx hb d_Mo_answer_157 (by decide) ?_
                        refine lv_icmp_eq (tgt := 178) hx hb d_Mo_answer_160 (by decide) (fun c160 => ?_) (fun c160 => ?_)
                        · have htot : vfo (rVf rs) lo (zscu se) t 9 Wz ls1 = (0, vtl (rVf rs) lo (zscu se) W8 lsx ([42] :: lsx.drop kst) t) := by rw [← hon1, vfo_tell hlox hvnc hor (by rw [hfdf]; exact Or.inr (Or.inl c160)), hfdf]
                          have hbd9 : rBd c2 (vtl (rVf rs) lo (zscu se) W8 lsx ([42] :: lsx.drop kst) t) := by have q := hB; rw [htot] at q; exact q
                          have hPt : rPi c1 c2 ((vfo (rVf rs) lo (zscu se) t 9 Wz ls1).2) 0 = rPi c1 c2 (vtl (rVf rs) lo (zscu se) W8 lsx ([42] :: lsx.drop kst) t) 0 := by rw [htot]
                          have hlet : zLe (W8) (vtl (rVf rs) lo (zscu se) W8 lsx ([42] :: lsx.drop kst) t) := vtl_le _ _ _ _ _ _ _
                          have hpit := rPi_le (n := 0) (m := 0) hc1 hc2 hlet (rPw_le hlet)
                          have hwlt := wln_le hlet
                          refine lv_iconst (v := 0) hx hb d_Mo_answer_178 (by decide) ?_
                          refine lv_istore (lv' := [(5, .int 0), (8, .int 1), (7, .ref qf), (6, .int (-1)), (0, .ref a), (2, .int t), (3, .ref bx), (4, .int (nI k))]) hx hb d_Mo_answer_179 hl (by decide) rfl (fun ls hl => ?_)
                          refine lv_iload hx hb d_Mo_answer_181 (lv_at hl 0 rfl) ?_
                          refine lv_if_eq (tgt := 282) hx hb d_Mo_answer_183 (by decide) (fun c183 => ?_) (fun c183 => ?_)
                          · have b183 : 0 = 0 := (nI_eq (a := 0) (b := 0) (by omega) (by omega)).mp c183
                            refine lv_aload_n hx hb d_Mo_answer_282 rfl (lv_at hl 4 rfl) ?_
                            refine lv_aload_n hx hb d_Mo_answer_283 rfl (lv_at hl 6 rfl) ?_
                            refine lv_aload hx hb d_Mo_answer_284 (lv_at hl 2 rfl) ?_
                            refine lv_iload_n hx hb d_Mo_answer_286 rfl (lv_at hl 5 rfl) ?_
                            refine lv_iload hx hb d_Mo_answer_287 (lv_at hl 1 rfl) ?_
                            have hGo289 := hG
                            refine zk_v (va_runV (As := [.ref bx, .ref qf, .int t, .int 1]) (rest := []) ⟨hx, hb, hml, hown, hts⟩ (t_Mo_held l E G85 a c1 c2 (zrn ro8 qf (0, 0)) lo rs W8 wp th co se tp v19 v20 hstqs bx lsx hn_bxqs qf ([42] :: lsx.drop kst) hnqqs t 1 hzw (fun _ => hzlx) hlof (fun _ => hnvd) hbd9) (zcV 4 hts w_1564 w_1566 wp_57 w_30 w_1567 (by decide +kernel) ⟨Nat.le_of_ble_eq_true rfl, Nat.le_of_ble_eq_true rfl⟩) (zc_preV hbase hK hN hQ hG hS raqs rfl) rfl rfl hl.1 rfl (lv_room (Nat.le_of_ble_eq_true rfl)) d_Mo_answer_289 ⟨(by dsimp only [List.length_nil]; omega), (by dsimp only [List.length_nil]; omega)⟩) hS (fun G289 H locs hp289 hG hS => ?_)
                            obtain ⟨roqh, hstqh, hsqh⟩ := hp289
                            have hfqh : zfr ro zKr G roqh G289 := hfqs.tr hsqh
                            refine zW_more (cells2 := rPi c1 c2 (vtl (rVf rs) lo (zscu se) W8 lsx ([42] :: lsx.drop kst) t) 0 - rPi c1 c2 Wz 0 + 3 * k + 3) (slots2 := rPi c1 c2 (vtl (rVf rs) lo (zscu se) W8 lsx ([42] :: lsx.drop kst) t) 0 - rPi c1 c2 Wz 0 + 260 * k + 260) (by dsimp only [List.length_nil]; omega) (by dsimp only [List.length_nil]; omega) ?_
                            obtain ⟨hqh, eh0qh, eh1qh, eh2qh, hcqh⟩ := id hstqh
                            obtain ⟨raqh, rbqh, ⟨fmqh, rt1qh, rt2qh, rt3qh, rt4qh⟩, rtlqh, ⟨foqh, rn1qh, rn2qh, rn3qh, rn4qh, rn5qh⟩, rrqh, rgqh, rasqh⟩ := id hcqh
                            rw [eh0qh] at raqh
                            obtain ⟨⟨frqh, rm4qh, hfrqh⟩, hn2qh, hRsqh⟩ := id rrqh.1
                            have hn_bxqh : rNm E G289 roqh bx lsx := hn_bxqs.fr hsqh zKr_0
                            obtain ⟨f_bxqh, n1_bxqh, n2_bxqh, n3_bxqh, n4_bxqh, n5_bxqh⟩ := id hn_bxqh
                            have sm_bxqh := n3_bxqh.2
                            have hn_qfqh : rNm E G289 roqh qf ([42] :: lsx.drop kst) := hnqqs.fr hsqh zKr_0
                            obtain ⟨f_qfqh, n1_qfqh, n2_qfqh, n3_qfqh, n4_qfqh, n5_qfqh⟩ := id hn_qfqh
                            have sm_qfqh := n3_qfqh.2
                            refine lv_goto (tgt := 8) hx hb d_Mo_answer_292 (by decide) ?_
                            refine zW_more (cells2 := rPi c1 c2 (vtl (rVf rs) lo (zscu se) W8 lsx ([42] :: lsx.drop kst) t) 0 - rPi c1 c2 Wz 0 + 3 * k + (if (0 : Int32) = 0 then 3 else 0)) (slots2 := rPi c1 c2 (vtl (rVf rs) lo (zscu se) W8 lsx ([42] :: lsx.drop kst) t) 0 - rPi c1 c2 Wz 0 + 260 * k + (if (0 : Int32) = 0 then 260 else 0)) (by rw [if_pos rfl]; omega) (by rw [if_pos rfl]; omega) ?_
                            exact ih G289 k 0 bx lsx (vtl (rVf rs) lo (zscu se) W8 lsx ([42] :: lsx.drop kst) t) roqh _ _ (by first | (rw [if_neg (by decide)]; omega) | (rw [if_pos rfl]; omega)) (hk) (Or.inr ⟨rfl, htot.symm⟩) (hn_bxqh) (hle8.tr hlet) (hstqh) (hfqh) hG hS ls (lv_sub hl [4, 5, 6, 7, 0] rfl)
                          · have b183 : ¬ 0 = 0 := fun q => c183 ((nI_eq (a := 0) (b := 0) (by omega) (by omega)).mpr q)
                            exact absurd rfl c183
                        · refine lv_aload_n hx hb d_Mo_answer_163 rfl (lv_at hl 3 rfl) ?_
                          refine lv_aload hx hb d_Mo_answer_164 (lv_at hl 1 rfl) ?_
                          refine lv_iconst (v := 0) hx hb d_Mo_answer_166 (by decide) ?_
                          refine zi_as (y := nI (np_pos ([42] :: lsx.drop kst) 0)) (by rw [np_pos0]; rfl) ?_
                          refine lv_iconst (v := 5) hx hb d_Mo_answer_167 (by decide) ?_
                          refine zk_i (va_runV (As := [.ref qf, .int (nI (np_pos ([42] :: lsx.drop kst) 0)), .int 5]) (rest := []) ⟨hx, hb, hml, hown, hts⟩ (t_Mo_has_s l hstqs 0 5 qf ([42] :: lsx.drop kst) hnqqs (Nat.zero_le _)) (zcV 3 hts w_1408 w_1410 wp_30 w_30 w_1411 (by decide +kernel) ⟨Nat.le_of_ble_eq_true rfl, Nat.le_of_ble_eq_true rfl⟩) (zc_preV hbase hK hN hQ hG hS raqs rfl) rfl rfl hl.1 rfl (lv_room (Nat.le_of_ble_eq_true rfl)) d_Mo_answer_168 ⟨(by dsimp only [List.length_nil]; omega), (by dsimp only [List.length_nil]; omega)⟩) hS (fun r168 G168 H locs hp168 hG hS => ?_)
                          have hG : zP E G85 H := hp168.2 ▸ hG
                          refine lv_if_eq (tgt := 178) hx hb d_Mo_answer_171 (by decide) (fun c171 => ?_) (fun c171 => ?_)
                          · have htot : vfo (rVf rs) lo (zscu se) t 9 Wz ls1 = (0, vtl (rVf rs) lo (zscu se) W8 lsx ([42] :: lsx.drop kst) t) := by rw [← hon1, vfo_tell hlox hvnc hor (by rw [hfdf]; exact Or.inr (Or.inr (Classical.byContradiction (fun z => hp168.1.z c171 z)))), hfdf]
                            have hbd9 : rBd c2 (vtl (rVf rs) lo (zscu se) W8 lsx ([42] :: lsx.drop kst) t) := by have q := hB; rw [htot] at q; exact q
                            have hPt : rPi c1 c2 ((vfo (rVf rs) lo (zscu se) t 9 Wz ls1).2) 0 = rPi c1 c2 (vtl (rVf rs) lo (zscu se) W8 lsx ([42] :: lsx.drop kst) t) 0 := by rw [htot]
                            have hlet : zLe (W8) (vtl (rVf rs) lo (zscu se) W8 lsx ([42] :: lsx.drop kst) t) := vtl_le _ _ _ _ _ _ _
                            have hpit := rPi_le (n := 0) (m := 0) hc1 hc2 hlet (rPw_le hlet)
                            have hwlt := wln_le hlet
                            refine lv_iconst (v := 0) hx hb d_Mo_answer_178 (by decide) ?_
                            refine lv_istore (lv' := [(5, .int 0), (8, .int 1), (7, .ref qf), (6, .int (-1)), (0, .ref a), (2, .int t), (3, .ref bx), (4, .int (nI k))]) hx hb d_Mo_answer_179 hl (by decide) rfl (fun ls hl => ?_)
                            refine lv_iload hx hb d_Mo_answer_181 (lv_at hl 0 rfl) ?_
                            refine lv_if_eq (tgt := 282) hx hb d_Mo_answer_183 (by decide) (fun c183 => ?_) (fun c183 => ?_)
                            · have b183 : 0 = 0 := (nI_eq (a := 0) (b := 0) (by omega) (by omega)).mp c183
                              refine lv_aload_n hx hb d_Mo_answer_282 rfl (lv_at hl 4 rfl) ?_
                              refine lv_aload_n hx hb d_Mo_answer_283 rfl (lv_at hl 6 rfl) ?_
                              refine lv_aload hx hb d_Mo_answer_284 (lv_at hl 2 rfl) ?_
                              refine lv_iload_n hx hb d_Mo_answer_286 rfl (lv_at hl 5 rfl) ?_
                              refine lv_iload hx hb d_Mo_answer_287 (lv_at hl 1 rfl) ?_
                              have hGo289 := hG
                              refine zk_v (va_runV (As := [.ref bx, .ref qf, .int t, .int 1]) (rest := []) ⟨hx, hb, hml, hown, hts⟩ (t_Mo_held l E G85 a c1 c2 (zrn ro8 qf (0, 0)) lo rs W8 wp th co se tp v19 v20 hstqs bx lsx hn_bxqs qf ([42] :: lsx.drop kst) hnqqs t 1 hzw (fun _ => hzlx) hlof (fun _ => hnvd) hbd9) (zcV 4 hts w_1564 w_1566 wp_57 w_30 w_1567 (by decide +kernel) ⟨Nat.le_of_ble_eq_true rfl, Nat.le_of_ble_eq_true rfl⟩) (zc_preV hbase hK hN hQ hG hS raqs rfl) rfl rfl hl.1 rfl (lv_room (Nat.le_of_ble_eq_true rfl)) d_Mo_answer_289 ⟨(by dsimp only [List.length_nil]; omega), (by dsimp only [List.length_nil]; omega)⟩) hS (fun G289 H locs hp289 hG hS => ?_)
                              obtain ⟨roqh, hstqh, hsqh⟩ := hp289
                              have hfqh : zfr ro zKr G roqh G289 := hfqs.tr hsqh
                              refine zW_more (cells2 := rPi c1 c2 (vtl (rVf rs) lo (zscu se) W8 lsx ([42] :: lsx.drop kst) t) 0 - rPi c1 c2 Wz 0 + 3 * k + 3) (slots2 := rPi c1 c2 (vtl (rVf rs) lo (zscu se) W8 lsx ([42] :: lsx.drop kst) t) 0 - rPi c1 c2 Wz 0 + 260 * k + 260) (by dsimp only [List.length_nil]; omega) (by dsimp only [List.length_nil]; omega) ?_
                              obtain ⟨hqh, eh0qh, eh1qh, eh2qh, hcqh⟩ := id hstqh
                              obtain ⟨raqh, rbqh, ⟨fmqh, rt1qh, rt2qh, rt3qh, rt4qh⟩, rtlqh, ⟨foqh, rn1qh, rn2qh, rn3qh, rn4qh, rn5qh⟩, rrqh, rgqh, rasqh⟩ := id hcqh
                              rw [eh0qh] at raqh
                              obtain ⟨⟨frqh, rm4qh, hfrqh⟩, hn2qh, hRsqh⟩ := id rrqh.1
                              have hn_bxqh : rNm E G289 roqh bx lsx := hn_bxqs.fr hsqh zKr_0
                              obtain ⟨f_bxqh, n1_bxqh, n2_bxqh, n3_bxqh, n4_bxqh, n5_bxqh⟩ := id hn_bxqh
                              have sm_bxqh := n3_bxqh.2
                              have hn_qfqh : rNm E G289 roqh qf ([42] :: lsx.drop kst) := hnqqs.fr hsqh zKr_0
                              obtain ⟨f_qfqh, n1_qfqh, n2_qfqh, n3_qfqh, n4_qfqh, n5_qfqh⟩ := id hn_qfqh
                              have sm_qfqh := n3_qfqh.2
                              refine lv_goto (tgt := 8) hx hb d_Mo_answer_292 (by decide) ?_
                              refine zW_more (cells2 := rPi c1 c2 (vtl (rVf rs) lo (zscu se) W8 lsx ([42] :: lsx.drop kst) t) 0 - rPi c1 c2 Wz 0 + 3 * k + (if (0 : Int32) = 0 then 3 else 0)) (slots2 := rPi c1 c2 (vtl (rVf rs) lo (zscu se) W8 lsx ([42] :: lsx.drop kst) t) 0 - rPi c1 c2 Wz 0 + 260 * k + (if (0 : Int32) = 0 then 260 else 0)) (by rw [if_pos rfl]; omega) (by rw [if_pos rfl]; omega) ?_
                              exact ih G289 k 0 bx lsx (vtl (rVf rs) lo (zscu se) W8 lsx ([42] :: lsx.drop kst) t) roqh _ _ (by first | (rw [if_neg (by decide)]; omega) | (rw [if_pos rfl]; omega)) (hk) (Or.inr ⟨rfl, htot.symm⟩) (hn_bxqh) (hle8.tr hlet) (hstqh) (hfqh) hG hS ls (lv_sub hl [4, 5, 6, 7, 0] rfl)
                            · have b183 : ¬ 0 = 0 := fun q => c183 ((nI_eq (a := 0) (b := 0) (by omega) (by omega)).mpr q)
                              exact absurd rfl c183
                          · have hy5 : (rVf rs) ([42] :: lsx.drop kst) 5 ≠ [] := hp168.1.nz c171
                            obtain ⟨e5, he5, e51, e52⟩ := rVf_ne.mp hy5
                            obtain ⟨j5, hj5, ej5⟩ := re_ix he5
                            rw [← ej5] at e51 e52
                            have hv5 := rV5 hj5 e51 e52 (hcn _)
                            have hnx5 : vfo (rVf rs) lo (zscu se) t n9 (vpr (rVf rs) lo (zscu se) (wad 1 W8 (vrw (rVf rs) lsx ([42] :: lsx.drop kst) 5)) (vov (rVf rs) lo lsx)) (vtg 5 (rB (re rs j5))) = vfo (rVf rs) lo (zscu se) t 9 Wz ls1 := by
                              rw [← hon1, vfo_next hlox hvnc hor c153 c160 (by rw [hfdf]; exact hv5), hfdf, zif_n hnth]; rfl
                            have hlev : zLe (vpr (rVf rs) lo (zscu se) (wad 1 W8 (vrw (rVf rs) lsx ([42] :: lsx.drop kst) 5)) (vov (rVf rs) lo lsx)) (vfo (rVf rs) lo (zscu se) t 9 Wz ls1).2 := by rw [← hnx5]; exact vfo_le _ _ _
                            have hbv := hB.le hc2 hlev
                            have hpv := rPi_le (n := 0) (m := 0) hc1 hc2 hlev (rPw_le hlev)
                            have hlef : zLe (W8) (wad 1 W8 (vrw (rVf rs) lsx ([42] :: lsx.drop kst) 5)) := zLe_wad _ _ _
                            have hpif := rPi_le (n := 0) (m := 0) hc1 hc2 hlef (rPw_le hlef)
                            have hwlf := wln_le hlef
                            have hleg : zLe (wad 1 W8 (vrw (rVf rs) lsx ([42] :: lsx.drop kst) 5)) (vpr (rVf rs) lo (zscu se) (wad 1 W8 (vrw (rVf rs) lsx ([42] :: lsx.drop kst) 5)) (vov (rVf rs) lo lsx)) := vpr_le _ _ _ _ _
                            have hpig := rPi_le (n := 0) (m := 0) hc1 hc2 hleg (rPw_le hleg)
                            have hwlg := wln_le hleg
                            have hb1f := hbv.le hc2 hleg
                            refine lv_iconst (v := 1) hx hb d_Mo_answer_174 (by decide) ?_
                            refine lv_goto (tgt := 179) hx hb d_Mo_answer_175 (by decide) ?_
                            refine lv_istore (lv' := [(5, .int 1), (8, .int 1), (7, .ref qf), (6, .int (-1)), (0, .ref a), (2, .int t), (3, .ref bx), (4, .int (nI k))]) hx hb d_Mo_answer_179 hl (by decide) rfl (fun ls hl => ?_)
                            refine lv_iload hx hb d_Mo_answer_181 (lv_at hl 0 rfl) ?_
                            refine lv_if_eq (tgt := 282) hx hb d_Mo_answer_183 (by decide) (fun c183 => ?_) (fun c183 => ?_)
                            · have b183 : 1 = 0 := (nI_eq (a := 1) (b := 0) (by omega) (by omega)).mp c183
                              exact absurd c183 (by decide)
                            · have b183 : ¬ 1 = 0 := fun q => c183 ((nI_eq (a := 1) (b := 0) (by omega) (by omega)).mpr q)
                              refine lv_aload_n hx hb d_Mo_answer_186 rfl (lv_at hl 4 rfl) ?_
                              refine lv_aload_n hx hb d_Mo_answer_187 rfl (lv_at hl 6 rfl) ?_
                              refine lv_aload hx hb d_Mo_answer_188 (lv_at hl 2 rfl) ?_
                              refine lv_iconst (v := 5) hx hb d_Mo_answer_190 (by decide) ?_
                              have hGo191 := hG
                              refine zk_v (va_runV (As := [.ref bx, .ref qf, .int 5]) (rest := []) ⟨hx, hb, hml, hown, hts⟩ (t_Mo_first l E G85 a c1 c2 (zrn ro8 qf (0, 0)) lo rs W8 wp th co se tp v19 v20 hstqs bx lsx hn_bxqs qf ([42] :: lsx.drop kst) hnqqs 5 (by decide) (fun _ => hnvd) hb1f.1) (zcV 3 hts w_1560 w_1562 wp_56 w_30 w_1563 (by decide +kernel) ⟨Nat.le_of_ble_eq_true rfl, Nat.le_of_ble_eq_true rfl⟩) (zc_preV hbase hK hN hQ hG hS raqs rfl) rfl rfl hl.1 rfl (lv_room (Nat.le_of_ble_eq_true rfl)) d_Mo_answer_191 ⟨(by dsimp only [List.length_nil]; omega), (by dsimp only [List.length_nil]; omega)⟩) hS (fun G191 H locs hp191 hG hS => ?_)
                              obtain ⟨roq1, hstq1, hsq1⟩ := hp191
                              have hfq1 : zfr ro zKr G roq1 G191 := hfqs.tr hsq1
                              refine zW_more (cells2 := rPi c1 c2 (wad 1 W8 (vrw (rVf rs) lsx ([42] :: lsx.drop kst) 5)) 0 - rPi c1 c2 Wz 0 + 3 * k + 3) (slots2 := rPi c1 c2 (wad 1 W8 (vrw (rVf rs) lsx ([42] :: lsx.drop kst) 5)) 0 - rPi c1 c2 Wz 0 + 260 * k + 260) (by dsimp only [List.length_nil]; omega) (by dsimp only [List.length_nil]; omega) ?_
                              obtain ⟨hq1, eh0q1, eh1q1, eh2q1, hcq1⟩ := id hstq1
                              obtain ⟨raq1, rbq1, ⟨fmq1, rt1q1, rt2q1, rt3q1, rt4q1⟩, rtlq1, ⟨foq1, rn1q1, rn2q1, rn3q1, rn4q1, rn5q1⟩, rrq1, rgq1, rasq1⟩ := id hcq1
                              rw [eh0q1] at raq1
                              obtain ⟨⟨frq1, rm4q1, hfrq1⟩, hn2q1, hRsq1⟩ := id rrq1.1
                              have hn_bxq1 : rNm E G191 roq1 bx lsx := hn_bxqs.fr hsq1 zKr_0
                              obtain ⟨f_bxq1, n1_bxq1, n2_bxq1, n3_bxq1, n4_bxq1, n5_bxq1⟩ := id hn_bxq1
                              have sm_bxq1 := n3_bxq1.2
                              have hn_qfq1 : rNm E G191 roq1 qf ([42] :: lsx.drop kst) := hnqqs.fr hsq1 zKr_0
                              obtain ⟨f_qfq1, n1_qfq1, n2_qfq1, n3_qfq1, n4_qfq1, n5_qfq1⟩ := id hn_qfq1
                              have sm_qfq1 := n3_qfq1.2
                              refine lv_iload hx hb d_Mo_answer_194 (lv_at hl 1 rfl) ?_
                              refine lv_if_eq (tgt := 215) hx hb d_Mo_answer_196 (by decide) (fun c196 => ?_) (fun c196 => ?_)
                              · have b196 : 1 = 0 := (nI_eq (a := 1) (b := 0) (by omega) (by omega)).mp c196
                                exact absurd c196 (by decide)
                              · have b196 : ¬ 1 = 0 := fun q => c196 ((nI_eq (a := 1) (b := 0) (by omega) (by omega)).mpr q)
                                refine lv_aload_n hx hb d_Mo_answer_199 rfl (lv_at hl 4 rfl) ?_
                                refine zg_get (ci := 11) (C := "ZoneAnswersModel") (T := T_Mo) (N := 21) hx hb hts zi_Mo hown hK hG raq1 rfl 17 (by decide) (hts _ w_1298) (fun _ h9 => h9) rfl d_Mo_answer_200 ?_
                                refine lv_if_eq (tgt := 215) hx hb d_Mo_answer_203 (by decide) (fun c203 => ?_) (fun c203 => ?_)
                                · have hsc := zscu_0 c203
                                  refine lv_iinc (v := nI (k + 1)) (lv' := [(4, .int (nI (k + 1))), (5, .int 1), (8, .int 1), (7, .ref qf), (6, .int (-1)), (0, .ref a), (2, .int t), (3, .ref bx)]) hx hb d_Mo_answer_215 hl (k := 7) rfl (nI_add k 1) (by decide) rfl (fun ls hl => ?_)
                                  have hn9k : 9 - (k + 1) = n9 := by omega
                                  have hnx6 : vfo (rVf rs) lo (zscu se) t n9 (wad 1 W8 (vrw (rVf rs) lsx ([42] :: lsx.drop kst) 5)) (vtg 5 (rB (re rs j5))) = vfo (rVf rs) lo (zscu se) t 9 Wz ls1 := by rw [show wad 1 W8 (vrw (rVf rs) lsx ([42] :: lsx.drop kst) 5) = vpr (rVf rs) lo (zscu se) (wad 1 W8 (vrw (rVf rs) lsx ([42] :: lsx.drop kst) 5)) (vov (rVf rs) lo lsx) from by rw [hsc, vpr_f]]; exact hnx5
                                  have hlez : zLe Wz (wad 1 W8 (vrw (rVf rs) lsx ([42] :: lsx.drop kst) 5)) := hle8.tr (hlef)
                                  refine lv_iconst (v := 0) hx hb d_Mo_answer_218 (by decide) ?_
                                  refine zi_as (y := nI 0) (nI_0.symm) ?_
                                  refine lv_istore (lv' := [(9, .int (nI 0)), (4, .int (nI (k + 1))), (5, .int 1), (8, .int 1), (7, .ref qf), (6, .int (-1)), (0, .ref a), (2, .int t), (3, .ref bx)]) hx hb d_Mo_answer_219 hl (by decide) rfl (fun ls hl => ?_)
                                  have loop221 : ∀ (N : Nat) (i : Nat) (xo : Nat) (H : Heap) (locs : List Loc), (rs.length - i) < N → (i ≤ rs.length) → ((xo = bx ∧ ∀ j, j < i → ¬ (rT (re rs j) = 5 ∧ rM (re rs j) = [42] :: lsx.drop kst)) ∨ ∃ j, j < i ∧ (rT (re rs j) = 5 ∧ rM (re rs j) = [42] :: lsx.drop kst) ∧ xo = rD (re rs j)) → zP E G191 H → zg_S (zc_b E) s.heap H locs → ∀ (ls : Array Slot), lv_has ls 10 [(0, .ref a), (2, .int t), (3, .ref xo), (4, .int (nI (k + 1))), (5, .int 1), (7, .ref qf), (9, .int (nI i))] → W p l e (rm_Mo_answer (rPi c1 c2 ((vfo (rVf rs) lo (zscu se) t 9 Wz ls1).2) 0 - rPi c1 c2 Wz 0 + 40) (rPi c1 c2 ((vfo (rVf rs) lo (zscu se) t 9 Wz ls1).2) 0 - rPi c1 c2 Wz 0 + 2700)) s m args below meth c H locs (rPi c1 c2 (wad 1 W8 (vrw (rVf rs) lsx ([42] :: lsx.drop kst) 5)) 0 - rPi c1 c2 Wz 0 + 3 * k + 3) (rPi c1 c2 (wad 1 W8 (vrw (rVf rs) lsx ([42] :: lsx.drop kst) 5)) 0 - rPi c1 c2 Wz 0 + 260 * k + 260) Q (F0 m 221 ls []) := by
                                    intro N
                                    induction N with
                                    | zero =>
                                      intro i xo H locs hlt
                                      exact absurd hlt (Nat.not_lt_zero _)
                                    | succ N ih =>
                                      intro i xo H locs hlt hi hxo hG hS ls hl
                                      refine lv_iload hx hb d_Mo_answer_221 (lv_at hl 6 rfl) ?_
                                      refine lv_aload_n hx hb d_Mo_answer_223 rfl (lv_at hl 0 rfl) ?_
                                      refine zg_get (ci := 11) (C := "ZoneAnswersModel") (T := T_Mo) (N := 21) hx hb hts zi_Mo hown hK hG raq1 rfl 5 (by decide) (hts _ w_1286) (fun _ h9 => h9) rfl d_Mo_answer_224 ?_
                                      refine lv_icmp_ge (tgt := 279) hx hb d_Mo_answer_227 (by decide) (fun c227 => ?_) (fun c227 => ?_)
                                      · have b227 : rs.length ≤ i := (nI_leI (a := rs.length) (b := i) (by omega) (by omega)).mp c227
                                        obtain ⟨j7, hj7, ⟨e71, e72⟩, e73⟩ := hxo.resolve_left (fun z => z.2 j5 (by omega) ⟨e51, e52⟩)
                                        have hj7r : j7 < rs.length := by omega
                                        have hv7 := rV5 hj7r e71 e72 (hcn _)
                                        rw [hv5] at hv7
                                        have eB7 : rB (re rs j5) = rB (re rs j7) := congrArg (fun z : List (Int32 × List Int32) => (z.headD (0, [])).2) hv7
                                        have hnn7 := hstq1.dn hj7r (Or.inr e71)
                                        rw [e71, ← eB7, ← e73] at hnn7
                                        refine lv_goto (tgt := 292) hx hb d_Mo_answer_279 (by decide) ?_
                                        refine lv_goto (tgt := 8) hx hb d_Mo_answer_292 (by decide) ?_
                                        refine zW_more (cells2 := rPi c1 c2 (wad 1 W8 (vrw (rVf rs) lsx ([42] :: lsx.drop kst) 5)) 0 - rPi c1 c2 Wz 0 + 3 * (k + 1) + (if (1 : Int32) = 0 then 3 else 0)) (slots2 := rPi c1 c2 (wad 1 W8 (vrw (rVf rs) lsx ([42] :: lsx.drop kst) 5)) 0 - rPi c1 c2 Wz 0 + 260 * (k + 1) + (if (1 : Int32) = 0 then 260 else 0)) (by rw [if_neg (by decide)]; omega) (by rw [if_neg (by decide)]; omega) ?_
                                        exact ih8 G191 (k + 1) 1 xo (vtg 5 (rB (re rs j5))) (wad 1 W8 (vrw (rVf rs) lsx ([42] :: lsx.drop kst) 5)) roq1 _ _ (by first | (rw [if_neg (by decide)]; omega) | (rw [if_pos rfl]; omega)) (by omega) (Or.inl ⟨rfl, by rw [hn9k]; exact hnx6⟩) (hnn7) (hlez) (hstq1) (hfq1) hG hS ls (lv_sub hl [0, 1, 2, 3, 4] rfl)
                                      · have b227 : ¬ rs.length ≤ i := fun q => c227 ((nI_leI (a := rs.length) (b := i) (by omega) (by omega)).mpr q)
                                        have hin : i < rs.length := by omega
                                        obtain ⟨hr1, ⟨nf, hr2, hr3, hr4, hr5⟩, df, hr6, hr7, hr8⟩ := hRsq1 _ (re_mem hin)
                                        have sm := hr4.2
                                        refine lv_aload_n hx hb d_Mo_answer_230 rfl (lv_at hl 0 rfl) ?_
                                        refine zg_get (ci := 11) (C := "ZoneAnswersModel") (T := T_Mo) (N := 21) hx hb hts zi_Mo hown hK hG raq1 rfl 4 (by decide) (hts _ w_1285) (fun _ h9 => h9) rfl d_Mo_answer_231 ?_
                                        refine lv_iload hx hb d_Mo_answer_234 (lv_at hl 6 rfl) ?_
                                        refine zg_aldq hx hb hK hG 4 rm4q1 rfl (vp_in_nI (by omega) (by omega)) d_Mo_answer_236 ?_
                                        refine zr_as (y := frq1 i) (by rw [zi_n _ (by omega)]) ?_
                                        refine zr_some (a := rA (re rs i)) (hfrq1 i hin) ?_
                                        refine zg_get (ci := 12) (C := "ZoneAnswersModel$Rec") (T := T_Re) (N := 5) hx hb hts zi_Re hown hK hG hr1 rfl 3 (by decide) (hts _ w_1268) (fun _ h9 => h9) rfl d_Mo_answer_237 ?_
                                        refine lv_iconst (v := 5) hx hb d_Mo_answer_240 (by decide) ?_
                                        refine lv_icmp_ne (tgt := 273) hx hb d_Mo_answer_241 (by decide) (fun c241 => ?_) (fun c241 => ?_)
                                        · refine lv_iinc (v := nI (i + 1)) (lv' := [(9, .int (nI (i + 1))), (0, .ref a), (2, .int t), (3, .ref xo), (4, .int (nI (k + 1))), (5, .int 1), (7, .ref qf)]) hx hb d_Mo_answer_273 hl (k := 6) rfl (nI_add i 1) (by decide) rfl (fun ls hl => ?_)
                                          refine lv_goto (tgt := 221) hx hb d_Mo_answer_276 (by decide) ?_
                                          exact ih (i + 1) xo _ _ (by omega) (by omega) (hxo.elim (fun z => Or.inl ⟨z.1, fun j hj => by rcases Nat.lt_or_ge j i with q1 | q1; exact z.2 j q1; rw [show j = i by omega]; first | exact fun w => c241 w.1 | exact fun w => hp256.1.z c259 ((zsm_n hr3 n2_qfq1 hr4 n3_qfq1).mpr w.2)⟩) (fun ⟨j, j1, j2⟩ => Or.inr ⟨j, by omega, j2⟩)) hG hS ls (lv_sub hl [1, 2, 3, 4, 5, 6, 0] rfl)
                                        · refine lv_aload_n hx hb d_Mo_answer_244 rfl (lv_at hl 0 rfl) ?_
                                          refine zg_get (ci := 11) (C := "ZoneAnswersModel") (T := T_Mo) (N := 21) hx hb hts zi_Mo hown hK hG raq1 rfl 4 (by decide) (hts _ w_1285) (fun _ h9 => h9) rfl d_Mo_answer_245 ?_
                                          refine lv_iload hx hb d_Mo_answer_248 (lv_at hl 6 rfl) ?_
                                          refine zg_aldq hx hb hK hG 4 rm4q1 rfl (vp_in_nI (by omega) (by omega)) d_Mo_answer_250 ?_
                                          refine zr_as (y := frq1 i) (by rw [zi_n _ (by omega)]) ?_
                                          refine zr_some (a := rA (re rs i)) (hfrq1 i hin) ?_
                                          refine zg_get (ci := 12) (C := "ZoneAnswersModel$Rec") (T := T_Re) (N := 5) hx hb hts zi_Re hown hK hG hr1 rfl 0 (by decide) (hts _ w_1265) (fun _ h9 => h9) rfl d_Mo_answer_251 ?_
                                          refine lv_aload hx hb d_Mo_answer_254 (lv_at hl 5 rfl) ?_
                                          refine zk_i (va_runS (As := [.ref (rN (re rs i)), .ref qf]) (rest := []) ⟨hx, hb, hml, hown, hts⟩ (t_Ns_same l E G191 (rN (re rs i)) (np_len (rM (re rs i))) nf hr2 qf (np_len ([42] :: lsx.drop kst)) f_qfq1 n1_qfq1 (by omega) (by omega)) (zcS 2 hts w_1405 w_1406 w_33 w_1407 (by decide +kernel) ⟨Nat.le_of_ble_eq_true rfl, Nat.le_of_ble_eq_true rfl⟩) (zc_pre hbase hK hN hQ hG hS) rfl rfl hl.1 rfl (lv_room (Nat.le_of_ble_eq_true rfl)) d_Mo_answer_256 ⟨(by dsimp only [List.length_nil]; omega), (by dsimp only [List.length_nil]; omega)⟩) hS (fun r256 G256 H locs hp256 hG hS => ?_)
                                          have hG : zP E G191 H := hp256.2 ▸ hG
                                          refine lv_if_eq (tgt := 273) hx hb d_Mo_answer_259 (by decide) (fun c259 => ?_) (fun c259 => ?_)
                                          · refine lv_iinc (v := nI (i + 1)) (lv' := [(9, .int (nI (i + 1))), (0, .ref a), (2, .int t), (3, .ref xo), (4, .int (nI (k + 1))), (5, .int 1), (7, .ref qf)]) hx hb d_Mo_answer_273 hl (k := 6) rfl (nI_add i 1) (by decide) rfl (fun ls hl => ?_)
                                            refine lv_goto (tgt := 221) hx hb d_Mo_answer_276 (by decide) ?_
                                            exact ih (i + 1) xo _ _ (by omega) (by omega) (hxo.elim (fun z => Or.inl ⟨z.1, fun j hj => by rcases Nat.lt_or_ge j i with q1 | q1; exact z.2 j q1; rw [show j = i by omega]; first | exact fun w => c241 w.1 | exact fun w => hp256.1.z c259 ((zsm_n hr3 n2_qfq1 hr4 n3_qfq1).mpr w.2)⟩) (fun ⟨j, j1, j2⟩ => Or.inr ⟨j, by omega, j2⟩)) hG hS ls (lv_sub hl [1, 2, 3, 4, 5, 6, 0] rfl)
                                          · refine lv_aload_n hx hb d_Mo_answer_262 rfl (lv_at hl 0 rfl) ?_
                                            refine zg_get (ci := 11) (C := "ZoneAnswersModel") (T := T_Mo) (N := 21) hx hb hts zi_Mo hown hK hG raq1 rfl 4 (by decide) (hts _ w_1285) (fun _ h9 => h9) rfl d_Mo_answer_263 ?_
                                            refine lv_iload hx hb d_Mo_answer_266 (lv_at hl 6 rfl) ?_
                                            refine zg_aldq hx hb hK hG 4 rm4q1 rfl (vp_in_nI (by omega) (by omega)) d_Mo_answer_268 ?_
                                            refine zr_as (y := frq1 i) (by rw [zi_n _ (by omega)]) ?_
                                            refine zr_some (a := rA (re rs i)) (hfrq1 i hin) ?_
                                            refine zg_get (ci := 12) (C := "ZoneAnswersModel$Rec") (T := T_Re) (N := 5) hx hb hts zi_Re hown hK hG hr1 rfl 1 (by decide) (hts _ w_1266) (fun _ h9 => h9) rfl d_Mo_answer_269 ?_
                                            refine lv_astore_n (lv' := [(3, .ref (rD (re rs i))), (0, .ref a), (2, .int t), (4, .int (nI (k + 1))), (5, .int 1), (7, .ref qf), (9, .int (nI i))]) hx hb d_Mo_answer_272 rfl hl (by decide) rfl (fun ls hl => ?_)
                                            refine lv_iinc (v := nI (i + 1)) (lv' := [(9, .int (nI (i + 1))), (3, .ref (rD (re rs i))), (0, .ref a), (2, .int t), (4, .int (nI (k + 1))), (5, .int 1), (7, .ref qf)]) hx hb d_Mo_answer_273 hl (k := 6) rfl (nI_add i 1) (by decide) rfl (fun ls hl => ?_)
                                            refine lv_goto (tgt := 221) hx hb d_Mo_answer_276 (by decide) ?_
                                            exact ih (i + 1) (rD (re rs i)) _ _ (by omega) (by omega) (Or.inr ⟨i, by omega, ⟨c241, (zsm_n hr3 n2_qfq1 hr4 n3_qfq1).mp (hp256.1.nz c259)⟩, rfl⟩) hG hS ls (lv_sub hl [2, 3, 1, 4, 5, 6, 0] rfl)
                                  exact loop221 _ 0 bx _ _ (Nat.lt_succ_self _) (Nat.zero_le _) (Or.inl ⟨rfl, fun j hj => absurd hj (Nat.not_lt_zero j)⟩) hG hS ls (lv_sub hl [6, 7, 8, 1, 2, 4, 0] rfl)
                                · have hsc := zscu_1 c203
                                  have hVt : vpr (rVf rs) lo (zscu se) (wad 1 W8 (vrw (rVf rs) lsx ([42] :: lsx.drop kst) 5)) (vov (rVf rs) lo lsx) = vpr (rVf rs) lo true (wad 1 W8 (vrw (rVf rs) lsx ([42] :: lsx.drop kst) 5)) (vov (rVf rs) lo lsx) := by rw [hsc]
                                  have hbv2 : rBd c2 (vpr (rVf rs) lo true (wad 1 W8 (vrw (rVf rs) lsx ([42] :: lsx.drop kst) 5)) (vov (rVf rs) lo lsx)) := by rw [← hVt]; exact hbv
                                  have hpv2 : rPi c1 c2 (vpr (rVf rs) lo true (wad 1 W8 (vrw (rVf rs) lsx ([42] :: lsx.drop kst) 5)) (vov (rVf rs) lo lsx)) 0 ≤ rPi c1 c2 ((vfo (rVf rs) lo (zscu se) t 9 Wz ls1).2) 0 := by rw [← hVt]; exact hpv
                                  have hpig2 : rPi c1 c2 (wad 1 W8 (vrw (rVf rs) lsx ([42] :: lsx.drop kst) 5)) 0 ≤ rPi c1 c2 (vpr (rVf rs) lo true (wad 1 W8 (vrw (rVf rs) lsx ([42] :: lsx.drop kst) 5)) (vov (rVf rs) lo lsx)) 0 := by rw [← hVt]; exact hpig
                                  refine lv_aload_n hx hb d_Mo_answer_206 rfl (lv_at hl 4 rfl) ?_
                                  refine lv_aload_n hx hb d_Mo_answer_207 rfl (lv_at hl 4 rfl) ?_
                                  refine lv_aload_n hx hb d_Mo_answer_208 rfl (lv_at hl 6 rfl) ?_
                                  have hGo209 := hG
                                  refine zk_q (va_runV (As := [.ref bx]) (rest := [.ref a]) ⟨hx, hb, hml, hown, hts⟩ (t_Mo_before_s l hstq1 bx lsx hn_bxq1 (hzlx)) (zcV 1 hts w_1556 w_1558 wp_55 w_30 w_1559 (by decide +kernel) ⟨Nat.le_of_ble_eq_true rfl, Nat.le_of_ble_eq_true rfl⟩) (zc_preV hbase hK hN hQ hG hS raq1 rfl) rfl rfl hl.1 rfl (lv_room (Nat.le_of_ble_eq_true rfl)) d_Mo_answer_209 ⟨(by dsimp only [List.length_nil]; omega), (by dsimp only [List.length_nil]; omega)⟩) hS (fun r209 G209 H locs hp209 hG hS => ?_)
                                  have hG : zP E G191 H := hp209.2 ▸ hG
                                  obtain ⟨j209, hj209, er209, hov209, hv209⟩ := hp209.1
                                  refine zr_some (a := rN (re rs j209)) er209 ?_
                                  have hnb209 := (hstq1.nm hj209).1
                                  have hGo212 := hG
                                  refine zk_v (va_runV (As := [.ref (rN (re rs j209))]) (rest := []) ⟨hx, hb, hml, hown, hts⟩ (t_Mo_link l E G191 a c1 c2 roq1 lo rs (wad 1 W8 (vrw (rVf rs) lsx ([42] :: lsx.drop kst) 5)) wp th co se tp v19 v20 hstq1 (rN (re rs j209)) (rM (re rs j209)) hnb209 hov209.1.2 (by rw [hv209] at hbv2; have := (hbv2.le hc2 (vpr_le _ _ _ _ _)).1; omega) (by rw [hv209] at hbv2; exact hbv2.2)) (zcV 1 hts w_1493 w_1495 wp_43 w_30 w_1496 (by decide +kernel) ⟨Nat.le_of_ble_eq_true rfl, Nat.le_of_ble_eq_true rfl⟩) (zc_preV hbase hK hN hQ hG hS raq1 rfl) rfl rfl hl.1 rfl (lv_room (Nat.le_of_ble_eq_true rfl)) d_Mo_answer_212 ⟨(by dsimp only [List.length_nil]; rw [← hv209]; omega), (by dsimp only [List.length_nil]; rw [← hv209]; omega)⟩) hS (fun G212 H locs hp212 hG hS => ?_)
                                  obtain ⟨roq2, hstq2, hsq2⟩ := hp212
                                  have hstq2 : rSt E G212 roq2 a c1 c2 lo rs (vpr (rVf rs) lo true (wad 1 W8 (vrw (rVf rs) lsx ([42] :: lsx.drop kst) 5)) (vov (rVf rs) lo lsx)) ([]) True (wln (vpr (rVf rs) lo true (wad 1 W8 (vrw (rVf rs) lsx ([42] :: lsx.drop kst) 5)) (vov (rVf rs) lo lsx)), 0, [], wp) th tp co se v19 v20 := by rw [hv209]; exact hstq2
                                  have hfq2 : zfr ro zKr G roq2 G212 := hfq1.tr hsq2
                                  refine zW_more (cells2 := rPi c1 c2 (vpr (rVf rs) lo true (wad 1 W8 (vrw (rVf rs) lsx ([42] :: lsx.drop kst) 5)) (vov (rVf rs) lo lsx)) 0 - rPi c1 c2 Wz 0 + 3 * k + 3) (slots2 := rPi c1 c2 (vpr (rVf rs) lo true (wad 1 W8 (vrw (rVf rs) lsx ([42] :: lsx.drop kst) 5)) (vov (rVf rs) lo lsx)) 0 - rPi c1 c2 Wz 0 + 260 * k + 260) (by dsimp only [List.length_nil]; rw [← hv209]; omega) (by dsimp only [List.length_nil]; rw [← hv209]; omega) ?_
                                  obtain ⟨hq2, eh0q2, eh1q2, eh2q2, hcq2⟩ := id hstq2
                                  obtain ⟨raq2, rbq2, ⟨fmq2, rt1q2, rt2q2, rt3q2, rt4q2⟩, rtlq2, ⟨foq2, rn1q2, rn2q2, rn3q2, rn4q2, rn5q2⟩, rrq2, rgq2, rasq2⟩ := id hcq2
                                  rw [eh0q2] at raq2
                                  obtain ⟨⟨frq2, rm4q2, hfrq2⟩, hn2q2, hRsq2⟩ := id rrq2.1
                                  have hn_bxq2 : rNm E G212 roq2 bx lsx := hn_bxq1.fr hsq2 zKr_0
                                  obtain ⟨f_bxq2, n1_bxq2, n2_bxq2, n3_bxq2, n4_bxq2, n5_bxq2⟩ := id hn_bxq2
                                  have sm_bxq2 := n3_bxq2.2
                                  have hn_qfq2 : rNm E G212 roq2 qf ([42] :: lsx.drop kst) := hn_qfq1.fr hsq2 zKr_0
                                  obtain ⟨f_qfq2, n1_qfq2, n2_qfq2, n3_qfq2, n4_qfq2, n5_qfq2⟩ := id hn_qfq2
                                  have sm_qfq2 := n3_qfq2.2
                                  refine lv_iinc (v := nI (k + 1)) (lv' := [(4, .int (nI (k + 1))), (5, .int 1), (8, .int 1), (7, .ref qf), (6, .int (-1)), (0, .ref a), (2, .int t), (3, .ref bx)]) hx hb d_Mo_answer_215 hl (k := 7) rfl (nI_add k 1) (by decide) rfl (fun ls hl => ?_)
                                  have hn9k : 9 - (k + 1) = n9 := by omega
                                  have hnx6 : vfo (rVf rs) lo (zscu se) t n9 (vpr (rVf rs) lo true (wad 1 W8 (vrw (rVf rs) lsx ([42] :: lsx.drop kst) 5)) (vov (rVf rs) lo lsx)) (vtg 5 (rB (re rs j5))) = vfo (rVf rs) lo (zscu se) t 9 Wz ls1 := by rw [show vpr (rVf rs) lo true (wad 1 W8 (vrw (rVf rs) lsx ([42] :: lsx.drop kst) 5)) (vov (rVf rs) lo lsx) = vpr (rVf rs) lo (zscu se) (wad 1 W8 (vrw (rVf rs) lsx ([42] :: lsx.drop kst) 5)) (vov (rVf rs) lo lsx) from by rw [hsc]]; exact hnx5
                                  have hlez : zLe Wz (vpr (rVf rs) lo true (wad 1 W8 (vrw (rVf rs) lsx ([42] :: lsx.drop kst) 5)) (vov (rVf rs) lo lsx)) := hle8.tr (hlef.tr (vpr_le _ _ _ _ _))
                                  refine lv_iconst (v := 0) hx hb d_Mo_answer_218 (by decide) ?_
                                  refine zi_as (y := nI 0) (nI_0.symm) ?_
                                  refine lv_istore (lv' := [(9, .int (nI 0)), (4, .int (nI (k + 1))), (5, .int 1), (8, .int 1), (7, .ref qf), (6, .int (-1)), (0, .ref a), (2, .int t), (3, .ref bx)]) hx hb d_Mo_answer_219 hl (by decide) rfl (fun ls hl => ?_)
                                  have loop221 : ∀ (N : Nat) (i : Nat) (xo : Nat) (H : Heap) (locs : List Loc), (rs.length - i) < N → (i ≤ rs.length) → ((xo = bx ∧ ∀ j, j < i → ¬ (rT (re rs j) = 5 ∧ rM (re rs j) = [42] :: lsx.drop kst)) ∨ ∃ j, j < i ∧ (rT (re rs j) = 5 ∧ rM (re rs j) = [42] :: lsx.drop kst) ∧ xo = rD (re rs j)) → zP E G212 H → zg_S (zc_b E) s.heap H locs → ∀ (ls : Array Slot), lv_has ls 10 [(0, .ref a), (2, .int t), (3, .ref xo), (4, .int (nI (k + 1))), (5, .int 1), (7, .ref qf), (9, .int (nI i))] → W p l e (rm_Mo_answer (rPi c1 c2 ((vfo (rVf rs) lo (zscu se) t 9 Wz ls1).2) 0 - rPi c1 c2 Wz 0 + 40) (rPi c1 c2 ((vfo (rVf rs) lo (zscu se) t 9 Wz ls1).2) 0 - rPi c1 c2 Wz 0 + 2700)) s m args below meth c H locs (rPi c1 c2 (vpr (rVf rs) lo true (wad 1 W8 (vrw (rVf rs) lsx ([42] :: lsx.drop kst) 5)) (vov (rVf rs) lo lsx)) 0 - rPi c1 c2 Wz 0 + 3 * k + 3) (rPi c1 c2 (vpr (rVf rs) lo true (wad 1 W8 (vrw (rVf rs) lsx ([42] :: lsx.drop kst) 5)) (vov (rVf rs) lo lsx)) 0 - rPi c1 c2 Wz 0 + 260 * k + 260) Q (F0 m 221 ls []) := by
                                    intro N
                                    induction N with
                                    | zero =>
                                      intro i xo H locs hlt
                                      exact absurd hlt (Nat.not_lt_zero _)
                                    | succ N ih =>
                                      intro i xo H locs hlt hi hxo hG hS ls hl
                                      refine lv_iload hx hb d_Mo_answer_221 (lv_at hl 6 rfl) ?_
                                      refine lv_aload_n hx hb d_Mo_answer_223 rfl (lv_at hl 0 rfl) ?_
                                      refine zg_get (ci := 11) (C := "ZoneAnswersModel") (T := T_Mo) (N := 21) hx hb hts zi_Mo hown hK hG raq2 rfl 5 (by decide) (hts _ w_1286) (fun _ h9 => h9) rfl d_Mo_answer_224 ?_
                                      refine lv_icmp_ge (tgt := 279) hx hb d_Mo_answer_227 (by decide) (fun c227 => ?_) (fun c227 => ?_)
                                      · have b227 : rs.length ≤ i := (nI_leI (a := rs.length) (b := i) (by omega) (by omega)).mp c227
                                        obtain ⟨j7, hj7, ⟨e71, e72⟩, e73⟩ := hxo.resolve_left (fun z => z.2 j5 (by omega) ⟨e51, e52⟩)
                                        have hj7r : j7 < rs.length := by omega
                                        have hv7 := rV5 hj7r e71 e72 (hcn _)
                                        rw [hv5] at hv7
                                        have eB7 : rB (re rs j5) = rB (re rs j7) := congrArg (fun z : List (Int32 × List Int32) => (z.headD (0, [])).2) hv7
                                        have hnn7 := hstq2.dn hj7r (Or.inr e71)
                                        rw [e71, ← eB7, ← e73] at hnn7
                                        refine lv_goto (tgt := 292) hx hb d_Mo_answer_279 (by decide) ?_
                                        refine lv_goto (tgt := 8) hx hb d_Mo_answer_292 (by decide) ?_
                                        refine zW_more (cells2 := rPi c1 c2 (vpr (rVf rs) lo true (wad 1 W8 (vrw (rVf rs) lsx ([42] :: lsx.drop kst) 5)) (vov (rVf rs) lo lsx)) 0 - rPi c1 c2 Wz 0 + 3 * (k + 1) + (if (1 : Int32) = 0 then 3 else 0)) (slots2 := rPi c1 c2 (vpr (rVf rs) lo true (wad 1 W8 (vrw (rVf rs) lsx ([42] :: lsx.drop kst) 5)) (vov (rVf rs) lo lsx)) 0 - rPi c1 c2 Wz 0 + 260 * (k + 1) + (if (1 : Int32) = 0 then 260 else 0)) (by rw [if_neg (by decide)]; omega) (by rw [if_neg (by decide)]; omega) ?_
                                        exact ih8 G212 (k + 1) 1 xo (vtg 5 (rB (re rs j5))) (vpr (rVf rs) lo true (wad 1 W8 (vrw (rVf rs) lsx ([42] :: lsx.drop kst) 5)) (vov (rVf rs) lo lsx)) roq2 _ _ (by first | (rw [if_neg (by decide)]; omega) | (rw [if_pos rfl]; omega)) (by omega) (Or.inl ⟨rfl, by rw [hn9k]; exact hnx6⟩) (hnn7) (hlez) (hstq2) (hfq2) hG hS ls (lv_sub hl [0, 1, 2, 3, 4] rfl)
                                      · have b227 : ¬ rs.length ≤ i := fun q => c227 ((nI_leI (a := rs.length) (b := i) (by omega) (by omega)).mpr q)
                                        have hin : i < rs.length := by omega
                                        obtain ⟨hr1, ⟨nf, hr2, hr3, hr4, hr5⟩, df, hr6, hr7, hr8⟩ := hRsq2 _ (re_mem hin)
                                        have sm := hr4.2
                                        refine lv_aload_n hx hb d_Mo_answer_230 rfl (lv_at hl 0 rfl) ?_
                                        refine zg_get (ci := 11) (C := "ZoneAnswersModel") (T := T_Mo) (N := 21) hx hb hts zi_Mo hown hK hG raq2 rfl 4 (by decide) (hts _ w_1285) (fun _ h9 => h9) rfl d_Mo_answer_231 ?_
                                        refine lv_iload hx hb d_Mo_answer_234 (lv_at hl 6 rfl) ?_
                                        refine zg_aldq hx hb hK hG 4 rm4q2 rfl (vp_in_nI (by omega) (by omega)) d_Mo_answer_236 ?_
                                        refine zr_as (y := frq2 i) (by rw [zi_n _ (by omega)]) ?_
                                        refine zr_some (a := rA (re rs i)) (hfrq2 i hin) ?_
                                        refine zg_get (ci := 12) (C := "ZoneAnswersModel$Rec") (T := T_Re) (N := 5) hx hb hts zi_Re hown hK hG hr1 rfl 3 (by decide) (hts _ w_1268) (fun _ h9 => h9) rfl d_Mo_answer_237 ?_
                                        refine lv_iconst (v := 5) hx hb d_Mo_answer_240 (by decide) ?_
                                        refine lv_icmp_ne (tgt := 273) hx hb d_Mo_answer_241 (by decide) (fun c241 => ?_) (fun c241 => ?_)
                                        · refine lv_iinc (v := nI (i + 1)) (lv' := [(9, .int (nI (i + 1))), (0, .ref a), (2, .int t), (3, .ref xo), (4, .int (nI (k + 1))), (5, .int 1), (7, .ref qf)]) hx hb d_Mo_answer_273 hl (k := 6) rfl (nI_add i 1) (by decide) rfl (fun ls hl => ?_)
                                          refine lv_goto (tgt := 221) hx hb d_Mo_answer_276 (by decide) ?_
                                          exact ih (i + 1) xo _ _ (by omega) (by omega) (hxo.elim (fun z => Or.inl ⟨z.1, fun j hj => by rcases Nat.lt_or_ge j i with q1 | q1; exact z.2 j q1; rw [show j = i by omega]; first | exact fun w => c241 w.1 | exact fun w => hp256.1.z c259 ((zsm_n hr3 n2_qfq2 hr4 n3_qfq2).mpr w.2)⟩) (fun ⟨j, j1, j2⟩ => Or.inr ⟨j, by omega, j2⟩)) hG hS ls (lv_sub hl [1, 2, 3, 4, 5, 6, 0] rfl)
                                        · refine lv_aload_n hx hb d_Mo_answer_244 rfl (lv_at hl 0 rfl) ?_
                                          refine zg_get (ci := 11) (C := "ZoneAnswersModel") (T := T_Mo) (N := 21) hx hb hts zi_Mo hown hK hG raq2 rfl 4 (by decide) (hts _ w_1285) (fun _ h9 => h9) rfl d_Mo_answer_245 ?_
                                          refine lv_iload hx hb d_Mo_answer_248 (lv_at hl 6 rfl) ?_
                                          refine zg_aldq hx hb hK hG 4 rm4q2 rfl (vp_in_nI (by omega) (by omega)) d_Mo_answer_250 ?_
                                          refine zr_as (y := frq2 i) (by rw [zi_n _ (by omega)]) ?_
                                          refine zr_some (a := rA (re rs i)) (hfrq2 i hin) ?_
                                          refine zg_get (ci := 12) (C := "ZoneAnswersModel$Rec") (T := T_Re) (N := 5) hx hb hts zi_Re hown hK hG hr1 rfl 0 (by decide) (hts _ w_1265) (fun _ h9 => h9) rfl d_Mo_answer_251 ?_
                                          refine lv_aload hx hb d_Mo_answer_254 (lv_at hl 5 rfl) ?_
                                          refine zk_i (va_runS (As := [.ref (rN (re rs i)), .ref qf]) (rest := []) ⟨hx, hb, hml, hown, hts⟩ (t_Ns_same l E G212 (rN (re rs i)) (np_len (rM (re rs i))) nf hr2 qf (np_len ([42] :: lsx.drop kst)) f_qfq2 n1_qfq2 (by omega) (by omega)) (zcS 2 hts w_1405 w_1406 w_33 w_1407 (by decide +kernel) ⟨Nat.le_of_ble_eq_true rfl, Nat.le_of_ble_eq_true rfl⟩) (zc_pre hbase hK hN hQ hG hS) rfl rfl hl.1 rfl (lv_room (Nat.le_of_ble_eq_true rfl)) d_Mo_answer_256 ⟨(by dsimp only [List.length_nil]; omega), (by dsimp only [List.length_nil]; omega)⟩) hS (fun r256 G256 H locs hp256 hG hS => ?_)
                                          have hG : zP E G212 H := hp256.2 ▸ hG
                                          refine lv_if_eq (tgt := 273) hx hb d_Mo_answer_259 (by decide) (fun c259 => ?_) (fun c259 => ?_)
                                          · refine lv_iinc (v := nI (i + 1)) (lv' := [(9, .int (nI (i + 1))), (0, .ref a), (2, .int t), (3, .ref xo), (4, .int (nI (k + 1))), (5, .int 1), (7, .ref qf)]) hx hb d_Mo_answer_273 hl (k := 6) rfl (nI_add i 1) (by decide) rfl (fun ls hl => ?_)
                                            refine lv_goto (tgt := 221) hx hb d_Mo_answer_276 (by decide) ?_
                                            exact ih (i + 1) xo _ _ (by omega) (by omega) (hxo.elim (fun z => Or.inl ⟨z.1, fun j hj => by rcases Nat.lt_or_ge j i with q1 | q1; exact z.2 j q1; rw [show j = i by omega]; first | exact fun w => c241 w.1 | exact fun w => hp256.1.z c259 ((zsm_n hr3 n2_qfq2 hr4 n3_qfq2).mpr w.2)⟩) (fun ⟨j, j1, j2⟩ => Or.inr ⟨j, by omega, j2⟩)) hG hS ls (lv_sub hl [1, 2, 3, 4, 5, 6, 0] rfl)
                                          · refine lv_aload_n hx hb d_Mo_answer_262 rfl (lv_at hl 0 rfl) ?_
                                            refine zg_get (ci := 11) (C := "ZoneAnswersModel") (T := T_Mo) (N := 21) hx hb hts zi_Mo hown hK hG raq2 rfl 4 (by decide) (hts _ w_1285) (fun _ h9 => h9) rfl d_Mo_answer_263 ?_
                                            refine lv_iload hx hb d_Mo_answer_266 (lv_at hl 6 rfl) ?_
                                            refine zg_aldq hx hb hK hG 4 rm4q2 rfl (vp_in_nI (by omega) (by omega)) d_Mo_answer_268 ?_
                                            refine zr_as (y := frq2 i) (by rw [zi_n _ (by omega)]) ?_
                                            refine zr_some (a := rA (re rs i)) (hfrq2 i hin) ?_
                                            refine zg_get (ci := 12) (C := "ZoneAnswersModel$Rec") (T := T_Re) (N := 5) hx hb hts zi_Re hown hK hG hr1 rfl 1 (by decide) (hts _ w_1266) (fun _ h9 => h9) rfl d_Mo_answer_269 ?_
                                            refine lv_astore_n (lv' := [(3, .ref (rD (re rs i))), (0, .ref a), (2, .int t), (4, .int (nI (k + 1))), (5, .int 1), (7, .ref qf), (9, .int (nI i))]) hx hb d_Mo_answer_272 rfl hl (by decide) rfl (fun ls hl => ?_)
                                            refine lv_iinc (v := nI (i + 1)) (lv' := [(9, .int (nI (i + 1))), (3, .ref (rD (re rs i))), (0, .ref a), (2, .int t), (4, .int (nI (k + 1))), (5, .int 1), (7, .ref qf)]) hx hb d_Mo_answer_273 hl (k := 6) rfl (nI_add i 1) (by decide) rfl (fun ls hl => ?_)
                                            refine lv_goto (tgt := 221) hx hb d_Mo_answer_276 (by decide) ?_
                                            exact ih (i + 1) (rD (re rs i)) _ _ (by omega) (by omega) (Or.inr ⟨i, by omega, ⟨c241, (zsm_n hr3 n2_qfq2 hr4 n3_qfq2).mp (hp256.1.nz c259)⟩, rfl⟩) hG hS ls (lv_sub hl [2, 3, 1, 4, 5, 6, 0] rfl)
                                  exact loop221 _ 0 bx _ _ (Nat.lt_succ_self _) (Nat.zero_le _) (Or.inl ⟨rfl, fun j hj => absurd hj (Nat.not_lt_zero j)⟩) hG hS ls (lv_sub hl [6, 7, 8, 1, 2, 4, 0] rfl)
                  · refine lv_aload_n hx hb d_Mo_answer_99 rfl (lv_at hl 2 rfl) ?_
                    refine lv_iconst (v := 3) hx hb d_Mo_answer_100 (by decide) ?_
                    refine zg_put (ci := 11) (v := .int 3) (ty := .int) (C := "ZoneAnswersModel") (T := T_Mo) (N := 21) hx hb hts zi_Mo t_Mo t_Mo_ok n_Mo hown hK hG hS raqs rfl 14 (by decide) (hts _ w_1295) (fun _ h9 => h9) rfl (by decide +kernel) rfl rfl (Nat.le_of_ble_eq_true rfl) d_Mo_answer_101 (fun H locs hG hS => ?_)
                    obtain ⟨G3, eG3⟩ : ∃ z : zg_G, z = zg_up G85 a (.inr (11, [.int th, .ref (hqs 1), .int (nI tp.length), .ref (hqs 3), .ref (hqs 4), .int (nI rs.length), .ref (hqs 6), .ref (hqs 7), .ref (hqs 8), .ref (hqs 9), .ref (hqs 10), .ref (hqs 11), .ref (hqs 12), .int (nI (wln W8)), .int 3, .ref (hqs 15), .int (nI (rPw W8 + ([] : List Int32).length)), .int se, .ref (hqs 18), v19, v20])) := ⟨_, rfl⟩
                    have hG : zP E G3 H := by rw [eG3]; exact hG
                    have k4 : G3 a = some (.inr (11, [.int th, .ref (hqs 1), .int (nI tp.length), .ref (hqs 3), .ref (hqs 4), .int (nI rs.length), .ref (hqs 6), .ref (hqs 7), .ref (hqs 8), .ref (hqs 9), .ref (hqs 10), .ref (hqs 11), .ref (hqs 12), .int (nI (wln W8)), .int 3, .ref (hqs 15), .int (nI (rPw W8 + ([] : List Int32).length)), .int se, .ref (hqs 18), v19, v20])) := by rw [eG3]; exact zg_up_self _ _ _
                    obtain ⟨hstqc3, hsqc3⟩ := rSt.set hstqs th 3 se v19 v20 raqs
                    rw [← eG3] at hstqc3 hsqc3
                    have hfqc3 := hfqs.tr hsqc3
                    have htot : vfo (rVf rs) lo (zscu se) t 9 Wz ls1 = (3, vdn (rVf rs) lo (zscu se) W8 lsx ([42] :: lsx.drop kst)) := by rw [← hon1, vfo_deny hlox hvnc hnth (by rw [hfd]; exact hp93.1.z c96), hfd]
                    have hbd9 : rBd c2 (vdn (rVf rs) lo (zscu se) W8 lsx ([42] :: lsx.drop kst)) := by have q := hB; rw [htot] at q; exact q
                    have hPt : rPi c1 c2 ((vfo (rVf rs) lo (zscu se) t 9 Wz ls1).2) 0 = rPi c1 c2 (vdn (rVf rs) lo (zscu se) W8 lsx ([42] :: lsx.drop kst)) 0 := by rw [htot]
                    have hPt2 : rPi c1 c2 (vdn (rVf rs) lo (zscu se) W8 lsx ([42] :: lsx.drop kst)) 0 = rPi c1 c2 (vpr (rVf rs) lo (zscu se) (vpr (rVf rs) lo (zscu se) (vst (rVf rs) lo W8) (vov (rVf rs) lo lsx)) (vov (rVf rs) lo ([42] :: lsx.drop kst))) 0 := rfl
                    have hles : zLe (W8) (vst (rVf rs) lo W8) := vst_le _ _ _
                    have hpis := rPi_le (n := 0) (m := 0) hc1 hc2 hles (rPw_le hles)
                    have hwls := wln_le hles
                    have hleu : zLe (vst (rVf rs) lo W8) (vpr (rVf rs) lo (zscu se) (vst (rVf rs) lo W8) (vov (rVf rs) lo lsx)) := vpr_le _ _ _ _ _
                    have hpiu := rPi_le (n := 0) (m := 0) hc1 hc2 hleu (rPw_le hleu)
                    have hwlu := wln_le hleu
                    have hleq : zLe (vpr (rVf rs) lo (zscu se) (vst (rVf rs) lo W8) (vov (rVf rs) lo lsx)) (vdn (rVf rs) lo (zscu se) W8 lsx ([42] :: lsx.drop kst)) := vpr_le _ _ _ _ _
                    have hpiq := rPi_le (n := 0) (m := 0) hc1 hc2 hleq (rPw_le hleq)
                    have hwlq := wln_le hleq
                    obtain ⟨hqc3, eh0qc3, eh1qc3, eh2qc3, hcqc3⟩ := id hstqc3
                    obtain ⟨raqc3, rbqc3, ⟨fmqc3, rt1qc3, rt2qc3, rt3qc3, rt4qc3⟩, rtlqc3, ⟨foqc3, rn1qc3, rn2qc3, rn3qc3, rn4qc3, rn5qc3⟩, rrqc3, rgqc3, rasqc3⟩ := id hcqc3
                    rw [eh0qc3] at raqc3
                    obtain ⟨⟨frqc3, rm4qc3, hfrqc3⟩, hn2qc3, hRsqc3⟩ := id rrqc3.1
                    have hn_bxqc3 : rNm E G3 (zrn ro8 qf (0, 0)) bx lsx := hn_bxqs.fr hsqc3 zKr_0
                    obtain ⟨f_bxqc3, n1_bxqc3, n2_bxqc3, n3_bxqc3, n4_bxqc3, n5_bxqc3⟩ := id hn_bxqc3
                    have sm_bxqc3 := n3_bxqc3.2
                    have hn_qfqc3 : rNm E G3 (zrn ro8 qf (0, 0)) qf ([42] :: lsx.drop kst) := hnqqs.fr hsqc3 zKr_0
                    obtain ⟨f_qfqc3, n1_qfqc3, n2_qfqc3, n3_qfqc3, n4_qfqc3, n5_qfqc3⟩ := id hn_qfqc3
                    have sm_qfqc3 := n3_qfqc3.2
                    refine lv_aload_n hx hb d_Mo_answer_104 rfl (lv_at hl 2 rfl) ?_
                    have hGo105 := hG
                    refine zk_v (va_runV (As := []) (rest := []) ⟨hx, hb, hml, hown, hts⟩ (t_Mo_nothing l E G3 a c1 c2 (zrn ro8 qf (0, 0)) lo rs W8 wp th 3 se tp v19 v20 hstqc3 (by have := hb8.1; omega)) (zcV 0 hts w_1552 w_1554 wp_54 w_30 w_1555 (by decide +kernel) ⟨Nat.le_of_ble_eq_true rfl, Nat.le_of_ble_eq_true rfl⟩) (zc_preV hbase hK hN hQ hG hS raqc3 rfl) rfl rfl hl.1 rfl (lv_room (Nat.le_of_ble_eq_true rfl)) d_Mo_answer_105 ⟨(by dsimp only [List.length_nil]; omega), (by dsimp only [List.length_nil]; omega)⟩) hS (fun G105 H locs hp105 hG hS => ?_)
                    obtain ⟨roqn, hstqn, hsqn⟩ := hp105
                    have hfqn : zfr ro zKr G roqn G105 := hfqc3.tr hsqn
                    refine zW_more (cells2 := rPi c1 c2 (vst (rVf rs) lo W8) 0 - rPi c1 c2 Wz 0 + 3 * k + 3) (slots2 := rPi c1 c2 (vst (rVf rs) lo W8) 0 - rPi c1 c2 Wz 0 + 260 * k + 260) (by dsimp only [List.length_nil]; omega) (by dsimp only [List.length_nil]; omega) ?_
                    obtain ⟨hqn, eh0qn, eh1qn, eh2qn, hcqn⟩ := id hstqn
                    obtain ⟨raqn, rbqn, ⟨fmqn, rt1qn, rt2qn, rt3qn, rt4qn⟩, rtlqn, ⟨foqn, rn1qn, rn2qn, rn3qn, rn4qn, rn5qn⟩, rrqn, rgqn, rasqn⟩ := id hcqn
                    rw [eh0qn] at raqn
                    obtain ⟨⟨frqn, rm4qn, hfrqn⟩, hn2qn, hRsqn⟩ := id rrqn.1
                    have hn_bxqn : rNm E G105 roqn bx lsx := hn_bxqc3.fr hsqn zKr_0
                    obtain ⟨f_bxqn, n1_bxqn, n2_bxqn, n3_bxqn, n4_bxqn, n5_bxqn⟩ := id hn_bxqn
                    have sm_bxqn := n3_bxqn.2
                    have hn_qfqn : rNm E G105 roqn qf ([42] :: lsx.drop kst) := hn_qfqc3.fr hsqn zKr_0
                    obtain ⟨f_qfqn, n1_qfqn, n2_qfqn, n3_qfqn, n4_qfqn, n5_qfqn⟩ := id hn_qfqn
                    have sm_qfqn := n3_qfqn.2
                    refine lv_aload_n hx hb d_Mo_answer_108 rfl (lv_at hl 2 rfl) ?_
                    refine zg_get (ci := 11) (C := "ZoneAnswersModel") (T := T_Mo) (N := 21) hx hb hts zi_Mo hown hK hG raqn rfl 17 (by decide) (hts _ w_1298) (fun _ h9 => h9) rfl d_Mo_answer_109 ?_
                    refine lv_if_eq (tgt := 134) hx hb d_Mo_answer_112 (by decide) (fun c112 => ?_) (fun c112 => ?_)
                    · have hsc := zscu_0 c112
                      exact hret _ _ _ _ _ _ _ (⟨roqn, by rw [htot]; show rSt E G105 roqn a c1 c2 lo rs (vdn (rVf rs) lo (zscu se) W8 lsx ([42] :: lsx.drop kst)) ([]) True (wln (vdn (rVf rs) lo (zscu se) W8 lsx ([42] :: lsx.drop kst)), 0, [], wp) th tp 3 se v19 v20; unfold vdn; rw [hsc, vpr_f, vpr_f]; exact hstqn, hfqn⟩) hG hS (by dsimp only [List.length_nil]; omega) (by dsimp only [List.length_nil]; omega) d_Mo_answer_134
                    · have hsc := zscu_1 c112
                      have hbd1 : rBd c2 (vpr (rVf rs) lo true (vst (rVf rs) lo W8) (vov (rVf rs) lo lsx)) := by rw [← hsc]; exact hbd9.le hc2 hleq
                      have hbd2 : rBd c2 (vpr (rVf rs) lo true (vpr (rVf rs) lo true (vst (rVf rs) lo W8) (vov (rVf rs) lo lsx)) (vov (rVf rs) lo ([42] :: lsx.drop kst))) := by rw [← hsc]; exact hbd9
                      have hPt3 : rPi c1 c2 ((vfo (rVf rs) lo (zscu se) t 9 Wz ls1).2) 0 = rPi c1 c2 (vpr (rVf rs) lo true (vpr (rVf rs) lo true (vst (rVf rs) lo W8) (vov (rVf rs) lo lsx)) (vov (rVf rs) lo ([42] :: lsx.drop kst))) 0 := by rw [hPt, hPt2, hsc]
                      have hpiu2 : rPi c1 c2 (vst (rVf rs) lo W8) 0 ≤ rPi c1 c2 (vpr (rVf rs) lo true (vst (rVf rs) lo W8) (vov (rVf rs) lo lsx)) 0 := by have q := vpr_le (rVf rs) lo true (vst (rVf rs) lo W8) (vov (rVf rs) lo lsx); exact rPi_le hc1 hc2 q (rPw_le q)
                      have hpiq2 : rPi c1 c2 (vpr (rVf rs) lo true (vst (rVf rs) lo W8) (vov (rVf rs) lo lsx)) 0 ≤ rPi c1 c2 (vpr (rVf rs) lo true (vpr (rVf rs) lo true (vst (rVf rs) lo W8) (vov (rVf rs) lo lsx)) (vov (rVf rs) lo ([42] :: lsx.drop kst))) 0 := by have q := vpr_le (rVf rs) lo true (vpr (rVf rs) lo true (vst (rVf rs) lo W8) (vov (rVf rs) lo lsx)) (vov (rVf rs) lo ([42] :: lsx.drop kst)); exact rPi_le hc1 hc2 q (rPw_le q)
                      refine lv_aload_n hx hb d_Mo_answer_115 rfl (lv_at hl 2 rfl) ?_
                      refine lv_aload_n hx hb d_Mo_answer_116 rfl (lv_at hl 2 rfl) ?_
                      refine lv_aload_n hx hb d_Mo_answer_117 rfl (lv_at hl 4 rfl) ?_
                      have hGo118 := hG
                      refine zk_q (va_runV (As := [.ref bx]) (rest := [.ref a]) ⟨hx, hb, hml, hown, hts⟩ (t_Mo_before_s l hstqn bx (lsx) hn_bxqn (hzlx)) (zcV 1 hts w_1556 w_1558 wp_55 w_30 w_1559 (by decide +kernel) ⟨Nat.le_of_ble_eq_true rfl, Nat.le_of_ble_eq_true rfl⟩) (zc_preV hbase hK hN hQ hG hS raqn rfl) rfl rfl hl.1 rfl (lv_room (Nat.le_of_ble_eq_true rfl)) d_Mo_answer_118 ⟨(by dsimp only [List.length_nil]; omega), (by dsimp only [List.length_nil]; omega)⟩) hS (fun r118 G118 H locs hp118 hG hS => ?_)
                      have hG : zP E G105 H := hp118.2 ▸ hG
                      obtain ⟨j118, hj118, er118, hov118, hv118⟩ := hp118.1
                      refine zr_some (a := rN (re rs j118)) er118 ?_
                      have hnb118 := (hstqn.nm hj118).1
                      have hGo121 := hG
                      refine zk_v (va_runV (As := [.ref (rN (re rs j118))]) (rest := []) ⟨hx, hb, hml, hown, hts⟩ (t_Mo_link l E G105 a c1 c2 roqn lo rs (vst (rVf rs) lo W8) wp th 3 se tp v19 v20 hstqn (rN (re rs j118)) (rM (re rs j118)) hnb118 hov118.1.2 (by rw [hv118] at hbd1; have := (hbd1.le hc2 (vpr_le _ _ _ _ _)).1; omega) (by rw [hv118] at hbd1; exact hbd1.2)) (zcV 1 hts w_1493 w_1495 wp_43 w_30 w_1496 (by decide +kernel) ⟨Nat.le_of_ble_eq_true rfl, Nat.le_of_ble_eq_true rfl⟩) (zc_preV hbase hK hN hQ hG hS raqn rfl) rfl rfl hl.1 rfl (lv_room (Nat.le_of_ble_eq_true rfl)) d_Mo_answer_121 ⟨(by dsimp only [List.length_nil]; rw [← hv118]; omega), (by dsimp only [List.length_nil]; rw [← hv118]; omega)⟩) hS (fun G121 H locs hp121 hG hS => ?_)
                      obtain ⟨roqk, hstqk, hsqk⟩ := hp121
                      have hstqk : rSt E G121 roqk a c1 c2 lo rs (vpr (rVf rs) lo true (vst (rVf rs) lo W8) (vov (rVf rs) lo (lsx))) ([]) True (wln (vpr (rVf rs) lo true (vst (rVf rs) lo W8) (vov (rVf rs) lo (lsx))), 0, [], wp) th tp 3 se v19 v20 := by rw [hv118]; exact hstqk
                      have hfqk : zfr ro zKr G roqk G121 := hfqn.tr hsqk
                      refine zW_more (cells2 := rPi c1 c2 (vpr (rVf rs) lo true (vst (rVf rs) lo W8) (vov (rVf rs) lo (lsx))) 0 - rPi c1 c2 Wz 0 + 3 * k + 3) (slots2 := rPi c1 c2 (vpr (rVf rs) lo true (vst (rVf rs) lo W8) (vov (rVf rs) lo (lsx))) 0 - rPi c1 c2 Wz 0 + 260 * k + 260) (by dsimp only [List.length_nil]; rw [← hv118]; omega) (by dsimp only [List.length_nil]; rw [← hv118]; omega) ?_
                      obtain ⟨hqk, eh0qk, eh1qk, eh2qk, hcqk⟩ := id hstqk
                      obtain ⟨raqk, rbqk, ⟨fmqk, rt1qk, rt2qk, rt3qk, rt4qk⟩, rtlqk, ⟨foqk, rn1qk, rn2qk, rn3qk, rn4qk, rn5qk⟩, rrqk, rgqk, rasqk⟩ := id hcqk
                      rw [eh0qk] at raqk
                      obtain ⟨⟨frqk, rm4qk, hfrqk⟩, hn2qk, hRsqk⟩ := id rrqk.1
                      have hn_bxqk : rNm E G121 roqk bx lsx := hn_bxqn.fr hsqk zKr_0
                      obtain ⟨f_bxqk, n1_bxqk, n2_bxqk, n3_bxqk, n4_bxqk, n5_bxqk⟩ := id hn_bxqk
                      have sm_bxqk := n3_bxqk.2
                      have hn_qfqk : rNm E G121 roqk qf ([42] :: lsx.drop kst) := hn_qfqn.fr hsqk zKr_0
                      obtain ⟨f_qfqk, n1_qfqk, n2_qfqk, n3_qfqk, n4_qfqk, n5_qfqk⟩ := id hn_qfqk
                      have sm_qfqk := n3_qfqk.2
                      refine lv_aload_n hx hb d_Mo_answer_124 rfl (lv_at hl 2 rfl) ?_
                      refine lv_aload_n hx hb d_Mo_answer_125 rfl (lv_at hl 2 rfl) ?_
                      refine lv_aload hx hb d_Mo_answer_126 (lv_at hl 0 rfl) ?_
                      have hGo128 := hG
                      refine zk_q (va_runV (As := [.ref qf]) (rest := [.ref a]) ⟨hx, hb, hml, hown, hts⟩ (t_Mo_before_s l hstqk qf ([42] :: lsx.drop kst) hn_qfqk (hzlf)) (zcV 1 hts w_1556 w_1558 wp_55 w_30 w_1559 (by decide +kernel) ⟨Nat.le_of_ble_eq_true rfl, Nat.le_of_ble_eq_true rfl⟩) (zc_preV hbase hK hN hQ hG hS raqk rfl) rfl rfl hl.1 rfl (lv_room (Nat.le_of_ble_eq_true rfl)) d_Mo_answer_128 ⟨(by dsimp only [List.length_nil]; omega), (by dsimp only [List.length_nil]; omega)⟩) hS (fun r128 G128 H locs hp128 hG hS => ?_)
                      have hG : zP E G121 H := hp128.2 ▸ hG
                      obtain ⟨j128, hj128, er128, hov128, hv128⟩ := hp128.1
                      refine zr_some (a := rN (re rs j128)) er128 ?_
                      have hnb128 := (hstqk.nm hj128).1
                      have hGo131 := hG
                      refine zk_v (va_runV (As := [.ref (rN (re rs j128))]) (rest := []) ⟨hx, hb, hml, hown, hts⟩ (t_Mo_link l E G121 a c1 c2 roqk lo rs (vpr (rVf rs) lo true (vst (rVf rs) lo W8) (vov (rVf rs) lo (lsx))) wp th 3 se tp v19 v20 hstqk (rN (re rs j128)) (rM (re rs j128)) hnb128 hov128.1.2 (by rw [hv128] at hbd2; have := (hbd2.le hc2 (vpr_le _ _ _ _ _)).1; omega) (by rw [hv128] at hbd2; exact hbd2.2)) (zcV 1 hts w_1493 w_1495 wp_43 w_30 w_1496 (by decide +kernel) ⟨Nat.le_of_ble_eq_true rfl, Nat.le_of_ble_eq_true rfl⟩) (zc_preV hbase hK hN hQ hG hS raqk rfl) rfl rfl hl.1 rfl (lv_room (Nat.le_of_ble_eq_true rfl)) d_Mo_answer_131 ⟨(by dsimp only [List.length_nil]; rw [← hv128]; omega), (by dsimp only [List.length_nil]; rw [← hv128]; omega)⟩) hS (fun G131 H locs hp131 hG hS => ?_)
                      obtain ⟨roqm, hstqm, hsqm⟩ := hp131
                      have hstqm : rSt E G131 roqm a c1 c2 lo rs (vpr (rVf rs) lo true (vpr (rVf rs) lo true (vst (rVf rs) lo W8) (vov (rVf rs) lo (lsx))) (vov (rVf rs) lo ([42] :: lsx.drop kst))) ([]) True (wln (vpr (rVf rs) lo true (vpr (rVf rs) lo true (vst (rVf rs) lo W8) (vov (rVf rs) lo (lsx))) (vov (rVf rs) lo ([42] :: lsx.drop kst))), 0, [], wp) th tp 3 se v19 v20 := by rw [hv128]; exact hstqm
                      have hfqm : zfr ro zKr G roqm G131 := hfqk.tr hsqm
                      refine zW_more (cells2 := rPi c1 c2 (vpr (rVf rs) lo true (vpr (rVf rs) lo true (vst (rVf rs) lo W8) (vov (rVf rs) lo (lsx))) (vov (rVf rs) lo ([42] :: lsx.drop kst))) 0 - rPi c1 c2 Wz 0 + 3 * k + 3) (slots2 := rPi c1 c2 (vpr (rVf rs) lo true (vpr (rVf rs) lo true (vst (rVf rs) lo W8) (vov (rVf rs) lo (lsx))) (vov (rVf rs) lo ([42] :: lsx.drop kst))) 0 - rPi c1 c2 Wz 0 + 260 * k + 260) (by dsimp only [List.length_nil]; rw [← hv128]; omega) (by dsimp only [List.length_nil]; rw [← hv128]; omega) ?_
                      obtain ⟨hqm, eh0qm, eh1qm, eh2qm, hcqm⟩ := id hstqm
                      obtain ⟨raqm, rbqm, ⟨fmqm, rt1qm, rt2qm, rt3qm, rt4qm⟩, rtlqm, ⟨foqm, rn1qm, rn2qm, rn3qm, rn4qm, rn5qm⟩, rrqm, rgqm, rasqm⟩ := id hcqm
                      rw [eh0qm] at raqm
                      obtain ⟨⟨frqm, rm4qm, hfrqm⟩, hn2qm, hRsqm⟩ := id rrqm.1
                      have hn_bxqm : rNm E G131 roqm bx lsx := hn_bxqk.fr hsqm zKr_0
                      obtain ⟨f_bxqm, n1_bxqm, n2_bxqm, n3_bxqm, n4_bxqm, n5_bxqm⟩ := id hn_bxqm
                      have sm_bxqm := n3_bxqm.2
                      have hn_qfqm : rNm E G131 roqm qf ([42] :: lsx.drop kst) := hn_qfqk.fr hsqm zKr_0
                      obtain ⟨f_qfqm, n1_qfqm, n2_qfqm, n3_qfqm, n4_qfqm, n5_qfqm⟩ := id hn_qfqm
                      have sm_qfqm := n3_qfqm.2
                      exact hret _ _ _ _ _ _ _ (⟨roqm, by rw [htot]; show rSt E G131 roqm a c1 c2 lo rs (vdn (rVf rs) lo (zscu se) W8 lsx ([42] :: lsx.drop kst)) ([]) True (wln (vdn (rVf rs) lo (zscu se) W8 lsx ([42] :: lsx.drop kst)), 0, [], wp) th tp 3 se v19 v20; unfold vdn; rw [hsc]; exact hstqm, hfqm⟩) hG hS (by dsimp only [List.length_nil]; omega) (by dsimp only [List.length_nil]; omega) d_Mo_answer_134
              · exact absurd (by decide) c40
  refine zW_more (cells2 := rPi c1 c2 Wz 0 - rPi c1 c2 Wz 0 + 3 * 0 + (if (1 : Int32) = 0 then 3 else 0)) (slots2 := rPi c1 c2 Wz 0 - rPi c1 c2 Wz 0 + 260 * 0 + (if (1 : Int32) = 0 then 260 else 0)) (Nat.zero_le _) (Nat.zero_le _) ?_
  exact loop8 _ G 0 1 b1 ls1 Wz ro _ _ (Nat.lt_succ_self _) (Nat.zero_le _) (Or.inl ⟨rfl, rfl⟩) (hn1) (zLe.rf _) (hst) (zfr.rf) hG hS ls (lv_sub hl [3, 5, 2, 1, 0] rfl)
