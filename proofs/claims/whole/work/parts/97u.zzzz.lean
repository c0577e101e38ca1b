/-! THE REFERENCE READS A RECORD -/
theorem zdat_nm {tp : List Int32} {t : Int32} {x : Nat} (h : t = 2 ∨ t = 5 ∨ t = 12 ∨ t = 15 ∨ t = 33) : zdat tp t x ↔ zdn tp t x := by
  rcases h with rfl | rfl | rfl | rfl | rfl <;> (unfold zdat; rw [if_neg (by decide), if_neg (by decide), if_neg (by decide)]; exact ⟨fun q => q.resolve_left (by decide), Or.inr⟩)
theorem zdn_le {tp : List Int32} {t : Int32} {x o : Nat} (ho : zoff t = nI o) (h6 : o ≤ 6) (h : zdn tp t x) : o ≤ tp.length - x := by
  obtain ⟨o2, ls, h1, h2, h3, h4⟩ := h
  have := (nI_eq (a := o2) (b := o) (by omega) (by omega)).mp (h1.symm.trans ho)
  omega
theorem rdo_0 {tp : List Int32} {t : Int32} {x : Nat} {f fm : Nat → Int32} (hof : zoff t < 0) (h1 : ∀ j, j < tp.length - x → f j = fm (x + j)) (h2 : ∀ j, j < tp.length → fm j = tp.getD j 0) : ∀ j, j < (zdb tp t x).length → f j = (zdb tp t x).getD j 0 := fun j hj => by
  rw [zdb_len] at hj
  rw [zdb_at hj, if_pos (Or.inl hof), h1 j hj, h2 _ (by omega)]
theorem rdo_1 {tp : List Int32} {x o i : Nat} {f fl fm : Nat → Int32} {y : Int32} (hi : i < tp.length - (x + o)) (h : ∀ j, j < tp.length - x → f j = if o ≤ j ∧ j < o + i then zlow (tp.getD (x + j) 0) else tp.getD (x + j) 0) (hl : ∀ j, j < tp.length - (x + o) → fl j = zlow (fm (x + o + j))) (h2 : ∀ j, j < tp.length → fm j = tp.getD j 0) (hy : y = fl i) : ∀ j, j < tp.length - x → upd f (o + i) y j = if o ≤ j ∧ j < o + (i + 1) then zlow (tp.getD (x + j) 0) else tp.getD (x + j) 0 := fun j hj => by
  by_cases e : j = o + i
  · rw [e, upd_s, if_pos (by omega), hy, hl i hi, h2 _ (by omega), show x + o + i = x + (o + i) by omega]
  · rw [upd_o e, h j hj]
    by_cases z : o ≤ j ∧ j < o + i
    · rw [if_pos z, if_pos (by omega)]
    · rw [if_neg z, if_neg (by omega)]
theorem rdo_2 {tp : List Int32} {t : Int32} {x o i : Nat} {f : Nat → Int32} (ho : zoff t = nI o) (h6 : o ≤ 6) (hi : ¬ i < tp.length - (x + o)) (h : ∀ j, j < tp.length - x → f j = if o ≤ j ∧ j < o + i then zlow (tp.getD (x + j) 0) else tp.getD (x + j) 0) : ∀ j, j < (zdb tp t x).length → f j = (zdb tp t x).getD j 0 := fun j hj => by
  rw [zdb_len] at hj
  rw [zdb_at hj, h j hj, ho, zi_n _ (by omega)]
  by_cases z : j < o
  · rw [if_neg (by omega), if_pos (Or.inr z)]
  · rw [if_pos (by omega), if_neg (by rintro (w | w); exact absurd w (nI_pos (by omega)); exact z w)]
theorem vp_nar_b {x : Int32} (h : fits .byte (.int x) = true) : vp_nar .byte x = x := by
  unfold vp_nar; rw [narrow_of_fits h]
abbrev c_Mo_dataOf : ByteArray := prog_12_method_38_code
abbrev y_Mo_dataOf : MethodName := ⟨"ZoneAnswersModel", "dataOf", "(II)[B"⟩
theorem d_Mo_dataOf_0 : decode c_Mo_dataOf 0 = .ok (.aload_n 0, 1) := by decide +kernel
theorem d_Mo_dataOf_1 : decode c_Mo_dataOf 1 = .ok (.getfield 231, 3) := by decide +kernel
theorem d_Mo_dataOf_4 : decode c_Mo_dataOf 4 = .ok (.iload_n 2, 1) := by decide +kernel
theorem d_Mo_dataOf_5 : decode c_Mo_dataOf 5 = .ok (.isub, 1) := by decide +kernel
theorem d_Mo_dataOf_6 : decode c_Mo_dataOf 6 = .ok (.istore_n 3, 1) := by decide +kernel
theorem d_Mo_dataOf_7 : decode c_Mo_dataOf 7 = .ok (.iconst (-1), 1) := by decide +kernel
theorem d_Mo_dataOf_8 : decode c_Mo_dataOf 8 = .ok (.istore 4, 2) := by decide +kernel
theorem d_Mo_dataOf_10 : decode c_Mo_dataOf 10 = .ok (.iload_n 1, 1) := by decide +kernel
theorem d_Mo_dataOf_11 : decode c_Mo_dataOf 11 = .ok (.lookupswitch 155 #[(1, 73), (2, 88), (5, 88), (12, 88), (15, 94), (16, 107), (28, 80), (33, 100)], 73) := by decide +kernel
theorem d_Mo_dataOf_84 : decode c_Mo_dataOf 84 = .ok (.iload_n 3, 1) := by decide +kernel
theorem d_Mo_dataOf_85 : decode c_Mo_dataOf 85 = .ok (.iconst 4, 1) := by decide +kernel
theorem d_Mo_dataOf_86 : decode c_Mo_dataOf 86 = .ok (.if_icmp .eq 80, 3) := by decide +kernel
theorem d_Mo_dataOf_89 : decode c_Mo_dataOf 89 = .ok (.aconst_null, 1) := by decide +kernel
theorem d_Mo_dataOf_90 : decode c_Mo_dataOf 90 = .ok (.areturn, 1) := by decide +kernel
theorem d_Mo_dataOf_91 : decode c_Mo_dataOf 91 = .ok (.iload_n 3, 1) := by decide +kernel
theorem d_Mo_dataOf_92 : decode c_Mo_dataOf 92 = .ok (.bipush 16, 2) := by decide +kernel
theorem d_Mo_dataOf_94 : decode c_Mo_dataOf 94 = .ok (.if_icmp .eq 72, 3) := by decide +kernel
theorem d_Mo_dataOf_97 : decode c_Mo_dataOf 97 = .ok (.aconst_null, 1) := by decide +kernel
theorem d_Mo_dataOf_98 : decode c_Mo_dataOf 98 = .ok (.areturn, 1) := by decide +kernel
theorem d_Mo_dataOf_99 : decode c_Mo_dataOf 99 = .ok (.iconst 0, 1) := by decide +kernel
theorem d_Mo_dataOf_100 : decode c_Mo_dataOf 100 = .ok (.istore 4, 2) := by decide +kernel
theorem d_Mo_dataOf_102 : decode c_Mo_dataOf 102 = .ok (.goto 64, 3) := by decide +kernel
theorem d_Mo_dataOf_105 : decode c_Mo_dataOf 105 = .ok (.iconst 2, 1) := by decide +kernel
theorem d_Mo_dataOf_106 : decode c_Mo_dataOf 106 = .ok (.istore 4, 2) := by decide +kernel
theorem d_Mo_dataOf_108 : decode c_Mo_dataOf 108 = .ok (.goto 58, 3) := by decide +kernel
theorem d_Mo_dataOf_111 : decode c_Mo_dataOf 111 = .ok (.bipush 6, 2) := by decide +kernel
theorem d_Mo_dataOf_113 : decode c_Mo_dataOf 113 = .ok (.istore 4, 2) := by decide +kernel
theorem d_Mo_dataOf_115 : decode c_Mo_dataOf 115 = .ok (.goto 51, 3) := by decide +kernel
theorem d_Mo_dataOf_118 : decode c_Mo_dataOf 118 = .ok (.iload_n 2, 1) := by decide +kernel
theorem d_Mo_dataOf_119 : decode c_Mo_dataOf 119 = .ok (.istore 5, 2) := by decide +kernel
theorem d_Mo_dataOf_121 : decode c_Mo_dataOf 121 = .ok (.iload 5, 2) := by decide +kernel
theorem d_Mo_dataOf_123 : decode c_Mo_dataOf 123 = .ok (.aload_n 0, 1) := by decide +kernel
theorem d_Mo_dataOf_124 : decode c_Mo_dataOf 124 = .ok (.getfield 231, 3) := by decide +kernel
theorem d_Mo_dataOf_127 : decode c_Mo_dataOf 127 = .ok (.if_icmp .ge 24, 3) := by decide +kernel
theorem d_Mo_dataOf_130 : decode c_Mo_dataOf 130 = .ok (.iload 5, 2) := by decide +kernel
theorem d_Mo_dataOf_132 : decode c_Mo_dataOf 132 = .ok (.iconst 1, 1) := by decide +kernel
theorem d_Mo_dataOf_133 : decode c_Mo_dataOf 133 = .ok (.aload_n 0, 1) := by decide +kernel
theorem d_Mo_dataOf_134 : decode c_Mo_dataOf 134 = .ok (.getfield 8, 3) := by decide +kernel
theorem d_Mo_dataOf_137 : decode c_Mo_dataOf 137 = .ok (.iload 5, 2) := by decide +kernel
theorem d_Mo_dataOf_139 : decode c_Mo_dataOf 139 = .ok (.baload, 1) := by decide +kernel
theorem d_Mo_dataOf_140 : decode c_Mo_dataOf 140 = .ok (.sipush 255, 3) := by decide +kernel
theorem d_Mo_dataOf_143 : decode c_Mo_dataOf 143 = .ok (.iand, 1) := by decide +kernel
theorem d_Mo_dataOf_144 : decode c_Mo_dataOf 144 = .ok (.iadd, 1) := by decide +kernel
theorem d_Mo_dataOf_145 : decode c_Mo_dataOf 145 = .ok (.iadd, 1) := by decide +kernel
theorem d_Mo_dataOf_146 : decode c_Mo_dataOf 146 = .ok (.istore 5, 2) := by decide +kernel
theorem d_Mo_dataOf_148 : decode c_Mo_dataOf 148 = .ok (.goto (-27), 3) := by decide +kernel
theorem d_Mo_dataOf_151 : decode c_Mo_dataOf 151 = .ok (.iload_n 3, 1) := by decide +kernel
theorem d_Mo_dataOf_152 : decode c_Mo_dataOf 152 = .ok (.ifCond .eq 12, 3) := by decide +kernel
theorem d_Mo_dataOf_155 : decode c_Mo_dataOf 155 = .ok (.iload 5, 2) := by decide +kernel
theorem d_Mo_dataOf_157 : decode c_Mo_dataOf 157 = .ok (.aload_n 0, 1) := by decide +kernel
theorem d_Mo_dataOf_158 : decode c_Mo_dataOf 158 = .ok (.getfield 231, 3) := by decide +kernel
theorem d_Mo_dataOf_161 : decode c_Mo_dataOf 161 = .ok (.if_icmp .eq 5, 3) := by decide +kernel
theorem d_Mo_dataOf_164 : decode c_Mo_dataOf 164 = .ok (.aconst_null, 1) := by decide +kernel
theorem d_Mo_dataOf_165 : decode c_Mo_dataOf 165 = .ok (.areturn, 1) := by decide +kernel
theorem d_Mo_dataOf_166 : decode c_Mo_dataOf 166 = .ok (.aload_n 0, 1) := by decide +kernel
theorem d_Mo_dataOf_167 : decode c_Mo_dataOf 167 = .ok (.getfield 8, 3) := by decide +kernel
theorem d_Mo_dataOf_170 : decode c_Mo_dataOf 170 = .ok (.iload_n 2, 1) := by decide +kernel
theorem d_Mo_dataOf_171 : decode c_Mo_dataOf 171 = .ok (.aload_n 0, 1) := by decide +kernel
theorem d_Mo_dataOf_172 : decode c_Mo_dataOf 172 = .ok (.getfield 231, 3) := by decide +kernel
theorem d_Mo_dataOf_175 : decode c_Mo_dataOf 175 = .ok (.invokestatic 188, 3) := by decide +kernel
theorem d_Mo_dataOf_178 : decode c_Mo_dataOf 178 = .ok (.astore 5, 2) := by decide +kernel
theorem d_Mo_dataOf_180 : decode c_Mo_dataOf 180 = .ok (.iload 4, 2) := by decide +kernel
theorem d_Mo_dataOf_182 : decode c_Mo_dataOf 182 = .ok (.ifCond .ge 6, 3) := by decide +kernel
theorem d_Mo_dataOf_185 : decode c_Mo_dataOf 185 = .ok (.aload 5, 2) := by decide +kernel
theorem d_Mo_dataOf_187 : decode c_Mo_dataOf 187 = .ok (.areturn, 1) := by decide +kernel
theorem d_Mo_dataOf_188 : decode c_Mo_dataOf 188 = .ok (.iload_n 3, 1) := by decide +kernel
theorem d_Mo_dataOf_189 : decode c_Mo_dataOf 189 = .ok (.iload 4, 2) := by decide +kernel
theorem d_Mo_dataOf_191 : decode c_Mo_dataOf 191 = .ok (.if_icmp .lt 25, 3) := by decide +kernel
theorem d_Mo_dataOf_194 : decode c_Mo_dataOf 194 = .ok (.aload_n 0, 1) := by decide +kernel
theorem d_Mo_dataOf_195 : decode c_Mo_dataOf 195 = .ok (.getfield 8, 3) := by decide +kernel
theorem d_Mo_dataOf_198 : decode c_Mo_dataOf 198 = .ok (.iload_n 2, 1) := by decide +kernel
theorem d_Mo_dataOf_199 : decode c_Mo_dataOf 199 = .ok (.iload 4, 2) := by decide +kernel
theorem d_Mo_dataOf_201 : decode c_Mo_dataOf 201 = .ok (.iadd, 1) := by decide +kernel
theorem d_Mo_dataOf_202 : decode c_Mo_dataOf 202 = .ok (.aload_n 0, 1) := by decide +kernel
theorem d_Mo_dataOf_203 : decode c_Mo_dataOf 203 = .ok (.getfield 231, 3) := by decide +kernel
theorem d_Mo_dataOf_206 : decode c_Mo_dataOf 206 = .ok (.invokestatic 120, 3) := by decide +kernel
theorem d_Mo_dataOf_209 : decode c_Mo_dataOf 209 = .ok (.aload_n 0, 1) := by decide +kernel
theorem d_Mo_dataOf_210 : decode c_Mo_dataOf 210 = .ok (.getfield 231, 3) := by decide +kernel
theorem d_Mo_dataOf_213 : decode c_Mo_dataOf 213 = .ok (.if_icmp .eq 5, 3) := by decide +kernel
theorem d_Mo_dataOf_216 : decode c_Mo_dataOf 216 = .ok (.aconst_null, 1) := by decide +kernel
theorem d_Mo_dataOf_217 : decode c_Mo_dataOf 217 = .ok (.areturn, 1) := by decide +kernel
theorem d_Mo_dataOf_218 : decode c_Mo_dataOf 218 = .ok (.aload_n 0, 1) := by decide +kernel
theorem d_Mo_dataOf_219 : decode c_Mo_dataOf 219 = .ok (.getfield 8, 3) := by decide +kernel
theorem d_Mo_dataOf_222 : decode c_Mo_dataOf 222 = .ok (.iload_n 2, 1) := by decide +kernel
theorem d_Mo_dataOf_223 : decode c_Mo_dataOf 223 = .ok (.iload 4, 2) := by decide +kernel
theorem d_Mo_dataOf_225 : decode c_Mo_dataOf 225 = .ok (.iadd, 1) := by decide +kernel
theorem d_Mo_dataOf_226 : decode c_Mo_dataOf 226 = .ok (.aload_n 0, 1) := by decide +kernel
theorem d_Mo_dataOf_227 : decode c_Mo_dataOf 227 = .ok (.getfield 231, 3) := by decide +kernel
theorem d_Mo_dataOf_230 : decode c_Mo_dataOf 230 = .ok (.invokestatic 239, 3) := by decide +kernel
theorem d_Mo_dataOf_233 : decode c_Mo_dataOf 233 = .ok (.astore 6, 2) := by decide +kernel
theorem d_Mo_dataOf_235 : decode c_Mo_dataOf 235 = .ok (.iconst 0, 1) := by decide +kernel
theorem d_Mo_dataOf_236 : decode c_Mo_dataOf 236 = .ok (.istore 7, 2) := by decide +kernel
theorem d_Mo_dataOf_238 : decode c_Mo_dataOf 238 = .ok (.iload 7, 2) := by decide +kernel
theorem d_Mo_dataOf_240 : decode c_Mo_dataOf 240 = .ok (.aload 6, 2) := by decide +kernel
theorem d_Mo_dataOf_242 : decode c_Mo_dataOf 242 = .ok (.arraylength, 1) := by decide +kernel
theorem d_Mo_dataOf_243 : decode c_Mo_dataOf 243 = .ok (.if_icmp .ge 22, 3) := by decide +kernel
theorem d_Mo_dataOf_246 : decode c_Mo_dataOf 246 = .ok (.aload 5, 2) := by decide +kernel
theorem d_Mo_dataOf_248 : decode c_Mo_dataOf 248 = .ok (.iload 4, 2) := by decide +kernel
theorem d_Mo_dataOf_250 : decode c_Mo_dataOf 250 = .ok (.iload 7, 2) := by decide +kernel
theorem d_Mo_dataOf_252 : decode c_Mo_dataOf 252 = .ok (.iadd, 1) := by decide +kernel
theorem d_Mo_dataOf_253 : decode c_Mo_dataOf 253 = .ok (.aload 6, 2) := by decide +kernel
theorem d_Mo_dataOf_255 : decode c_Mo_dataOf 255 = .ok (.iload 7, 2) := by decide +kernel
theorem d_Mo_dataOf_257 : decode c_Mo_dataOf 257 = .ok (.baload, 1) := by decide +kernel
theorem d_Mo_dataOf_258 : decode c_Mo_dataOf 258 = .ok (.bastore, 1) := by decide +kernel
theorem d_Mo_dataOf_259 : decode c_Mo_dataOf 259 = .ok (.iinc 7 1, 3) := by decide +kernel
theorem d_Mo_dataOf_262 : decode c_Mo_dataOf 262 = .ok (.goto (-24), 3) := by decide +kernel
theorem d_Mo_dataOf_265 : decode c_Mo_dataOf 265 = .ok (.aload 5, 2) := by decide +kernel
theorem d_Mo_dataOf_267 : decode c_Mo_dataOf 267 = .ok (.areturn, 1) := by decide +kernel
abbrev rm_Mo_dataOf (n0 : Nat) : Room := { frames := 3, cells := 2, slots := n0 + 255, locals := 80 }
set_option maxHeartbeats 4000000 in
set_option maxRecDepth 100000 in
/-- dataOf(t, x), of the reference -/
theorem t_Mo_dataOf (l : Launch) (E : zc_E) (G : zg_G) (a c1 c2 : Nat) (ro : zRo) (lo : np_N) (rs : List zRt) (Wz : zW) (px : List Int32) (qp : Prop) (nq : Nat × Int32 × np_N × zWs) (th co se : Int32) (tp : List Int32) (v19 v20 : Value) (hst : rSt E G ro a c1 c2 lo rs Wz px qp nq th tp co se v19 v20) (t : Int32) (x : Nat) (hx9 : x ≤ tp.length) : zMq l E y_Mo_dataOf c_Mo_dataOf 8 (some (.array .byte)) (rm_Mo_dataOf (tp.length - x)) [.ref a, .int t, .int (nI x)] G (fun (r : Option Nat) (G2 : zg_G) => (zdat tp t x ∧ ∃ q f, r = some q ∧ G q = none ∧ zx z0 G G2 ∧ G2 q = some (.inl (E.2.1 0, (zdb tp t x).length, .inl f)) ∧ (∀ j, j < (zdb tp t x).length → f j = (zdb tp t x).getD j 0) ∧ sb_Fit f) ∨ (¬ zdat tp t x ∧ r = none ∧ zx z0 G G2)) := by
  refine zMq.of (by decide) (Nat.le_of_ble_eq_true rfl) ?_
  intro p e s m args below meth c Q hZ hG hret ls hl
  obtain ⟨hx, hb, hr, hts, hown, hlocks, hml, hnm, hbase, hK, hN, hQ⟩ := hZ
  have hl : lv_has ls 8 [(0, .ref a), (1, .int t), (2, .int (nI x))] := hl
  have hS : zg_S (zc_b E) s.heap s.heap [] := va_S.rf
  obtain ⟨h, eh0, eh1, eh2, hc⟩ := id hst
  obtain ⟨ra, rb, ⟨fm, rt1, rt2, rt3, rt4⟩, rtl, ⟨fo, rn1, rn2, rn3, rn4, rn5⟩, rr, rg, ras⟩ := id hc
  rw [eh0] at ra
  obtain ⟨⟨fr, rm4, hfr⟩, hn2, hRs⟩ := id rr.1
  have hx0 : zx z0 G G := zx.rf
  refine lv_aload_n hx hb d_Mo_dataOf_0 rfl (lv_at hl 0 rfl) ?_
  refine zg_get (ci := 11) (C := "ZoneAnswersModel") (T := T_Mo) (N := 21) hx hb hts zi_Mo hown hK hG ra rfl 2 (by decide) (hts _ w_1283) (fun _ h9 => h9) rfl d_Mo_dataOf_1 ?_
  refine lv_iload_n hx hb d_Mo_dataOf_4 rfl (lv_at hl 2 rfl) ?_
  refine lv_isub hx hb d_Mo_dataOf_5 ?_
  refine zi_as (y := nI (tp.length - x)) (zi_sub (a := tp.length) (b := x) (by omega)) ?_
  refine lv_istore_n (lv' := [(3, .int (nI (tp.length - x))), (0, .ref a), (1, .int t), (2, .int (nI x))]) hx hb d_Mo_dataOf_6 rfl hl (by decide) rfl (fun ls hl => ?_)
  refine lv_iconst (v := -1) hx hb d_Mo_dataOf_7 (by decide) ?_
  refine lv_istore (lv' := [(4, .int (-1)), (3, .int (nI (tp.length - x))), (0, .ref a), (1, .int t), (2, .int (nI x))]) hx hb d_Mo_dataOf_8 hl (by decide) rfl (fun ls hl => ?_)
  refine lv_iload_n hx hb d_Mo_dataOf_10 rfl (lv_at hl 3 rfl) ?_
  by_cases s11_1 : t = 1
  · refine lv_lookup (off := 73) (tgt := 84) hx hb d_Mo_dataOf_11 (by decide) (by rw [s11_1]; decide) (by decide) ?_
    refine lv_iload_n hx hb d_Mo_dataOf_84 rfl (lv_at hl 1 rfl) ?_
    refine lv_iconst (v := 4) hx hb d_Mo_dataOf_85 (by decide) ?_
    refine lv_icmp_eq (tgt := 166) hx hb d_Mo_dataOf_86 (by decide) (fun c86 => ?_) (fun c86 => ?_)
    · have b86 : (tp.length - x) = 4 := (nI_eq (a := (tp.length - x)) (b := 4) (by omega) (by omega)).mp c86
      have hof : zoff t < 0 := by first | (rw [s11_1]; decide) | (rw [s11_28]; decide) | (rw [s11_16]; decide) | (rw [zoff_o (fun z => by rcases z with z | z | z | z | z; exact s11_2 z; exact s11_5 z; exact s11_12 z; exact s11_15 z; exact s11_33 z)]; decide)
      have hzd : zdat tp t x := by first | (unfold zdat; rw [if_pos s11_1]; exact b86) | (unfold zdat; rw [if_neg s11_1, if_pos s11_16]; exact ⟨by omega, by rw [← hz, zsw_end (by omega)]; exact b161⟩) | (unfold zdat; rw [if_neg s11_1, if_neg s11_16, if_pos s11_28]; exact b94) | (unfold zdat; rw [if_neg s11_1, if_neg s11_16, if_neg s11_28]; exact Or.inl hof)
      refine lv_aload_n hx hb d_Mo_dataOf_166 rfl (lv_at hl 2 rfl) ?_
      refine zg_get (ci := 11) (C := "ZoneAnswersModel") (T := T_Mo) (N := 21) hx hb hts zi_Mo hown hK hG ra rfl 1 (by decide) (hts _ w_1282) (fun _ h9 => h9) rfl d_Mo_dataOf_167 ?_
      refine lv_iload_n hx hb d_Mo_dataOf_170 rfl (lv_at hl 4 rfl) ?_
      refine lv_aload_n hx hb d_Mo_dataOf_171 rfl (lv_at hl 2 rfl) ?_
      refine zg_get (ci := 11) (C := "ZoneAnswersModel") (T := T_Mo) (N := 21) hx hb hts zi_Mo hown hK hG ra rfl 2 (by decide) (hts _ w_1283) (fun _ h9 => h9) rfl d_Mo_dataOf_172 ?_
      have hGo175 := hG
      refine zk_q (va_runS (As := [.ref (h 1), .int (nI x), .int (nI tp.length)]) (rest := []) ⟨hx, hb, hml, hown, hts⟩ (t_Ns_cut l E G (h 1) 65536 fm rt1 rt3 (by decide) x tp.length hx9 (by omega)) (zcS 3 hts w_1391 w_1373 w_33 w_1374 (by decide +kernel) ⟨Nat.le_of_ble_eq_true rfl, Nat.le_of_ble_eq_true rfl⟩) (zc_pre hbase hK hN hQ hG hS) rfl rfl hl.1 rfl (lv_room (Nat.le_of_ble_eq_true rfl)) d_Mo_dataOf_175 ⟨(by dsimp only; omega), (by dsimp only; omega)⟩) hS (fun r175 G175 H locs hp175 hG hS => ?_)
      obtain ⟨q175, f175, er175, nq175, hx175, hq175, hft175, hlo175⟩ := hp175
      refine zr_some (a := q175) er175 ?_
      have k1 : G175 a = some (.inr (11, [.int th, .ref (h 1), .int (nI tp.length), .ref (h 3), .ref (h 4), .int (nI rs.length), .ref (h 6), .ref (h 7), .ref (h 8), .ref (h 9), .ref (h 10), .ref (h 11), .ref (h 12), .int (nI (wln Wz)), .int co, .ref (h 15), .int (nI (rPw Wz + px.length)), .int se, .ref (h 18), v19, v20])) := hx175.o ra
      have ne_q175_a : a ≠ q175 := zg_fr nq175 ra
      have k2 : G175 (h 1) = some (.inl (E.2.1 0, 65536, .inl fm)) := hx175.o rt1
      have ne_q175_h_1 : h 1 ≠ q175 := zg_fr nq175 rt1
      have hx3 : zx z0 G G175 := hx0.tr (hx175.w (fun _ z => z.elim))
      refine lv_astore (lv' := [(5, .ref q175), (4, .int (-1)), (3, .int (nI (tp.length - x))), (0, .ref a), (1, .int t), (2, .int (nI x))]) hx hb d_Mo_dataOf_178 hl (by decide) rfl (fun ls hl => ?_)
      refine lv_iload hx hb d_Mo_dataOf_180 (lv_at hl 1 rfl) ?_
      refine lv_if_ge (tgt := 188) hx hb d_Mo_dataOf_182 (by decide) (fun c182 => ?_) (fun c182 => ?_)
      · exact absurd c182 (by decide)
      · refine lv_aload hx hb d_Mo_dataOf_185 (lv_at hl 0 rfl) ?_
        exact hret (some q175) _ _ _ _ _ _ _ _ hr (Or.inr ⟨_, rfl⟩) (Or.inl ⟨hzd, q175, f175, rfl, nq175, hx3, by rw [zdb_len]; exact hq175, rdo_0 hof hlo175 rt2, hft175⟩) hG hS (by dsimp only; omega) (by dsimp only; omega) d_Mo_dataOf_187
    · have b86 : ¬ (tp.length - x) = 4 := fun q => c86 ((nI_eq (a := (tp.length - x)) (b := 4) (by omega) (by omega)).mpr q)
      refine lv_null hx hb d_Mo_dataOf_89 ?_
      exact hret none _ _ _ _ _ _ _ _ hr (Or.inr ⟨_, rfl⟩) (Or.inr ⟨by unfold zdat; rw [if_pos s11_1]; exact b86, rfl, hx0⟩) hG hS (by dsimp only; omega) (by dsimp only; omega) d_Mo_dataOf_90
  by_cases s11_2 : t = 2
  · refine lv_lookup (off := 88) (tgt := 99) hx hb d_Mo_dataOf_11 (by decide) (by rw [s11_2]; decide) (by decide) ?_
    refine lv_iconst (v := 0) hx hb d_Mo_dataOf_99 (by decide) ?_
    refine zi_as (y := nI 0) (nI_0.symm) ?_
    refine lv_istore (lv' := [(4, .int (nI 0)), (3, .int (nI (tp.length - x))), (0, .ref a), (1, .int t), (2, .int (nI x))]) hx hb d_Mo_dataOf_100 hl (by decide) rfl (fun ls hl => ?_)
    refine lv_goto (tgt := 166) hx hb d_Mo_dataOf_102 (by decide) ?_
    have htn : t = 2 ∨ t = 5 ∨ t = 12 ∨ t = 15 ∨ t = 33 := by first | exact Or.inl s11_2 | exact Or.inr (Or.inl s11_5) | exact Or.inr (Or.inr (Or.inl s11_12)) | exact Or.inr (Or.inr (Or.inr (Or.inl s11_15))) | exact Or.inr (Or.inr (Or.inr (Or.inr s11_33)))
    have hof : zoff t = nI 0 := by first | (rw [s11_2]; decide) | (rw [s11_5]; decide) | (rw [s11_12]; decide) | (rw [s11_15]; decide) | (rw [s11_33]; decide)
    have ho6 : 0 ≤ 6 := by decide
    refine lv_aload_n hx hb d_Mo_dataOf_166 rfl (lv_at hl 2 rfl) ?_
    refine zg_get (ci := 11) (C := "ZoneAnswersModel") (T := T_Mo) (N := 21) hx hb hts zi_Mo hown hK hG ra rfl 1 (by decide) (hts _ w_1282) (fun _ h9 => h9) rfl d_Mo_dataOf_167 ?_
    refine lv_iload_n hx hb d_Mo_dataOf_170 rfl (lv_at hl 4 rfl) ?_
    refine lv_aload_n hx hb d_Mo_dataOf_171 rfl (lv_at hl 2 rfl) ?_
    refine zg_get (ci := 11) (C := "ZoneAnswersModel") (T := T_Mo) (N := 21) hx hb hts zi_Mo hown hK hG ra rfl 2 (by decide) (hts _ w_1283) (fun _ h9 => h9) rfl d_Mo_dataOf_172 ?_
    have hGo175 := hG
    refine zk_q (va_runS (As := [.ref (h 1), .int (nI x), .int (nI tp.length)]) (rest := []) ⟨hx, hb, hml, hown, hts⟩ (t_Ns_cut l E G (h 1) 65536 fm rt1 rt3 (by decide) x tp.length hx9 (by omega)) (zcS 3 hts w_1391 w_1373 w_33 w_1374 (by decide +kernel) ⟨Nat.le_of_ble_eq_true rfl, Nat.le_of_ble_eq_true rfl⟩) (zc_pre hbase hK hN hQ hG hS) rfl rfl hl.1 rfl (lv_room (Nat.le_of_ble_eq_true rfl)) d_Mo_dataOf_175 ⟨(by dsimp only; omega), (by dsimp only; omega)⟩) hS (fun r175 G175 H locs hp175 hG hS => ?_)
    obtain ⟨q175, f175, er175, nq175, hx175, hq175, hft175, hlo175⟩ := hp175
    refine zr_some (a := q175) er175 ?_
    have k4 : G175 a = some (.inr (11, [.int th, .ref (h 1), .int (nI tp.length), .ref (h 3), .ref (h 4), .int (nI rs.length), .ref (h 6), .ref (h 7), .ref (h 8), .ref (h 9), .ref (h 10), .ref (h 11), .ref (h 12), .int (nI (wln Wz)), .int co, .ref (h 15), .int (nI (rPw Wz + px.length)), .int se, .ref (h 18), v19, v20])) := hx175.o ra
    have ne_q175_a : a ≠ q175 := zg_fr nq175 ra
    have k5 : G175 (h 1) = some (.inl (E.2.1 0, 65536, .inl fm)) := hx175.o rt1
    have ne_q175_h_1 : h 1 ≠ q175 := zg_fr nq175 rt1
    have hx6 : zx z0 G G175 := hx0.tr (hx175.w (fun _ z => z.elim))
    refine lv_astore (lv' := [(5, .ref q175), (4, .int (nI 0)), (3, .int (nI (tp.length - x))), (0, .ref a), (1, .int t), (2, .int (nI x))]) hx hb d_Mo_dataOf_178 hl (by decide) rfl (fun ls hl => ?_)
    refine lv_iload hx hb d_Mo_dataOf_180 (lv_at hl 1 rfl) ?_
    refine lv_if_ge (tgt := 188) hx hb d_Mo_dataOf_182 (by decide) (fun c182 => ?_) (fun c182 => ?_)
    · have b182 : 0 ≤ 0 := (nI_leI (a := 0) (b := 0) (by omega) (by omega)).mp c182
      refine lv_iload_n hx hb d_Mo_dataOf_188 rfl (lv_at hl 2 rfl) ?_
      refine lv_iload hx hb d_Mo_dataOf_189 (lv_at hl 1 rfl) ?_
      refine lv_icmp_lt (tgt := 216) hx hb d_Mo_dataOf_191 (by decide) (fun c191 => ?_) (fun c191 => ?_)
      · have b191 : (tp.length - x) < 0 := (nI_ltI (a := (tp.length - x)) (b := 0) (by omega) (by omega)).mp c191
        refine lv_null hx hb d_Mo_dataOf_216 ?_
        exact hret none _ _ _ _ _ _ _ _ hr (Or.inr ⟨_, rfl⟩) (Or.inr ⟨fun q => by have q := (zdat_nm htn).mp q; first | exact c213 (hdn.mpr q) | (have := zdn_le hof ho6 q; omega), rfl, hx6⟩) hG hS (by dsimp only; omega) (by dsimp only; omega) d_Mo_dataOf_217
      · have b191 : ¬ (tp.length - x) < 0 := fun q => c191 ((nI_ltI (a := (tp.length - x)) (b := 0) (by omega) (by omega)).mpr q)
        refine lv_aload_n hx hb d_Mo_dataOf_194 rfl (lv_at hl 3 rfl) ?_
        refine zg_get (ci := 11) (C := "ZoneAnswersModel") (T := T_Mo) (N := 21) hx hb hts zi_Mo hown hK hG k4 rfl 1 (by decide) (hts _ w_1282) (fun _ h9 => h9) rfl d_Mo_dataOf_195 ?_
        refine lv_iload_n hx hb d_Mo_dataOf_198 rfl (lv_at hl 5 rfl) ?_
        refine lv_iload hx hb d_Mo_dataOf_199 (lv_at hl 1 rfl) ?_
        refine lv_iadd hx hb d_Mo_dataOf_201 ?_
        refine zi_as (y := nI (x + 0)) (nI_add x 0) ?_
        refine lv_aload_n hx hb d_Mo_dataOf_202 rfl (lv_at hl 3 rfl) ?_
        refine zg_get (ci := 11) (C := "ZoneAnswersModel") (T := T_Mo) (N := 21) hx hb hts zi_Mo hown hK hG k4 rfl 2 (by decide) (hts _ w_1283) (fun _ h9 => h9) rfl d_Mo_dataOf_203 ?_
        have hGo206 := hG
        refine zk_i (va_runS (As := [.ref (h 1), .int (nI (x + 0)), .int (nI tp.length)]) (rest := []) ⟨hx, hb, hml, hown, hts⟩ (t_Ns_end l E G175 (h 1) 65536 fm k5 rt3 (by decide) (x + 0) tp.length (by omega) (by omega)) (zcS 3 hts w_1366 w_1367 w_33 w_1368 (by decide +kernel) ⟨Nat.le_of_ble_eq_true rfl, Nat.le_of_ble_eq_true rfl⟩) (zc_pre hbase hK hN hQ hG hS) rfl rfl hl.1 rfl (lv_room (Nat.le_of_ble_eq_true rfl)) d_Mo_dataOf_206 ⟨(by dsimp only; omega), (by dsimp only; omega)⟩) hS (fun r206 G206 H locs hp206 hG hS => ?_)
        have hG : zP E G175 H := hp206.2 ▸ hG
        have hzE : zE (fun j => tp.getD (x + 0 + j) 0) (tp.length - (x + 0)) (x + 0) r206 := zE_cg (fun j hj => rt2 _ (by omega)) hp206.1
        have hdn := zdn_y hof ho6 hx9 rtl hzE
        refine lv_aload_n hx hb d_Mo_dataOf_209 rfl (lv_at hl 3 rfl) ?_
        refine zg_get (ci := 11) (C := "ZoneAnswersModel") (T := T_Mo) (N := 21) hx hb hts zi_Mo hown hK hG k4 rfl 2 (by decide) (hts _ w_1283) (fun _ h9 => h9) rfl d_Mo_dataOf_210 ?_
        refine lv_icmp_eq (tgt := 218) hx hb d_Mo_dataOf_213 (by decide) (fun c213 => ?_) (fun c213 => ?_)
        · have hzd : zdat tp t x := (zdat_nm htn).mpr (hdn.mp c213)
          obtain ⟨o8, ls8, ho8, h68, hn8, hl8⟩ := hdn.mp c213
          have hg8 := hn8.1.2
          have ho8e : o8 = 0 := (nI_eq (by omega) (by omega)).mp (ho8.symm.trans hof)
          refine lv_aload_n hx hb d_Mo_dataOf_218 rfl (lv_at hl 3 rfl) ?_
          refine zg_get (ci := 11) (C := "ZoneAnswersModel") (T := T_Mo) (N := 21) hx hb hts zi_Mo hown hK hG k4 rfl 1 (by decide) (hts _ w_1282) (fun _ h9 => h9) rfl d_Mo_dataOf_219 ?_
          refine lv_iload_n hx hb d_Mo_dataOf_222 rfl (lv_at hl 5 rfl) ?_
          refine lv_iload hx hb d_Mo_dataOf_223 (lv_at hl 1 rfl) ?_
          refine lv_iadd hx hb d_Mo_dataOf_225 ?_
          refine zi_as (y := nI (x + 0)) (nI_add x 0) ?_
          refine lv_aload_n hx hb d_Mo_dataOf_226 rfl (lv_at hl 3 rfl) ?_
          refine zg_get (ci := 11) (C := "ZoneAnswersModel") (T := T_Mo) (N := 21) hx hb hts zi_Mo hown hK hG k4 rfl 2 (by decide) (hts _ w_1283) (fun _ h9 => h9) rfl d_Mo_dataOf_227 ?_
          have hGo230 := hG
          refine zk_q (va_runS (As := [.ref (h 1), .int (nI (x + 0)), .int (nI tp.length)]) (rest := []) ⟨hx, hb, hml, hown, hts⟩ (t_Ns_lower l E G175 (h 1) 65536 fm k5 rt3 (by decide) (x + 0) tp.length (by omega) (by omega)) (zcS 3 hts w_1369 w_1370 w_33 w_1371 (by decide +kernel) ⟨Nat.le_of_ble_eq_true rfl, Nat.le_of_ble_eq_true rfl⟩) (zc_pre hbase hK hN hQ hG hS) rfl rfl hl.1 rfl (lv_room (Nat.le_of_ble_eq_true rfl)) d_Mo_dataOf_230 ⟨(by dsimp only; omega), (by dsimp only; omega)⟩) hS (fun r230 G230 H locs hp230 hG hS => ?_)
          obtain ⟨q230, f230, er230, nq230, hx230, hq230, hft230, hlo230⟩ := hp230
          refine zr_some (a := q230) er230 ?_
          have k7 : G230 a = some (.inr (11, [.int th, .ref (h 1), .int (nI tp.length), .ref (h 3), .ref (h 4), .int (nI rs.length), .ref (h 6), .ref (h 7), .ref (h 8), .ref (h 9), .ref (h 10), .ref (h 11), .ref (h 12), .int (nI (wln Wz)), .int co, .ref (h 15), .int (nI (rPw Wz + px.length)), .int se, .ref (h 18), v19, v20])) := hx230.o k4
          have ne_q230_a : a ≠ q230 := zg_fr nq230 k4
          have k8 : G230 (h 1) = some (.inl (E.2.1 0, 65536, .inl fm)) := hx230.o k5
          have ne_q230_h_1 : h 1 ≠ q230 := zg_fr nq230 k5
          have k9 : G230 q175 = some (.inl (E.2.1 0, tp.length - x, .inl f175)) := hx230.o hq175
          have ne_q230_q175 : q175 ≠ q230 := zg_fr nq230 hq175
          have hx10 : zx z0 G G230 := hx6.tr (hx230.w (fun _ z => z.elim))
          refine lv_astore (lv' := [(6, .ref q230), (5, .ref q175), (4, .int (nI 0)), (3, .int (nI (tp.length - x))), (0, .ref a), (1, .int t), (2, .int (nI x))]) hx hb d_Mo_dataOf_233 hl (by decide) rfl (fun ls hl => ?_)
          refine lv_iconst (v := 0) hx hb d_Mo_dataOf_235 (by decide) ?_
          refine zi_as (y := nI 0) (nI_0.symm) ?_
          refine lv_istore (lv' := [(7, .int (nI 0)), (6, .ref q230), (5, .ref q175), (4, .int (nI 0)), (3, .int (nI (tp.length - x))), (0, .ref a), (1, .int t), (2, .int (nI x))]) hx hb d_Mo_dataOf_236 hl (by decide) rfl (fun ls hl => ?_)
          have loop238 : ∀ (N : Nat) (Gx : zg_G) (i : Nat) (fj : Nat → Int32) (H : Heap) (locs : List Loc), (tp.length - (x + 0) - i) < N → (i ≤ tp.length - (x + 0)) → (sb_Fit fj) → (∀ j, j < tp.length - x → fj j = if 0 ≤ j ∧ j < 0 + i then zlow (tp.getD (x + j) 0) else tp.getD (x + j) 0) → (Gx q175 = some (.inl (E.2.1 0, tp.length - x, .inl fj))) → (Gx q230 = some (.inl (E.2.1 0, tp.length - (x + 0), .inl f230))) → (zx z0 G Gx) → zP E Gx H → zg_S (zc_b E) s.heap H locs → ∀ (ls : Array Slot), lv_has ls 8 [(4, .int (nI 0)), (5, .ref q175), (6, .ref q230), (7, .int (nI i))] → W p l e (rm_Mo_dataOf (tp.length - x)) s m args below meth c H locs 2 (tp.length - x + 255) Q (F0 m 238 ls []) := by
            intro N
            induction N with
            | zero =>
              intro Gx i fj H locs hlt
              exact absurd hlt (Nat.not_lt_zero _)
            | succ N ih =>
              intro Gx i fj H locs hlt hi hftj hqj kk_q175 kk_q230 hxl hG hS ls hl
              refine lv_iload hx hb d_Mo_dataOf_238 (lv_at hl 3 rfl) ?_
              refine lv_aload hx hb d_Mo_dataOf_240 (lv_at hl 2 rfl) ?_
              refine zg_alen hx hb hK hG 0 kk_q230 rfl (v := nI (tp.length - (x + 0))) rfl d_Mo_dataOf_242 ?_
              refine lv_icmp_ge (tgt := 265) hx hb d_Mo_dataOf_243 (by decide) (fun c243 => ?_) (fun c243 => ?_)
              · have b243 : (tp.length - (x + 0)) ≤ i := (nI_leI (a := (tp.length - (x + 0))) (b := i) (by omega) (by omega)).mp c243
                refine lv_aload hx hb d_Mo_dataOf_265 (lv_at hl 1 rfl) ?_
                exact hret (some q175) _ _ _ _ _ _ _ _ hr (Or.inr ⟨_, rfl⟩) (Or.inl ⟨hzd, q175, fj, rfl, nq175, hxl, by rw [zdb_len]; exact kk_q175, rdo_2 hof ho6 (by omega) hqj, hftj⟩) hG hS (by dsimp only; omega) (by dsimp only; omega) d_Mo_dataOf_267
              · have b243 : ¬ (tp.length - (x + 0)) ≤ i := fun q => c243 ((nI_leI (a := (tp.length - (x + 0))) (b := i) (by omega) (by omega)).mpr q)
                refine lv_aload hx hb d_Mo_dataOf_246 (lv_at hl 1 rfl) ?_
                refine lv_iload hx hb d_Mo_dataOf_248 (lv_at hl 0 rfl) ?_
                refine lv_iload hx hb d_Mo_dataOf_250 (lv_at hl 3 rfl) ?_
                refine lv_iadd hx hb d_Mo_dataOf_252 ?_
                refine zi_as (y := nI (0 + i)) (nI_add 0 i) ?_
                refine lv_aload hx hb d_Mo_dataOf_253 (lv_at hl 2 rfl) ?_
                refine lv_iload hx hb d_Mo_dataOf_255 (lv_at hl 3 rfl) ?_
                refine zg_bald hx hb hK hG 0 kk_q230 rfl (vp_in_nI (by omega) (by omega)) d_Mo_dataOf_257 ?_
                refine zi_as (y := f230 i) (by rw [zi_n _ (by omega)]) ?_
                refine zg_bast hx hb hK hG hS 0 kk_q175 rfl (vp_in_nI (by omega) (by omega)) d_Mo_dataOf_258 (fun H locs hG hS => ?_)
                rw [zi_n (0 + i) (by omega)] at hG
                obtain ⟨G11, eG11⟩ : ∃ z : zg_G, z = zg_up Gx q175 (.inl (E.2.1 0, tp.length - x, .inl (upd fj (0 + i) (vp_nar .byte (f230 i))))) := ⟨_, rfl⟩
                have hG : zP E G11 H := by rw [eG11]; exact hG
                have hx12 : zx z0 G G11 := by rw [eG11]; exact hxl.upn nq175
                have k13 : G11 q175 = some (.inl (E.2.1 0, tp.length - x, .inl (upd fj (0 + i) (vp_nar .byte (f230 i))))) := by rw [eG11]; exact zg_up_self _ _ _
                have k14 : G11 q230 = some (.inl (E.2.1 0, tp.length - (x + 0), .inl f230)) := by rw [eG11, zg_up_ne (Ne.symm ne_q230_q175)]; exact kk_q230
                refine lv_iinc (v := nI (i + 1)) (lv' := [(7, .int (nI (i + 1))), (4, .int (nI 0)), (5, .ref q175), (6, .ref q230)]) hx hb d_Mo_dataOf_259 hl (k := 3) rfl (nI_add i 1) (by decide) rfl (fun ls hl => ?_)
                refine lv_goto (tgt := 238) hx hb d_Mo_dataOf_262 (by decide) ?_
                exact ih G11 (i + 1) (upd fj (0 + i) (vp_nar .byte (f230 i))) _ _ (by omega) (by omega) (zf_fitu hftj) (rdo_1 (by omega) hqj hlo230 rt2 (vp_nar_b (hft230 i))) (k13) (k14) (hx12) hG hS ls (lv_sub hl [1, 2, 3, 0] rfl)
          refine zW_more (cells2 := 2) (slots2 := tp.length - x + 255) (by dsimp only; omega) (by dsimp only; omega) ?_
          exact loop238 _ G230 0 f175 _ _ (Nat.lt_succ_self _) (Nat.zero_le _) (hft175) (fun j hj => by rw [if_neg (by omega), hlo175 j hj, rt2 _ (by omega)]) (k9) (hq230) (hx10) hG hS ls (lv_sub hl [3, 2, 1, 0] rfl)
        · refine lv_null hx hb d_Mo_dataOf_216 ?_
          exact hret none _ _ _ _ _ _ _ _ hr (Or.inr ⟨_, rfl⟩) (Or.inr ⟨fun q => by have q := (zdat_nm htn).mp q; first | exact c213 (hdn.mpr q) | (have := zdn_le hof ho6 q; omega), rfl, hx6⟩) hG hS (by dsimp only; omega) (by dsimp only; omega) d_Mo_dataOf_217
    · have b182 : ¬ 0 ≤ 0 := fun q => c182 ((nI_leI (a := 0) (b := 0) (by omega) (by omega)).mpr q)
      exact absurd (show (0 : Int32) ≤ _ by decide) c182
  by_cases s11_5 : t = 5
  · refine lv_lookup (off := 88) (tgt := 99) hx hb d_Mo_dataOf_11 (by decide) (by rw [s11_5]; decide) (by decide) ?_
    refine lv_iconst (v := 0) hx hb d_Mo_dataOf_99 (by decide) ?_
    refine zi_as (y := nI 0) (nI_0.symm) ?_
    refine lv_istore (lv' := [(4, .int (nI 0)), (3, .int (nI (tp.length - x))), (0, .ref a), (1, .int t), (2, .int (nI x))]) hx hb d_Mo_dataOf_100 hl (by decide) rfl (fun ls hl => ?_)
    refine lv_goto (tgt := 166) hx hb d_Mo_dataOf_102 (by decide) ?_
    have htn : t = 2 ∨ t = 5 ∨ t = 12 ∨ t = 15 ∨ t = 33 := by first | exact Or.inl s11_2 | exact Or.inr (Or.inl s11_5) | exact Or.inr (Or.inr (Or.inl s11_12)) | exact Or.inr (Or.inr (Or.inr (Or.inl s11_15))) | exact Or.inr (Or.inr (Or.inr (Or.inr s11_33)))
    have hof : zoff t = nI 0 := by first | (rw [s11_2]; decide) | (rw [s11_5]; decide) | (rw [s11_12]; decide) | (rw [s11_15]; decide) | (rw [s11_33]; decide)
    have ho6 : 0 ≤ 6 := by decide
    refine lv_aload_n hx hb d_Mo_dataOf_166 rfl (lv_at hl 2 rfl) ?_
    refine zg_get (ci := 11) (C := "ZoneAnswersModel") (T := T_Mo) (N := 21) hx hb hts zi_Mo hown hK hG ra rfl 1 (by decide) (hts _ w_1282) (fun _ h9 => h9) rfl d_Mo_dataOf_167 ?_
    refine lv_iload_n hx hb d_Mo_dataOf_170 rfl (lv_at hl 4 rfl) ?_
    refine lv_aload_n hx hb d_Mo_dataOf_171 rfl (lv_at hl 2 rfl) ?_
    refine zg_get (ci := 11) (C := "ZoneAnswersModel") (T := T_Mo) (N := 21) hx hb hts zi_Mo hown hK hG ra rfl 2 (by decide) (hts _ w_1283) (fun _ h9 => h9) rfl d_Mo_dataOf_172 ?_
    have hGo175 := hG
    refine zk_q (va_runS (As := [.ref (h 1), .int (nI x), .int (nI tp.length)]) (rest := []) ⟨hx, hb, hml, hown, hts⟩ (t_Ns_cut l E G (h 1) 65536 fm rt1 rt3 (by decide) x tp.length hx9 (by omega)) (zcS 3 hts w_1391 w_1373 w_33 w_1374 (by decide +kernel) ⟨Nat.le_of_ble_eq_true rfl, Nat.le_of_ble_eq_true rfl⟩) (zc_pre hbase hK hN hQ hG hS) rfl rfl hl.1 rfl (lv_room (Nat.le_of_ble_eq_true rfl)) d_Mo_dataOf_175 ⟨(by dsimp only; omega), (by dsimp only; omega)⟩) hS (fun r175 G175 H locs hp175 hG hS => ?_)
    obtain ⟨q175, f175, er175, nq175, hx175, hq175, hft175, hlo175⟩ := hp175
    refine zr_some (a := q175) er175 ?_
    have k15 : G175 a = some (.inr (11, [.int th, .ref (h 1), .int (nI tp.length), .ref (h 3), .ref (h 4), .int (nI rs.length), .ref (h 6), .ref (h 7), .ref (h 8), .ref (h 9), .ref (h 10), .ref (h 11), .ref (h 12), .int (nI (wln Wz)), .int co, .ref (h 15), .int (nI (rPw Wz + px.length)), .int se, .ref (h 18), v19, v20])) := hx175.o ra
    have ne_q175_a : a ≠ q175 := zg_fr nq175 ra
    have k16 : G175 (h 1) = some (.inl (E.2.1 0, 65536, .inl fm)) := hx175.o rt1
    have ne_q175_h_1 : h 1 ≠ q175 := zg_fr nq175 rt1
    have hx17 : zx z0 G G175 := hx0.tr (hx175.w (fun _ z => z.elim))
    refine lv_astore (lv' := [(5, .ref q175), (4, .int (nI 0)), (3, .int (nI (tp.length - x))), (0, .ref a), (1, .int t), (2, .int (nI x))]) hx hb d_Mo_dataOf_178 hl (by decide) rfl (fun ls hl => ?_)
    refine lv_iload hx hb d_Mo_dataOf_180 (lv_at hl 1 rfl) ?_
    refine lv_if_ge (tgt := 188) hx hb d_Mo_dataOf_182 (by decide) (fun c182 => ?_) (fun c182 => ?_)
    · have b182 : 0 ≤ 0 := (nI_leI (a := 0) (b := 0) (by omega) (by omega)).mp c182
      refine lv_iload_n hx hb d_Mo_dataOf_188 rfl (lv_at hl 2 rfl) ?_
      refine lv_iload hx hb d_Mo_dataOf_189 (lv_at hl 1 rfl) ?_
      refine lv_icmp_lt (tgt := 216) hx hb d_Mo_dataOf_191 (by decide) (fun c191 => ?_) (fun c191 => ?_)
      · have b191 : (tp.length - x) < 0 := (nI_ltI (a := (tp.length - x)) (b := 0) (by omega) (by omega)).mp c191
        refine lv_null hx hb d_Mo_dataOf_216 ?_
        exact hret none _ _ _ _ _ _ _ _ hr (Or.inr ⟨_, rfl⟩) (Or.inr ⟨fun q => by have q := (zdat_nm htn).mp q; first | exact c213 (hdn.mpr q) | (have := zdn_le hof ho6 q; omega), rfl, hx17⟩) hG hS (by dsimp only; omega) (by dsimp only; omega) d_Mo_dataOf_217
      · have b191 : ¬ (tp.length - x) < 0 := fun q => c191 ((nI_ltI (a := (tp.length - x)) (b := 0) (by omega) (by omega)).mpr q)
        refine lv_aload_n hx hb d_Mo_dataOf_194 rfl (lv_at hl 3 rfl) ?_
        refine zg_get (ci := 11) (C := "ZoneAnswersModel") (T := T_Mo) (N := 21) hx hb hts zi_Mo hown hK hG k15 rfl 1 (by decide) (hts _ w_1282) (fun _ h9 => h9) rfl d_Mo_dataOf_195 ?_
        refine lv_iload_n hx hb d_Mo_dataOf_198 rfl (lv_at hl 5 rfl) ?_
        refine lv_iload hx hb d_Mo_dataOf_199 (lv_at hl 1 rfl) ?_
        refine lv_iadd hx hb d_Mo_dataOf_201 ?_
        refine zi_as (y := nI (x + 0)) (nI_add x 0) ?_
        refine lv_aload_n hx hb d_Mo_dataOf_202 rfl (lv_at hl 3 rfl) ?_
        refine zg_get (ci := 11) (C := "ZoneAnswersModel") (T := T_Mo) (N := 21) hx hb hts zi_Mo hown hK hG k15 rfl 2 (by decide) (hts _ w_1283) (fun _ h9 => h9) rfl d_Mo_dataOf_203 ?_
        have hGo206 := hG
        refine zk_i (va_runS (As := [.ref (h 1), .int (nI (x + 0)), .int (nI tp.length)]) (rest := []) ⟨hx, hb, hml, hown, hts⟩ (t_Ns_end l E G175 (h 1) 65536 fm k16 rt3 (by decide) (x + 0) tp.length (by omega) (by omega)) (zcS 3 hts w_1366 w_1367 w_33 w_1368 (by decide +kernel) ⟨Nat.le_of_ble_eq_true rfl, Nat.le_of_ble_eq_true rfl⟩) (zc_pre hbase hK hN hQ hG hS) rfl rfl hl.1 rfl (lv_room (Nat.le_of_ble_eq_true rfl)) d_Mo_dataOf_206 ⟨(by dsimp only; omega), (by dsimp only; omega)⟩) hS (fun r206 G206 H locs hp206 hG hS => ?_)
        have hG : zP E G175 H := hp206.2 ▸ hG
        have hzE : zE (fun j => tp.getD (x + 0 + j) 0) (tp.length - (x + 0)) (x + 0) r206 := zE_cg (fun j hj => rt2 _ (by omega)) hp206.1
        have hdn := zdn_y hof ho6 hx9 rtl hzE
        refine lv_aload_n hx hb d_Mo_dataOf_209 rfl (lv_at hl 3 rfl) ?_
        refine zg_get (ci := 11) (C := "ZoneAnswersModel") (T := T_Mo) (N := 21) hx hb hts zi_Mo hown hK hG k15 rfl 2 (by decide) (hts _ w_1283) (fun _ h9 => h9) rfl d_Mo_dataOf_210 ?_
        refine lv_icmp_eq (tgt := 218) hx hb d_Mo_dataOf_213 (by decide) (fun c213 => ?_) (fun c213 => ?_)
        · have hzd : zdat tp t x := (zdat_nm htn).mpr (hdn.mp c213)
          obtain ⟨o8, ls8, ho8, h68, hn8, hl8⟩ := hdn.mp c213
          have hg8 := hn8.1.2
          have ho8e : o8 = 0 := (nI_eq (by omega) (by omega)).mp (ho8.symm.trans hof)
          refine lv_aload_n hx hb d_Mo_dataOf_218 rfl (lv_at hl 3 rfl) ?_
          refine zg_get (ci := 11) (C := "ZoneAnswersModel") (T := T_Mo) (N := 21) hx hb hts zi_Mo hown hK hG k15 rfl 1 (by decide) (hts _ w_1282) (fun _ h9 => h9) rfl d_Mo_dataOf_219 ?_
          refine lv_iload_n hx hb d_Mo_dataOf_222 rfl (lv_at hl 5 rfl) ?_
          refine lv_iload hx hb d_Mo_dataOf_223 (lv_at hl 1 rfl) ?_
          refine lv_iadd hx hb d_Mo_dataOf_225 ?_
          refine zi_as (y := nI (x + 0)) (nI_add x 0) ?_
          refine lv_aload_n hx hb d_Mo_dataOf_226 rfl (lv_at hl 3 rfl) ?_
          refine zg_get (ci := 11) (C := "ZoneAnswersModel") (T := T_Mo) (N := 21) hx hb hts zi_Mo hown hK hG k15 rfl 2 (by decide) (hts _ w_1283) (fun _ h9 => h9) rfl d_Mo_dataOf_227 ?_
          have hGo230 := hG
          refine zk_q (va_runS (As := [.ref (h 1), .int (nI (x + 0)), .int (nI tp.length)]) (rest := []) ⟨hx, hb, hml, hown, hts⟩ (t_Ns_lower l E G175 (h 1) 65536 fm k16 rt3 (by decide) (x + 0) tp.length (by omega) (by omega)) (zcS 3 hts w_1369 w_1370 w_33 w_1371 (by decide +kernel) ⟨Nat.le_of_ble_eq_true rfl, Nat.le_of_ble_eq_true rfl⟩) (zc_pre hbase hK hN hQ hG hS) rfl rfl hl.1 rfl (lv_room (Nat.le_of_ble_eq_true rfl)) d_Mo_dataOf_230 ⟨(by dsimp only; omega), (by dsimp only; omega)⟩) hS (fun r230 G230 H locs hp230 hG hS => ?_)
          obtain ⟨q230, f230, er230, nq230, hx230, hq230, hft230, hlo230⟩ := hp230
          refine zr_some (a := q230) er230 ?_
          have k18 : G230 a = some (.inr (11, [.int th, .ref (h 1), .int (nI tp.length), .ref (h 3), .ref (h 4), .int (nI rs.length), .ref (h 6), .ref (h 7), .ref (h 8), .ref (h 9), .ref (h 10), .ref (h 11), .ref (h 12), .int (nI (wln Wz)), .int co, .ref (h 15), .int (nI (rPw Wz + px.length)), .int se, .ref (h 18), v19, v20])) := hx230.o k15
          have ne_q230_a : a ≠ q230 := zg_fr nq230 k15
          have k19 : G230 (h 1) = some (.inl (E.2.1 0, 65536, .inl fm)) := hx230.o k16
          have ne_q230_h_1 : h 1 ≠ q230 := zg_fr nq230 k16
          have k20 : G230 q175 = some (.inl (E.2.1 0, tp.length - x, .inl f175)) := hx230.o hq175
          have ne_q230_q175 : q175 ≠ q230 := zg_fr nq230 hq175
          have hx21 : zx z0 G G230 := hx17.tr (hx230.w (fun _ z => z.elim))
          refine lv_astore (lv' := [(6, .ref q230), (5, .ref q175), (4, .int (nI 0)), (3, .int (nI (tp.length - x))), (0, .ref a), (1, .int t), (2, .int (nI x))]) hx hb d_Mo_dataOf_233 hl (by decide) rfl (fun ls hl => ?_)
          refine lv_iconst (v := 0) hx hb d_Mo_dataOf_235 (by decide) ?_
          refine zi_as (y := nI 0) (nI_0.symm) ?_
          refine lv_istore (lv' := [(7, .int (nI 0)), (6, .ref q230), (5, .ref q175), (4, .int (nI 0)), (3, .int (nI (tp.length - x))), (0, .ref a), (1, .int t), (2, .int (nI x))]) hx hb d_Mo_dataOf_236 hl (by decide) rfl (fun ls hl => ?_)
          have loop238 : ∀ (N : Nat) (Gx : zg_G) (i : Nat) (fj : Nat → Int32) (H : Heap) (locs : List Loc), (tp.length - (x + 0) - i) < N → (i ≤ tp.length - (x + 0)) → (sb_Fit fj) → (∀ j, j < tp.length - x → fj j = if 0 ≤ j ∧ j < 0 + i then zlow (tp.getD (x + j) 0) else tp.getD (x + j) 0) → (Gx q175 = some (.inl (E.2.1 0, tp.length - x, .inl fj))) → (Gx q230 = some (.inl (E.2.1 0, tp.length - (x + 0), .inl f230))) → (zx z0 G Gx) → zP E Gx H → zg_S (zc_b E) s.heap H locs → ∀ (ls : Array Slot), lv_has ls 8 [(4, .int (nI 0)), (5, .ref q175), (6, .ref q230), (7, .int (nI i))] → W p l e (rm_Mo_dataOf (tp.length - x)) s m args below meth c H locs 2 (tp.length - x + 255) Q (F0 m 238 ls []) := by
            intro N
            induction N with
            | zero =>
              intro Gx i fj H locs hlt
              exact absurd hlt (Nat.not_lt_zero _)
            | succ N ih =>
              intro Gx i fj H locs hlt hi hftj hqj kk_q175 kk_q230 hxl hG hS ls hl
              refine lv_iload hx hb d_Mo_dataOf_238 (lv_at hl 3 rfl) ?_
              refine lv_aload hx hb d_Mo_dataOf_240 (lv_at hl 2 rfl) ?_
              refine zg_alen hx hb hK hG 0 kk_q230 rfl (v := nI (tp.length - (x + 0))) rfl d_Mo_dataOf_242 ?_
              refine lv_icmp_ge (tgt := 265) hx hb d_Mo_dataOf_243 (by decide) (fun c243 => ?_) (fun c243 => ?_)
              · have b243 : (tp.length - (x + 0)) ≤ i := (nI_leI (a := (tp.length - (x + 0))) (b := i) (by omega) (by omega)).mp c243
                refine lv_aload hx hb d_Mo_dataOf_265 (lv_at hl 1 rfl) ?_
                exact hret (some q175) _ _ _ _ _ _ _ _ hr (Or.inr ⟨_, rfl⟩) (Or.inl ⟨hzd, q175, fj, rfl, nq175, hxl, by rw [zdb_len]; exact kk_q175, rdo_2 hof ho6 (by omega) hqj, hftj⟩) hG hS (by dsimp only; omega) (by dsimp only; omega) d_Mo_dataOf_267
              · have b243 : ¬ (tp.length - (x + 0)) ≤ i := fun q => c243 ((nI_leI (a := (tp.length - (x + 0))) (b := i) (by omega) (by omega)).mpr q)
                refine lv_aload hx hb d_Mo_dataOf_246 (lv_at hl 1 rfl) ?_
                refine lv_iload hx hb d_Mo_dataOf_248 (lv_at hl 0 rfl) ?_
                refine lv_iload hx hb d_Mo_dataOf_250 (lv_at hl 3 rfl) ?_
                refine lv_iadd hx hb d_Mo_dataOf_252 ?_
                refine zi_as (y := nI (0 + i)) (nI_add 0 i) ?_
                refine lv_aload hx hb d_Mo_dataOf_253 (lv_at hl 2 rfl) ?_
                refine lv_iload hx hb d_Mo_dataOf_255 (lv_at hl 3 rfl) ?_
                refine zg_bald hx hb hK hG 0 kk_q230 rfl (vp_in_nI (by omega) (by omega)) d_Mo_dataOf_257 ?_
                refine zi_as (y := f230 i) (by rw [zi_n _ (by omega)]) ?_
                refine zg_bast hx hb hK hG hS 0 kk_q175 rfl (vp_in_nI (by omega) (by omega)) d_Mo_dataOf_258 (fun H locs hG hS => ?_)
                rw [zi_n (0 + i) (by omega)] at hG
                obtain ⟨G22, eG22⟩ : ∃ z : zg_G, z = zg_up Gx q175 (.inl (E.2.1 0, tp.length - x, .inl (upd fj (0 + i) (vp_nar .byte (f230 i))))) := ⟨_, rfl⟩
                have hG : zP E G22 H := by rw [eG22]; exact hG
                have hx23 : zx z0 G G22 := by rw [eG22]; exact hxl.upn nq175
                have k24 : G22 q175 = some (.inl (E.2.1 0, tp.length - x, .inl (upd fj (0 + i) (vp_nar .byte (f230 i))))) := by rw [eG22]; exact zg_up_self _ _ _
                have k25 : G22 q230 = some (.inl (E.2.1 0, tp.length - (x + 0), .inl f230)) := by rw [eG22, zg_up_ne (Ne.symm ne_q230_q175)]; exact kk_q230
                refine lv_iinc (v := nI (i + 1)) (lv' := [(7, .int (nI (i + 1))), (4, .int (nI 0)), (5, .ref q175), (6, .ref q230)]) hx hb d_Mo_dataOf_259 hl (k := 3) rfl (nI_add i 1) (by decide) rfl (fun ls hl => ?_)
                refine lv_goto (tgt := 238) hx hb d_Mo_dataOf_262 (by decide) ?_
                exact ih G22 (i + 1) (upd fj (0 + i) (vp_nar .byte (f230 i))) _ _ (by omega) (by omega) (zf_fitu hftj) (rdo_1 (by omega) hqj hlo230 rt2 (vp_nar_b (hft230 i))) (k24) (k25) (hx23) hG hS ls (lv_sub hl [1, 2, 3, 0] rfl)
          refine zW_more (cells2 := 2) (slots2 := tp.length - x + 255) (by dsimp only; omega) (by dsimp only; omega) ?_
          exact loop238 _ G230 0 f175 _ _ (Nat.lt_succ_self _) (Nat.zero_le _) (hft175) (fun j hj => by rw [if_neg (by omega), hlo175 j hj, rt2 _ (by omega)]) (k20) (hq230) (hx21) hG hS ls (lv_sub hl [3, 2, 1, 0] rfl)
        · refine lv_null hx hb d_Mo_dataOf_216 ?_
          exact hret none _ _ _ _ _ _ _ _ hr (Or.inr ⟨_, rfl⟩) (Or.inr ⟨fun q => by have q := (zdat_nm htn).mp q; first | exact c213 (hdn.mpr q) | (have := zdn_le hof ho6 q; omega), rfl, hx17⟩) hG hS (by dsimp only; omega) (by dsimp only; omega) d_Mo_dataOf_217
    · have b182 : ¬ 0 ≤ 0 := fun q => c182 ((nI_leI (a := 0) (b := 0) (by omega) (by omega)).mpr q)
      exact absurd (show (0 : Int32) ≤ _ by decide) c182
  by_cases s11_12 : t = 12
  · refine lv_lookup (off := 88) (tgt := 99) hx hb d_Mo_dataOf_11 (by decide) (by rw [s11_12]; decide) (by decide) ?_
    refine lv_iconst (v := 0) hx hb d_Mo_dataOf_99 (by decide) ?_
    refine zi_as (y := nI 0) (nI_0.symm) ?_
    refine lv_istore (lv' := [(4, .int (nI 0)), (3, .int (nI (tp.length - x))), (0, .ref a), (1, .int t), (2, .int (nI x))]) hx hb d_Mo_dataOf_100 hl (by decide) rfl (fun ls hl => ?_)
    refine lv_goto (tgt := 166) hx hb d_Mo_dataOf_102 (by decide) ?_
    have htn : t = 2 ∨ t = 5 ∨ t = 12 ∨ t = 15 ∨ t = 33 := by first | exact Or.inl s11_2 | exact Or.inr (Or.inl s11_5) | exact Or.inr (Or.inr (Or.inl s11_12)) | exact Or.inr (Or.inr (Or.inr (Or.inl s11_15))) | exact Or.inr (Or.inr (Or.inr (Or.inr s11_33)))
    have hof : zoff t = nI 0 := by first | (rw [s11_2]; decide) | (rw [s11_5]; decide) | (rw [s11_12]; decide) | (rw [s11_15]; decide) | (rw [s11_33]; decide)
    have ho6 : 0 ≤ 6 := by decide
    refine lv_aload_n hx hb d_Mo_dataOf_166 rfl (lv_at hl 2 rfl) ?_
    refine zg_get (ci := 11) (C := "ZoneAnswersModel") (T := T_Mo) (N := 21) hx hb hts zi_Mo hown hK hG ra rfl 1 (by decide) (hts _ w_1282) (fun _ h9 => h9) rfl d_Mo_dataOf_167 ?_
    refine lv_iload_n hx hb d_Mo_dataOf_170 rfl (lv_at hl 4 rfl) ?_
    refine lv_aload_n hx hb d_Mo_dataOf_171 rfl (lv_at hl 2 rfl) ?_
    refine zg_get (ci := 11) (C := "ZoneAnswersModel") (T := T_Mo) (N := 21) hx hb hts zi_Mo hown hK hG ra rfl 2 (by decide) (hts _ w_1283) (fun _ h9 => h9) rfl d_Mo_dataOf_172 ?_
    have hGo175 := hG
    refine zk_q (va_runS (As := [.ref (h 1), .int (nI x), .int (nI tp.length)]) (rest := []) ⟨hx, hb, hml, hown, hts⟩ (t_Ns_cut l E G (h 1) 65536 fm rt1 rt3 (by decide) x tp.length hx9 (by omega)) (zcS 3 hts w_1391 w_1373 w_33 w_1374 (by decide +kernel) ⟨Nat.le_of_ble_eq_true rfl, Nat.le_of_ble_eq_true rfl⟩) (zc_pre hbase hK hN hQ hG hS) rfl rfl hl.1 rfl (lv_room (Nat.le_of_ble_eq_true rfl)) d_Mo_dataOf_175 ⟨(by dsimp only; omega), (by dsimp only; omega)⟩) hS (fun r175 G175 H locs hp175 hG hS => ?_)
    obtain ⟨q175, f175, er175, nq175, hx175, hq175, hft175, hlo175⟩ := hp175
    refine zr_some (a := q175) er175 ?_
    have k26 : G175 a = some (.inr (11, [.int th, .ref (h 1), .int (nI tp.length), .ref (h 3), .ref (h 4), .int (nI rs.length), .ref (h 6), .ref (h 7), .ref (h 8), .ref (h 9), .ref (h 10), .ref (h 11), .ref (h 12), .int (nI (wln Wz)), .int co, .ref (h 15), .int (nI (rPw Wz + px.length)), .int se, .ref (h 18), v19, v20])) := hx175.o ra
    have ne_q175_a : a ≠ q175 := zg_fr nq175 ra
    have k27 : G175 (h 1) = some (.inl (E.2.1 0, 65536, .inl fm)) := hx175.o rt1
    have ne_q175_h_1 : h 1 ≠ q175 := zg_fr nq175 rt1
    have hx28 : zx z0 G G175 := hx0.tr (hx175.w (fun _ z => z.elim))
    refine lv_astore (lv' := [(5, .ref q175), (4, .int (nI 0)), (3, .int (nI (tp.length - x))), (0, .ref a), (1, .int t), (2, .int (nI x))]) hx hb d_Mo_dataOf_178 hl (by decide) rfl (fun ls hl => ?_)
    refine lv_iload hx hb d_Mo_dataOf_180 (lv_at hl 1 rfl) ?_
    refine lv_if_ge (tgt := 188) hx hb d_Mo_dataOf_182 (by decide) (fun c182 => ?_) (fun c182 => ?_)
    · have b182 : 0 ≤ 0 := (nI_leI (a := 0) (b := 0) (by omega) (by omega)).mp c182
      refine lv_iload_n hx hb d_Mo_dataOf_188 rfl (lv_at hl 2 rfl) ?_
      refine lv_iload hx hb d_Mo_dataOf_189 (lv_at hl 1 rfl) ?_
      refine lv_icmp_lt (tgt := 216) hx hb d_Mo_dataOf_191 (by decide) (fun c191 => ?_) (fun c191 => ?_)
      · have b191 : (tp.length - x) < 0 := (nI_ltI (a := (tp.length - x)) (b := 0) (by omega) (by omega)).mp c191
        refine lv_null hx hb d_Mo_dataOf_216 ?_
        exact hret none _ _ _ _ _ _ _ _ hr (Or.inr ⟨_, rfl⟩) (Or.inr ⟨fun q => by have q := (zdat_nm htn).mp q; first | exact c213 (hdn.mpr q) | (have := zdn_le hof ho6 q; omega), rfl, hx28⟩) hG hS (by dsimp only; omega) (by dsimp only; omega) d_Mo_dataOf_217
      · have b191 : ¬ (tp.length - x) < 0 := fun q => c191 ((nI_ltI (a := (tp.length - x)) (b := 0) (by omega) (by omega)).mpr q)
        refine lv_aload_n hx hb d_Mo_dataOf_194 rfl (lv_at hl 3 rfl) ?_
        refine zg_get (ci := 11) (C := "ZoneAnswersModel") (T := T_Mo) (N := 21) hx hb hts zi_Mo hown hK hG k26 rfl 1 (by decide) (hts _ w_1282) (fun _ h9 => h9) rfl d_Mo_dataOf_195 ?_
        refine lv_iload_n hx hb d_Mo_dataOf_198 rfl (lv_at hl 5 rfl) ?_
        refine lv_iload hx hb d_Mo_dataOf_199 (lv_at hl 1 rfl) ?_
        refine lv_iadd hx hb d_Mo_dataOf_201 ?_
        refine zi_as (y := nI (x + 0)) (nI_add x 0) ?_
        refine lv_aload_n hx hb d_Mo_dataOf_202 rfl (lv_at hl 3 rfl) ?_
        refine zg_get (ci := 11) (C := "ZoneAnswersModel") (T := T_Mo) (N := 21) hx hb hts zi_Mo hown hK hG k26 rfl 2 (by decide) (hts _ w_1283) (fun _ h9 => h9) rfl d_Mo_dataOf_203 ?_
        have hGo206 := hG
        refine zk_i (va_runS (As := [.ref (h 1), .int (nI (x + 0)), .int (nI tp.length)]) (rest := []) ⟨hx, hb, hml, hown, hts⟩ (t_Ns_end l E G175 (h 1) 65536 fm k27 rt3 (by decide) (x + 0) tp.length (by omega) (by omega)) (zcS 3 hts w_1366 w_1367 w_33 w_1368 (by decide +kernel) ⟨Nat.le_of_ble_eq_true rfl, Nat.le_of_ble_eq_true rfl⟩) (zc_pre hbase hK hN hQ hG hS) rfl rfl hl.1 rfl (lv_room (Nat.le_of_ble_eq_true rfl)) d_Mo_dataOf_206 ⟨(by dsimp only; omega), (by dsimp only; omega)⟩) hS (fun r206 G206 H locs hp206 hG hS => ?_)
        have hG : zP E G175 H := hp206.2 ▸ hG
        have hzE : zE (fun j => tp.getD (x + 0 + j) 0) (tp.length - (x + 0)) (x + 0) r206 := zE_cg (fun j hj => rt2 _ (by omega)) hp206.1
        have hdn := zdn_y hof ho6 hx9 rtl hzE
        refine lv_aload_n hx hb d_Mo_dataOf_209 rfl (lv_at hl 3 rfl) ?_
        refine zg_get (ci := 11) (C := "ZoneAnswersModel") (T := T_Mo) (N := 21) hx hb hts zi_Mo hown hK hG k26 rfl 2 (by decide) (hts _ w_1283) (fun _ h9 => h9) rfl d_Mo_dataOf_210 ?_
        refine lv_icmp_eq (tgt := 218) hx hb d_Mo_dataOf_213 (by decide) (fun c213 => ?_) (fun c213 => ?_)
        · have hzd : zdat tp t x := (zdat_nm htn).mpr (hdn.mp c213)
          obtain ⟨o8, ls8, ho8, h68, hn8, hl8⟩ := hdn.mp c213
          have hg8 := hn8.1.2
          have ho8e : o8 = 0 := (nI_eq (by omega) (by omega)).mp (ho8.symm.trans hof)
          refine lv_aload_n hx hb d_Mo_dataOf_218 rfl (lv_at hl 3 rfl) ?_
          refine zg_get (ci := 11) (C := "ZoneAnswersModel") (T := T_Mo) (N := 21) hx hb hts zi_Mo hown hK hG k26 rfl 1 (by decide) (hts _ w_1282) (fun _ h9 => h9) rfl d_Mo_dataOf_219 ?_
          refine lv_iload_n hx hb d_Mo_dataOf_222 rfl (lv_at hl 5 rfl) ?_
          refine lv_iload hx hb d_Mo_dataOf_223 (lv_at hl 1 rfl) ?_
          refine lv_iadd hx hb d_Mo_dataOf_225 ?_
          refine zi_as (y := nI (x + 0)) (nI_add x 0) ?_
          refine lv_aload_n hx hb d_Mo_dataOf_226 rfl (lv_at hl 3 rfl) ?_
          refine zg_get (ci := 11) (C := "ZoneAnswersModel") (T := T_Mo) (N := 21) hx hb hts zi_Mo hown hK hG k26 rfl 2 (by decide) (hts _ w_1283) (fun _ h9 => h9) rfl d_Mo_dataOf_227 ?_
          have hGo230 := hG
          refine zk_q (va_runS (As := [.ref (h 1), .int (nI (x + 0)), .int (nI tp.length)]) (rest := []) ⟨hx, hb, hml, hown, hts⟩ (t_Ns_lower l E G175 (h 1) 65536 fm k27 rt3 (by decide) (x + 0) tp.length (by omega) (by omega)) (zcS 3 hts w_1369 w_1370 w_33 w_1371 (by decide +kernel) ⟨Nat.le_of_ble_eq_true rfl, Nat.le_of_ble_eq_true rfl⟩) (zc_pre hbase hK hN hQ hG hS) rfl rfl hl.1 rfl (lv_room (Nat.le_of_ble_eq_true rfl)) d_Mo_dataOf_230 ⟨(by dsimp only; omega), (by dsimp only; omega)⟩) hS (fun r230 G230 H locs hp230 hG hS => ?_)
          obtain ⟨q230, f230, er230, nq230, hx230, hq230, hft230, hlo230⟩ := hp230
          refine zr_some (a := q230) er230 ?_
          have k29 : G230 a = some (.inr (11, [.int th, .ref (h 1), .int (nI tp.length), .ref (h 3), .ref (h 4), .int (nI rs.length), .ref (h 6), .ref (h 7), .ref (h 8), .ref (h 9), .ref (h 10), .ref (h 11), .ref (h 12), .int (nI (wln Wz)), .int co, .ref (h 15), .int (nI (rPw Wz + px.length)), .int se, .ref (h 18), v19, v20])) := hx230.o k26
          have ne_q230_a : a ≠ q230 := zg_fr nq230 k26
          have k30 : G230 (h 1) = some (.inl (E.2.1 0, 65536, .inl fm)) := hx230.o k27
          have ne_q230_h_1 : h 1 ≠ q230 := zg_fr nq230 k27
          have k31 : G230 q175 = some (.inl (E.2.1 0, tp.length - x, .inl f175)) := hx230.o hq175
          have ne_q230_q175 : q175 ≠ q230 := zg_fr nq230 hq175
          have hx32 : zx z0 G G230 := hx28.tr (hx230.w (fun _ z => z.elim))
          refine lv_astore (lv' := [(6, .ref q230), (5, .ref q175), (4, .int (nI 0)), (3, .int (nI (tp.length - x))), (0, .ref a), (1, .int t), (2, .int (nI x))]) hx hb d_Mo_dataOf_233 hl (by decide) rfl (fun ls hl => ?_)
          refine lv_iconst (v := 0) hx hb d_Mo_dataOf_235 (by decide) ?_
          refine zi_as (y := nI 0) (nI_0.symm) ?_
          refine lv_istore (lv' := [(7, .int (nI 0)), (6, .ref q230), (5, .ref q175), (4, .int (nI 0)), (3, .int (nI (tp.length - x))), (0, .ref a), (1, .int t), (2, .int (nI x))]) hx hb d_Mo_dataOf_236 hl (by decide) rfl (fun ls hl => ?_)
          have loop238 : ∀ (N : Nat) (Gx : zg_G) (i : Nat) (fj : Nat → Int32) (H : Heap) (locs : List Loc), (tp.length - (x + 0) - i) < N → (i ≤ tp.length - (x + 0)) → (sb_Fit fj) → (∀ j, j < tp.length - x → fj j = if 0 ≤ j ∧ j < 0 + i then zlow (tp.getD (x + j) 0) else tp.getD (x + j) 0) → (Gx q175 = some (.inl (E.2.1 0, tp.length - x, .inl fj))) → (Gx q230 = some (.inl (E.2.1 0, tp.length - (x + 0), .inl f230))) → (zx z0 G Gx) → zP E Gx H → zg_S (zc_b E) s.heap H locs → ∀ (ls : Array Slot), lv_has ls 8 [(4, .int (nI 0)), (5, .ref q175), (6, .ref q230), (7, .int (nI i))] → W p l e (rm_Mo_dataOf (tp.length - x)) s m args below meth c H locs 2 (tp.length - x + 255) Q (F0 m 238 ls []) := by
            intro N
            induction N with
            | zero =>
              intro Gx i fj H locs hlt
              exact absurd hlt (Nat.not_lt_zero _)
            | succ N ih =>
              intro Gx i fj H locs hlt hi hftj hqj kk_q175 kk_q230 hxl hG hS ls hl
              refine lv_iload hx hb d_Mo_dataOf_238 (lv_at hl 3 rfl) ?_
              refine lv_aload hx hb d_Mo_dataOf_240 (lv_at hl 2 rfl) ?_
              refine zg_alen hx hb hK hG 0 kk_q230 rfl (v := nI (tp.length - (x + 0))) rfl d_Mo_dataOf_242 ?_
              refine lv_icmp_ge (tgt := 265) hx hb d_Mo_dataOf_243 (by decide) (fun c243 => ?_) (fun c243 => ?_)
              · have b243 : (tp.length - (x + 0)) ≤ i := (nI_leI (a := (tp.length - (x + 0))) (b := i) (by omega) (by omega)).mp c243
                refine lv_aload hx hb d_Mo_dataOf_265 (lv_at hl 1 rfl) ?_
                exact hret (some q175) _ _ _ _ _ _ _ _ hr (Or.inr ⟨_, rfl⟩) (Or.inl ⟨hzd, q175, fj, rfl, nq175, hxl, by rw [zdb_len]; exact kk_q175, rdo_2 hof ho6 (by omega) hqj, hftj⟩) hG hS (by dsimp only; omega) (by dsimp only; omega) d_Mo_dataOf_267
              · have b243 : ¬ (tp.length - (x + 0)) ≤ i := fun q => c243 ((nI_leI (a := (tp.length - (x + 0))) (b := i) (by omega) (by omega)).mpr q)
                refine lv_aload hx hb d_Mo_dataOf_246 (lv_at hl 1 rfl) ?_
                refine lv_iload hx hb d_Mo_dataOf_248 (lv_at hl 0 rfl) ?_
                refine lv_iload hx hb d_Mo_dataOf_250 (lv_at hl 3 rfl) ?_
                refine lv_iadd hx hb d_Mo_dataOf_252 ?_
                refine zi_as (y := nI (0 + i)) (nI_add 0 i) ?_
                refine lv_aload hx hb d_Mo_dataOf_253 (lv_at hl 2 rfl) ?_
                refine lv_iload hx hb d_Mo_dataOf_255 (lv_at hl 3 rfl) ?_
                refine zg_bald hx hb hK hG 0 kk_q230 rfl (vp_in_nI (by omega) (by omega)) d_Mo_dataOf_257 ?_
                refine zi_as (y := f230 i) (by rw [zi_n _ (by omega)]) ?_
                refine zg_bast hx hb hK hG hS 0 kk_q175 rfl (vp_in_nI (by omega) (by omega)) d_Mo_dataOf_258 (fun H locs hG hS => ?_)
                rw [zi_n (0 + i) (by omega)] at hG
                obtain ⟨G33, eG33⟩ : ∃ z : zg_G, z = zg_up Gx q175 (.inl (E.2.1 0, tp.length - x, .inl (upd fj (0 + i) (vp_nar .byte (f230 i))))) := ⟨_, rfl⟩
                have hG : zP E G33 H := by rw [eG33]; exact hG
                have hx34 : zx z0 G G33 := by rw [eG33]; exact hxl.upn nq175
                have k35 : G33 q175 = some (.inl (E.2.1 0, tp.length - x, .inl (upd fj (0 + i) (vp_nar .byte (f230 i))))) := by rw [eG33]; exact zg_up_self _ _ _
                have k36 : G33 q230 = some (.inl (E.2.1 0, tp.length - (x + 0), .inl f230)) := by rw [eG33, zg_up_ne (Ne.symm ne_q230_q175)]; exact kk_q230
                refine lv_iinc (v := nI (i + 1)) (lv' := [(7, .int (nI (i + 1))), (4, .int (nI 0)), (5, .ref q175), (6, .ref q230)]) hx hb d_Mo_dataOf_259 hl (k := 3) rfl (nI_add i 1) (by decide) rfl (fun ls hl => ?_)
                refine lv_goto (tgt := 238) hx hb d_Mo_dataOf_262 (by decide) ?_
                exact ih G33 (i + 1) (upd fj (0 + i) (vp_nar .byte (f230 i))) _ _ (by omega) (by omega) (zf_fitu hftj) (rdo_1 (by omega) hqj hlo230 rt2 (vp_nar_b (hft230 i))) (k35) (k36) (hx34) hG hS ls (lv_sub hl [1, 2, 3, 0] rfl)
          refine zW_more (cells2 := 2) (slots2 := tp.length - x + 255) (by dsimp only; omega) (by dsimp only; omega) ?_
          exact loop238 _ G230 0 f175 _ _ (Nat.lt_succ_self _) (Nat.zero_le _) (hft175) (fun j hj => by rw [if_neg (by omega), hlo175 j hj, rt2 _ (by omega)]) (k31) (hq230) (hx32) hG hS ls (lv_sub hl [3, 2, 1, 0] rfl)
        · refine lv_null hx hb d_Mo_dataOf_216 ?_
          exact hret none _ _ _ _ _ _ _ _ hr (Or.inr ⟨_, rfl⟩) (Or.inr ⟨fun q => by have q := (zdat_nm htn).mp q; first | exact c213 (hdn.mpr q) | (have := zdn_le hof ho6 q; omega), rfl, hx28⟩) hG hS (by dsimp only; omega) (by dsimp only; omega) d_Mo_dataOf_217
    · have b182 : ¬ 0 ≤ 0 := fun q => c182 ((nI_leI (a := 0) (b := 0) (by omega) (by omega)).mpr q)
      exact absurd (show (0 : Int32) ≤ _ by decide) c182
  by_cases s11_15 : t = 15
  · refine lv_lookup (off := 94) (tgt := 105) hx hb d_Mo_dataOf_11 (by decide) (by rw [s11_15]; decide) (by decide) ?_
    refine lv_iconst (v := 2) hx hb d_Mo_dataOf_105 (by decide) ?_
    refine zi_as (y := nI 2) (by decide) ?_
    refine lv_istore (lv' := [(4, .int (nI 2)), (3, .int (nI (tp.length - x))), (0, .ref a), (1, .int t), (2, .int (nI x))]) hx hb d_Mo_dataOf_106 hl (by decide) rfl (fun ls hl => ?_)
    refine lv_goto (tgt := 166) hx hb d_Mo_dataOf_108 (by decide) ?_
    have htn : t = 2 ∨ t = 5 ∨ t = 12 ∨ t = 15 ∨ t = 33 := by first | exact Or.inl s11_2 | exact Or.inr (Or.inl s11_5) | exact Or.inr (Or.inr (Or.inl s11_12)) | exact Or.inr (Or.inr (Or.inr (Or.inl s11_15))) | exact Or.inr (Or.inr (Or.inr (Or.inr s11_33)))
    have hof : zoff t = nI 2 := by first | (rw [s11_2]; decide) | (rw [s11_5]; decide) | (rw [s11_12]; decide) | (rw [s11_15]; decide) | (rw [s11_33]; decide)
    have ho6 : 2 ≤ 6 := by decide
    refine lv_aload_n hx hb d_Mo_dataOf_166 rfl (lv_at hl 2 rfl) ?_
    refine zg_get (ci := 11) (C := "ZoneAnswersModel") (T := T_Mo) (N := 21) hx hb hts zi_Mo hown hK hG ra rfl 1 (by decide) (hts _ w_1282) (fun _ h9 => h9) rfl d_Mo_dataOf_167 ?_
    refine lv_iload_n hx hb d_Mo_dataOf_170 rfl (lv_at hl 4 rfl) ?_
    refine lv_aload_n hx hb d_Mo_dataOf_171 rfl (lv_at hl 2 rfl) ?_
    refine zg_get (ci := 11) (C := "ZoneAnswersModel") (T := T_Mo) (N := 21) hx hb hts zi_Mo hown hK hG ra rfl 2 (by decide) (hts _ w_1283) (fun _ h9 => h9) rfl d_Mo_dataOf_172 ?_
    have hGo175 := hG
    refine zk_q (va_runS (As := [.ref (h 1), .int (nI x), .int (nI tp.length)]) (rest := []) ⟨hx, hb, hml, hown, hts⟩ (t_Ns_cut l E G (h 1) 65536 fm rt1 rt3 (by decide) x tp.length hx9 (by omega)) (zcS 3 hts w_1391 w_1373 w_33 w_1374 (by decide +kernel) ⟨Nat.le_of_ble_eq_true rfl, Nat.le_of_ble_eq_true rfl⟩) (zc_pre hbase hK hN hQ hG hS) rfl rfl hl.1 rfl (lv_room (Nat.le_of_ble_eq_true rfl)) d_Mo_dataOf_175 ⟨(by dsimp only; omega), (by dsimp only; omega)⟩) hS (fun r175 G175 H locs hp175 hG hS => ?_)
    obtain ⟨q175, f175, er175, nq175, hx175, hq175, hft175, hlo175⟩ := hp175
    refine zr_some (a := q175) er175 ?_
    have k37 : G175 a = some (.inr (11, [.int th, .ref (h 1), .int (nI tp.length), .ref (h 3), .ref (h 4), .int (nI rs.length), .ref (h 6), .ref (h 7), .ref (h 8), .ref (h 9), .ref (h 10), .ref (h 11), .ref (h 12), .int (nI (wln Wz)), .int co, .ref (h 15), .int (nI (rPw Wz + px.length)), .int se, .ref (h 18), v19, v20])) := hx175.o ra
    have ne_q175_a : a ≠ q175 := zg_fr nq175 ra
    have k38 : G175 (h 1) = some (.inl (E.2.1 0, 65536, .inl fm)) := hx175.o rt1
    have ne_q175_h_1 : h 1 ≠ q175 := zg_fr nq175 rt1
    have hx39 : zx z0 G G175 := hx0.tr (hx175.w (fun _ z => z.elim))
    refine lv_astore (lv' := [(5, .ref q175), (4, .int (nI 2)), (3, .int (nI (tp.length - x))), (0, .ref a), (1, .int t), (2, .int (nI x))]) hx hb d_Mo_dataOf_178 hl (by decide) rfl (fun ls hl => ?_)
    refine lv_iload hx hb d_Mo_dataOf_180 (lv_at hl 1 rfl) ?_
    refine lv_if_ge (tgt := 188) hx hb d_Mo_dataOf_182 (by decide) (fun c182 => ?_) (fun c182 => ?_)
    · have b182 : 0 ≤ 2 := (nI_leI (a := 0) (b := 2) (by omega) (by omega)).mp c182
      refine lv_iload_n hx hb d_Mo_dataOf_188 rfl (lv_at hl 2 rfl) ?_
      refine lv_iload hx hb d_Mo_dataOf_189 (lv_at hl 1 rfl) ?_
      refine lv_icmp_lt (tgt := 216) hx hb d_Mo_dataOf_191 (by decide) (fun c191 => ?_) (fun c191 => ?_)
      · have b191 : (tp.length - x) < 2 := (nI_ltI (a := (tp.length - x)) (b := 2) (by omega) (by omega)).mp c191
        refine lv_null hx hb d_Mo_dataOf_216 ?_
        exact hret none _ _ _ _ _ _ _ _ hr (Or.inr ⟨_, rfl⟩) (Or.inr ⟨fun q => by have q := (zdat_nm htn).mp q; first | exact c213 (hdn.mpr q) | (have := zdn_le hof ho6 q; omega), rfl, hx39⟩) hG hS (by dsimp only; omega) (by dsimp only; omega) d_Mo_dataOf_217
      · have b191 : ¬ (tp.length - x) < 2 := fun q => c191 ((nI_ltI (a := (tp.length - x)) (b := 2) (by omega) (by omega)).mpr q)
        refine lv_aload_n hx hb d_Mo_dataOf_194 rfl (lv_at hl 3 rfl) ?_
        refine zg_get (ci := 11) (C := "ZoneAnswersModel") (T := T_Mo) (N := 21) hx hb hts zi_Mo hown hK hG k37 rfl 1 (by decide) (hts _ w_1282) (fun _ h9 => h9) rfl d_Mo_dataOf_195 ?_
        refine lv_iload_n hx hb d_Mo_dataOf_198 rfl (lv_at hl 5 rfl) ?_
        refine lv_iload hx hb d_Mo_dataOf_199 (lv_at hl 1 rfl) ?_
        refine lv_iadd hx hb d_Mo_dataOf_201 ?_
        refine zi_as (y := nI (x + 2)) (nI_add x 2) ?_
        refine lv_aload_n hx hb d_Mo_dataOf_202 rfl (lv_at hl 3 rfl) ?_
        refine zg_get (ci := 11) (C := "ZoneAnswersModel") (T := T_Mo) (N := 21) hx hb hts zi_Mo hown hK hG k37 rfl 2 (by decide) (hts _ w_1283) (fun _ h9 => h9) rfl d_Mo_dataOf_203 ?_
        have hGo206 := hG
        refine zk_i (va_runS (As := [.ref (h 1), .int (nI (x + 2)), .int (nI tp.length)]) (rest := []) ⟨hx, hb, hml, hown, hts⟩ (t_Ns_end l E G175 (h 1) 65536 fm k38 rt3 (by decide) (x + 2) tp.length (by omega) (by omega)) (zcS 3 hts w_1366 w_1367 w_33 w_1368 (by decide +kernel) ⟨Nat.le_of_ble_eq_true rfl, Nat.le_of_ble_eq_true rfl⟩) (zc_pre hbase hK hN hQ hG hS) rfl rfl hl.1 rfl (lv_room (Nat.le_of_ble_eq_true rfl)) d_Mo_dataOf_206 ⟨(by dsimp only; omega), (by dsimp only; omega)⟩) hS (fun r206 G206 H locs hp206 hG hS => ?_)
        have hG : zP E G175 H := hp206.2 ▸ hG
        have hzE : zE (fun j => tp.getD (x + 2 + j) 0) (tp.length - (x + 2)) (x + 2) r206 := zE_cg (fun j hj => rt2 _ (by omega)) hp206.1
        have hdn := zdn_y hof ho6 hx9 rtl hzE
        refine lv_aload_n hx hb d_Mo_dataOf_209 rfl (lv_at hl 3 rfl) ?_
        refine zg_get (ci := 11) (C := "ZoneAnswersModel") (T := T_Mo) (N := 21) hx hb hts zi_Mo hown hK hG k37 rfl 2 (by decide) (hts _ w_1283) (fun _ h9 => h9) rfl d_Mo_dataOf_210 ?_
        refine lv_icmp_eq (tgt := 218) hx hb d_Mo_dataOf_213 (by decide) (fun c213 => ?_) (fun c213 => ?_)
        · have hzd : zdat tp t x := (zdat_nm htn).mpr (hdn.mp c213)
          obtain ⟨o8, ls8, ho8, h68, hn8, hl8⟩ := hdn.mp c213
          have hg8 := hn8.1.2
          have ho8e : o8 = 2 := (nI_eq (by omega) (by omega)).mp (ho8.symm.trans hof)
          refine lv_aload_n hx hb d_Mo_dataOf_218 rfl (lv_at hl 3 rfl) ?_
          refine zg_get (ci := 11) (C := "ZoneAnswersModel") (T := T_Mo) (N := 21) hx hb hts zi_Mo hown hK hG k37 rfl 1 (by decide) (hts _ w_1282) (fun _ h9 => h9) rfl d_Mo_dataOf_219 ?_
          refine lv_iload_n hx hb d_Mo_dataOf_222 rfl (lv_at hl 5 rfl) ?_
          refine lv_iload hx hb d_Mo_dataOf_223 (lv_at hl 1 rfl) ?_
          refine lv_iadd hx hb d_Mo_dataOf_225 ?_
          refine zi_as (y := nI (x + 2)) (nI_add x 2) ?_
          refine lv_aload_n hx hb d_Mo_dataOf_226 rfl (lv_at hl 3 rfl) ?_
          refine zg_get (ci := 11) (C := "ZoneAnswersModel") (T := T_Mo) (N := 21) hx hb hts zi_Mo hown hK hG k37 rfl 2 (by decide) (hts _ w_1283) (fun _ h9 => h9) rfl d_Mo_dataOf_227 ?_
          have hGo230 := hG
          refine zk_q (va_runS (As := [.ref (h 1), .int (nI (x + 2)), .int (nI tp.length)]) (rest := []) ⟨hx, hb, hml, hown, hts⟩ (t_Ns_lower l E G175 (h 1) 65536 fm k38 rt3 (by decide) (x + 2) tp.length (by omega) (by omega)) (zcS 3 hts w_1369 w_1370 w_33 w_1371 (by decide +kernel) ⟨Nat.le_of_ble_eq_true rfl, Nat.le_of_ble_eq_true rfl⟩) (zc_pre hbase hK hN hQ hG hS) rfl rfl hl.1 rfl (lv_room (Nat.le_of_ble_eq_true rfl)) d_Mo_dataOf_230 ⟨(by dsimp only; omega), (by dsimp only; omega)⟩) hS (fun r230 G230 H locs hp230 hG hS => ?_)
          obtain ⟨q230, f230, er230, nq230, hx230, hq230, hft230, hlo230⟩ := hp230
          refine zr_some (a := q230) er230 ?_
          have k40 : G230 a = some (.inr (11, [.int th, .ref (h 1), .int (nI tp.length), .ref (h 3), .ref (h 4), .int (nI rs.length), .ref (h 6), .ref (h 7), .ref (h 8), .ref (h 9), .ref (h 10), .ref (h 11), .ref (h 12), .int (nI (wln Wz)), .int co, .ref (h 15), .int (nI (rPw Wz + px.length)), .int se, .ref (h 18), v19, v20])) := hx230.o k37
          have ne_q230_a : a ≠ q230 := zg_fr nq230 k37
          have k41 : G230 (h 1) = some (.inl (E.2.1 0, 65536, .inl fm)) := hx230.o k38
          have ne_q230_h_1 : h 1 ≠ q230 := zg_fr nq230 k38
          have k42 : G230 q175 = some (.inl (E.2.1 0, tp.length - x, .inl f175)) := hx230.o hq175
          have ne_q230_q175 : q175 ≠ q230 := zg_fr nq230 hq175
          have hx43 : zx z0 G G230 := hx39.tr (hx230.w (fun _ z => z.elim))
          refine lv_astore (lv' := [(6, .ref q230), (5, .ref q175), (4, .int (nI 2)), (3, .int (nI (tp.length - x))), (0, .ref a), (1, .int t), (2, .int (nI x))]) hx hb d_Mo_dataOf_233 hl (by decide) rfl (fun ls hl => ?_)
          refine lv_iconst (v := 0) hx hb d_Mo_dataOf_235 (by decide) ?_
          refine zi_as (y := nI 0) (nI_0.symm) ?_
          refine lv_istore (lv' := [(7, .int (nI 0)), (6, .ref q230), (5, .ref q175), (4, .int (nI 2)), (3, .int (nI (tp.length - x))), (0, .ref a), (1, .int t), (2, .int (nI x))]) hx hb d_Mo_dataOf_236 hl (by decide) rfl (fun ls hl => ?_)
          have loop238 : ∀ (N : Nat) (Gx : zg_G) (i : Nat) (fj : Nat → Int32) (H : Heap) (locs : List Loc), (tp.length - (x + 2) - i) < N → (i ≤ tp.length - (x + 2)) → (sb_Fit fj) → (∀ j, j < tp.length - x → fj j = if 2 ≤ j ∧ j < 2 + i then zlow (tp.getD (x + j) 0) else tp.getD (x + j) 0) → (Gx q175 = some (.inl (E.2.1 0, tp.length - x, .inl fj))) → (Gx q230 = some (.inl (E.2.1 0, tp.length - (x + 2), .inl f230))) → (zx z0 G Gx) → zP E Gx H → zg_S (zc_b E) s.heap H locs → ∀ (ls : Array Slot), lv_has ls 8 [(4, .int (nI 2)), (5, .ref q175), (6, .ref q230), (7, .int (nI i))] → W p l e (rm_Mo_dataOf (tp.length - x)) s m args below meth c H locs 2 (tp.length - x + 255) Q (F0 m 238 ls []) := by
            intro N
            induction N with
            | zero =>
              intro Gx i fj H locs hlt
              exact absurd hlt (Nat.not_lt_zero _)
            | succ N ih =>
              intro Gx i fj H locs hlt hi hftj hqj kk_q175 kk_q230 hxl hG hS ls hl
              refine lv_iload hx hb d_Mo_dataOf_238 (lv_at hl 3 rfl) ?_
              refine lv_aload hx hb d_Mo_dataOf_240 (lv_at hl 2 rfl) ?_
              refine zg_alen hx hb hK hG 0 kk_q230 rfl (v := nI (tp.length - (x + 2))) rfl d_Mo_dataOf_242 ?_
              refine lv_icmp_ge (tgt := 265) hx hb d_Mo_dataOf_243 (by decide) (fun c243 => ?_) (fun c243 => ?_)
              · have b243 : (tp.length - (x + 2)) ≤ i := (nI_leI (a := (tp.length - (x + 2))) (b := i) (by omega) (by omega)).mp c243
                refine lv_aload hx hb d_Mo_dataOf_265 (lv_at hl 1 rfl) ?_
                exact hret (some q175) _ _ _ _ _ _ _ _ hr (Or.inr ⟨_, rfl⟩) (Or.inl ⟨hzd, q175, fj, rfl, nq175, hxl, by rw [zdb_len]; exact kk_q175, rdo_2 hof ho6 (by omega) hqj, hftj⟩) hG hS (by dsimp only; omega) (by dsimp only; omega) d_Mo_dataOf_267
              · have b243 : ¬ (tp.length - (x + 2)) ≤ i := fun q => c243 ((nI_leI (a := (tp.length - (x + 2))) (b := i) (by omega) (by omega)).mpr q)
                refine lv_aload hx hb d_Mo_dataOf_246 (lv_at hl 1 rfl) ?_
                refine lv_iload hx hb d_Mo_dataOf_248 (lv_at hl 0 rfl) ?_
                refine lv_iload hx hb d_Mo_dataOf_250 (lv_at hl 3 rfl) ?_
                refine lv_iadd hx hb d_Mo_dataOf_252 ?_
                refine zi_as (y := nI (2 + i)) (nI_add 2 i) ?_
                refine lv_aload hx hb d_Mo_dataOf_253 (lv_at hl 2 rfl) ?_
                refine lv_iload hx hb d_Mo_dataOf_255 (lv_at hl 3 rfl) ?_
                refine zg_bald hx hb hK hG 0 kk_q230 rfl (vp_in_nI (by omega) (by omega)) d_Mo_dataOf_257 ?_
                refine zi_as (y := f230 i) (by rw [zi_n _ (by omega)]) ?_
                refine zg_bast hx hb hK hG hS 0 kk_q175 rfl (vp_in_nI (by omega) (by omega)) d_Mo_dataOf_258 (fun H locs hG hS => ?_)
                rw [zi_n (2 + i) (by omega)] at hG
                obtain ⟨G44, eG44⟩ : ∃ z : zg_G, z = zg_up Gx q175 (.inl (E.2.1 0, tp.length - x, .inl (upd fj (2 + i) (vp_nar .byte (f230 i))))) := ⟨_, rfl⟩
                have hG : zP E G44 H := by rw [eG44]; exact hG
                have hx45 : zx z0 G G44 := by rw [eG44]; exact hxl.upn nq175
                have k46 : G44 q175 = some (.inl (E.2.1 0, tp.length - x, .inl (upd fj (2 + i) (vp_nar .byte (f230 i))))) := by rw [eG44]; exact zg_up_self _ _ _
                have k47 : G44 q230 = some (.inl (E.2.1 0, tp.length - (x + 2), .inl f230)) := by rw [eG44, zg_up_ne (Ne.symm ne_q230_q175)]; exact kk_q230
                refine lv_iinc (v := nI (i + 1)) (lv' := [(7, .int (nI (i + 1))), (4, .int (nI 2)), (5, .ref q175), (6, .ref q230)]) hx hb d_Mo_dataOf_259 hl (k := 3) rfl (nI_add i 1) (by decide) rfl (fun ls hl => ?_)
                refine lv_goto (tgt := 238) hx hb d_Mo_dataOf_262 (by decide) ?_
                exact ih G44 (i + 1) (upd fj (2 + i) (vp_nar .byte (f230 i))) _ _ (by omega) (by omega) (zf_fitu hftj) (rdo_1 (by omega) hqj hlo230 rt2 (vp_nar_b (hft230 i))) (k46) (k47) (hx45) hG hS ls (lv_sub hl [1, 2, 3, 0] rfl)
          refine zW_more (cells2 := 2) (slots2 := tp.length - x + 255) (by dsimp only; omega) (by dsimp only; omega) ?_
          exact loop238 _ G230 0 f175 _ _ (Nat.lt_succ_self _) (Nat.zero_le _) (hft175) (fun j hj => by rw [if_neg (by omega), hlo175 j hj, rt2 _ (by omega)]) (k42) (hq230) (hx43) hG hS ls (lv_sub hl [3, 2, 1, 0] rfl)
        · refine lv_null hx hb d_Mo_dataOf_216 ?_
          exact hret none _ _ _ _ _ _ _ _ hr (Or.inr ⟨_, rfl⟩) (Or.inr ⟨fun q => by have q := (zdat_nm htn).mp q; first | exact c213 (hdn.mpr q) | (have := zdn_le hof ho6 q; omega), rfl, hx39⟩) hG hS (by dsimp only; omega) (by dsimp only; omega) d_Mo_dataOf_217
    · have b182 : ¬ 0 ≤ 2 := fun q => c182 ((nI_leI (a := 0) (b := 2) (by omega) (by omega)).mpr q)
      exact absurd (show (0 : Int32) ≤ _ by decide) c182
  by_cases s11_16 : t = 16
  · refine lv_lookup (off := 107) (tgt := 118) hx hb d_Mo_dataOf_11 (by decide) (by rw [s11_16]; decide) (by decide) ?_
    refine lv_iload_n hx hb d_Mo_dataOf_118 rfl (lv_at hl 4 rfl) ?_
    refine lv_istore (lv' := [(5, .int (nI x)), (4, .int (-1)), (3, .int (nI (tp.length - x))), (0, .ref a), (1, .int t), (2, .int (nI x))]) hx hb d_Mo_dataOf_119 hl (by decide) rfl (fun ls hl => ?_)
    have loop121 : ∀ (N : Nat) (ee : Nat) (k : Nat), (tp.length - ee) < N → (ee ≤ tp.length + 256) → (tp.length - ee < k) → (zsw (fun j => tp.getD j 0) tp.length k ee = zsw (fun j => tp.getD j 0) tp.length (tp.length + 1) x) → ∀ (ls : Array Slot), lv_has ls 8 [(0, .ref a), (1, .int t), (2, .int (nI x)), (3, .int (nI (tp.length - x))), (4, .int (-1)), (5, .int (nI ee))] → W p l e (rm_Mo_dataOf (tp.length - x)) s m args below meth c s.heap [] 0 0 Q (F0 m 121 ls []) := by
      intro N
      induction N with
      | zero =>
        intro ee k hlt
        exact absurd hlt (Nat.not_lt_zero _)
      | succ N ih =>
        intro ee k hlt he hk hz ls hl
        refine lv_iload hx hb d_Mo_dataOf_121 (lv_at hl 5 rfl) ?_
        refine lv_aload_n hx hb d_Mo_dataOf_123 rfl (lv_at hl 0 rfl) ?_
        refine zg_get (ci := 11) (C := "ZoneAnswersModel") (T := T_Mo) (N := 21) hx hb hts zi_Mo hown hK hG ra rfl 2 (by decide) (hts _ w_1283) (fun _ h9 => h9) rfl d_Mo_dataOf_124 ?_
        refine lv_icmp_ge (tgt := 151) hx hb d_Mo_dataOf_127 (by decide) (fun c127 => ?_) (fun c127 => ?_)
        · have b127 : tp.length ≤ ee := (nI_leI (a := tp.length) (b := ee) (by omega) (by omega)).mp c127
          refine lv_iload_n hx hb d_Mo_dataOf_151 rfl (lv_at hl 3 rfl) ?_
          refine lv_if_eq (tgt := 164) hx hb d_Mo_dataOf_152 (by decide) (fun c152 => ?_) (fun c152 => ?_)
          · have b152 : (tp.length - x) = 0 := (nI_eq (a := (tp.length - x)) (b := 0) (by omega) (by omega)).mp c152
            refine lv_null hx hb d_Mo_dataOf_164 ?_
            exact hret none _ _ _ _ _ _ _ _ hr (Or.inr ⟨_, rfl⟩) (Or.inr ⟨by unfold zdat; rw [if_neg s11_1, if_pos s11_16]; intro q; have q2 := q.2; rw [← hz, zsw_end (by omega)] at q2; have q1 := q.1; omega, rfl, hx0⟩) hG hS (by dsimp only; omega) (by dsimp only; omega) d_Mo_dataOf_165
          · have b152 : ¬ (tp.length - x) = 0 := fun q => c152 ((nI_eq (a := (tp.length - x)) (b := 0) (by omega) (by omega)).mpr q)
            refine lv_iload hx hb d_Mo_dataOf_155 (lv_at hl 5 rfl) ?_
            refine lv_aload_n hx hb d_Mo_dataOf_157 rfl (lv_at hl 0 rfl) ?_
            refine zg_get (ci := 11) (C := "ZoneAnswersModel") (T := T_Mo) (N := 21) hx hb hts zi_Mo hown hK hG ra rfl 2 (by decide) (hts _ w_1283) (fun _ h9 => h9) rfl d_Mo_dataOf_158 ?_
            refine lv_icmp_eq (tgt := 166) hx hb d_Mo_dataOf_161 (by decide) (fun c161 => ?_) (fun c161 => ?_)
            · have b161 : ee = tp.length := (nI_eq (a := ee) (b := tp.length) (by omega) (by omega)).mp c161
              have hof : zoff t < 0 := by first | (rw [s11_1]; decide) | (rw [s11_28]; decide) | (rw [s11_16]; decide) | (rw [zoff_o (fun z => by rcases z with z | z | z | z | z; exact s11_2 z; exact s11_5 z; exact s11_12 z; exact s11_15 z; exact s11_33 z)]; decide)
              have hzd : zdat tp t x := by first | (unfold zdat; rw [if_pos s11_1]; exact b86) | (unfold zdat; rw [if_neg s11_1, if_pos s11_16]; exact ⟨by omega, by rw [← hz, zsw_end (by omega)]; exact b161⟩) | (unfold zdat; rw [if_neg s11_1, if_neg s11_16, if_pos s11_28]; exact b94) | (unfold zdat; rw [if_neg s11_1, if_neg s11_16, if_neg s11_28]; exact Or.inl hof)
              refine lv_aload_n hx hb d_Mo_dataOf_166 rfl (lv_at hl 0 rfl) ?_
              refine zg_get (ci := 11) (C := "ZoneAnswersModel") (T := T_Mo) (N := 21) hx hb hts zi_Mo hown hK hG ra rfl 1 (by decide) (hts _ w_1282) (fun _ h9 => h9) rfl d_Mo_dataOf_167 ?_
              refine lv_iload_n hx hb d_Mo_dataOf_170 rfl (lv_at hl 2 rfl) ?_
              refine lv_aload_n hx hb d_Mo_dataOf_171 rfl (lv_at hl 0 rfl) ?_
              refine zg_get (ci := 11) (C := "ZoneAnswersModel") (T := T_Mo) (N := 21) hx hb hts zi_Mo hown hK hG ra rfl 2 (by decide) (hts _ w_1283) (fun _ h9 => h9) rfl d_Mo_dataOf_172 ?_
              have hGo175 := hG
              refine zk_q (va_runS (As := [.ref (h 1), .int (nI x), .int (nI tp.length)]) (rest := []) ⟨hx, hb, hml, hown, hts⟩ (t_Ns_cut l E G (h 1) 65536 fm rt1 rt3 (by decide) x tp.length hx9 (by omega)) (zcS 3 hts w_1391 w_1373 w_33 w_1374 (by decide +kernel) ⟨Nat.le_of_ble_eq_true rfl, Nat.le_of_ble_eq_true rfl⟩) (zc_pre hbase hK hN hQ hG hS) rfl rfl hl.1 rfl (lv_room (Nat.le_of_ble_eq_true rfl)) d_Mo_dataOf_175 ⟨(by dsimp only; omega), (by dsimp only; omega)⟩) hS (fun r175 G175 H locs hp175 hG hS => ?_)
              obtain ⟨q175, f175, er175, nq175, hx175, hq175, hft175, hlo175⟩ := hp175
              refine zr_some (a := q175) er175 ?_
              have k48 : G175 a = some (.inr (11, [.int th, .ref (h 1), .int (nI tp.length), .ref (h 3), .ref (h 4), .int (nI rs.length), .ref (h 6), .ref (h 7), .ref (h 8), .ref (h 9), .ref (h 10), .ref (h 11), .ref (h 12), .int (nI (wln Wz)), .int co, .ref (h 15), .int (nI (rPw Wz + px.length)), .int se, .ref (h 18), v19, v20])) := hx175.o ra
              have ne_q175_a : a ≠ q175 := zg_fr nq175 ra
              have k49 : G175 (h 1) = some (.inl (E.2.1 0, 65536, .inl fm)) := hx175.o rt1
              have ne_q175_h_1 : h 1 ≠ q175 := zg_fr nq175 rt1
              have hx50 : zx z0 G G175 := hx0.tr (hx175.w (fun _ z => z.elim))
              refine lv_astore (lv' := [(5, .ref q175), (0, .ref a), (1, .int t), (2, .int (nI x)), (3, .int (nI (tp.length - x))), (4, .int (-1))]) hx hb d_Mo_dataOf_178 hl (by decide) rfl (fun ls hl => ?_)
              refine lv_iload hx hb d_Mo_dataOf_180 (lv_at hl 5 rfl) ?_
              refine lv_if_ge (tgt := 188) hx hb d_Mo_dataOf_182 (by decide) (fun c182 => ?_) (fun c182 => ?_)
              · exact absurd c182 (by decide)
              · refine lv_aload hx hb d_Mo_dataOf_185 (lv_at hl 0 rfl) ?_
                exact hret (some q175) _ _ _ _ _ _ _ _ hr (Or.inr ⟨_, rfl⟩) (Or.inl ⟨hzd, q175, f175, rfl, nq175, hx50, by rw [zdb_len]; exact hq175, rdo_0 hof hlo175 rt2, hft175⟩) hG hS (by dsimp only; omega) (by dsimp only; omega) d_Mo_dataOf_187
            · have b161 : ¬ ee = tp.length := fun q => c161 ((nI_eq (a := ee) (b := tp.length) (by omega) (by omega)).mpr q)
              refine lv_null hx hb d_Mo_dataOf_164 ?_
              exact hret none _ _ _ _ _ _ _ _ hr (Or.inr ⟨_, rfl⟩) (Or.inr ⟨by unfold zdat; rw [if_neg s11_1, if_pos s11_16]; intro q; have q2 := q.2; rw [← hz, zsw_end (by omega)] at q2; have q1 := q.1; omega, rfl, hx0⟩) hG hS (by dsimp only; omega) (by dsimp only; omega) d_Mo_dataOf_165
        · have b127 : ¬ tp.length ≤ ee := fun q => c127 ((nI_leI (a := tp.length) (b := ee) (by omega) (by omega)).mpr q)
          obtain ⟨cc, hc1, hc2⟩ := zu8 (rt3 ee)
          have hF9 : (tp.getD ee 0 &&& 255).toNatClampNeg = cc := by rw [← rt2 _ (by omega), hc2, (sb_byte cc hc1).1]; exact nI_clamp (by omega)
          refine lv_iload hx hb d_Mo_dataOf_130 (lv_at hl 5 rfl) ?_
          refine lv_iconst (v := 1) hx hb d_Mo_dataOf_132 (by decide) ?_
          refine lv_aload_n hx hb d_Mo_dataOf_133 rfl (lv_at hl 0 rfl) ?_
          refine zg_get (ci := 11) (C := "ZoneAnswersModel") (T := T_Mo) (N := 21) hx hb hts zi_Mo hown hK hG ra rfl 1 (by decide) (hts _ w_1282) (fun _ h9 => h9) rfl d_Mo_dataOf_134 ?_
          refine lv_iload hx hb d_Mo_dataOf_137 (lv_at hl 5 rfl) ?_
          refine zg_bald hx hb hK hG 0 rt1 rfl (vp_in_nI (by omega) (by omega)) d_Mo_dataOf_139 ?_
          refine zi_as (y := fm ee) (by rw [zi_n _ (by omega)]) ?_
          refine lv_sipush (v := 255) hx hb d_Mo_dataOf_140 (by decide) ?_
          refine lv_iand hx hb d_Mo_dataOf_143 ?_
          refine zi_as (y := nI cc) (by rw [hc2]; exact (sb_byte cc hc1).1) ?_
          refine lv_iadd hx hb d_Mo_dataOf_144 ?_
          refine zi_as (y := nI (1 + cc)) (nI_add 1 cc) ?_
          refine lv_iadd hx hb d_Mo_dataOf_145 ?_
          refine zi_as (y := nI (ee + (1 + cc))) (nI_add ee (1 + cc)) ?_
          refine lv_istore (lv' := [(5, .int (nI (ee + (1 + cc)))), (0, .ref a), (1, .int t), (2, .int (nI x)), (3, .int (nI (tp.length - x))), (4, .int (-1))]) hx hb d_Mo_dataOf_146 hl (by decide) rfl (fun ls hl => ?_)
          refine lv_goto (tgt := 121) hx hb d_Mo_dataOf_148 (by decide) ?_
          exact ih (ee + (1 + cc)) (k - 1) (by omega) (by omega) (by omega) ((zsw_step (F := (fun j => tp.getD j 0)) hk (by omega) hF9).trans hz) ls (lv_sub hl [1, 2, 3, 4, 5, 0] rfl)
    exact loop121 _ x (tp.length + 1) (Nat.lt_succ_self _) (by omega) (by omega) (rfl) ls (lv_sub hl [3, 4, 5, 2, 1, 0] rfl)
  by_cases s11_28 : t = 28
  · refine lv_lookup (off := 80) (tgt := 91) hx hb d_Mo_dataOf_11 (by decide) (by rw [s11_28]; decide) (by decide) ?_
    refine lv_iload_n hx hb d_Mo_dataOf_91 rfl (lv_at hl 1 rfl) ?_
    refine lv_bipush (v := 16) hx hb d_Mo_dataOf_92 (by decide) ?_
    refine lv_icmp_eq (tgt := 166) hx hb d_Mo_dataOf_94 (by decide) (fun c94 => ?_) (fun c94 => ?_)
    · have b94 : (tp.length - x) = 16 := (nI_eq (a := (tp.length - x)) (b := 16) (by omega) (by omega)).mp c94
      have hof : zoff t < 0 := by first | (rw [s11_1]; decide) | (rw [s11_28]; decide) | (rw [s11_16]; decide) | (rw [zoff_o (fun z => by rcases z with z | z | z | z | z; exact s11_2 z; exact s11_5 z; exact s11_12 z; exact s11_15 z; exact s11_33 z)]; decide)
      have hzd : zdat tp t x := by first | (unfold zdat; rw [if_pos s11_1]; exact b86) | (unfold zdat; rw [if_neg s11_1, if_pos s11_16]; exact ⟨by omega, by rw [← hz, zsw_end (by omega)]; exact b161⟩) | (unfold zdat; rw [if_neg s11_1, if_neg s11_16, if_pos s11_28]; exact b94) | (unfold zdat; rw [if_neg s11_1, if_neg s11_16, if_neg s11_28]; exact Or.inl hof)
      refine lv_aload_n hx hb d_Mo_dataOf_166 rfl (lv_at hl 2 rfl) ?_
      refine zg_get (ci := 11) (C := "ZoneAnswersModel") (T := T_Mo) (N := 21) hx hb hts zi_Mo hown hK hG ra rfl 1 (by decide) (hts _ w_1282) (fun _ h9 => h9) rfl d_Mo_dataOf_167 ?_
      refine lv_iload_n hx hb d_Mo_dataOf_170 rfl (lv_at hl 4 rfl) ?_
      refine lv_aload_n hx hb d_Mo_dataOf_171 rfl (lv_at hl 2 rfl) ?_
      refine zg_get (ci := 11) (C := "ZoneAnswersModel") (T := T_Mo) (N := 21) hx hb hts zi_Mo hown hK hG ra rfl 2 (by decide) (hts _ w_1283) (fun _ h9 => h9) rfl d_Mo_dataOf_172 ?_
      have hGo175 := hG
      refine zk_q (va_runS (As := [.ref (h 1), .int (nI x), .int (nI tp.length)]) (rest := []) ⟨hx, hb, hml, hown, hts⟩ (t_Ns_cut l E G (h 1) 65536 fm rt1 rt3 (by decide) x tp.length hx9 (by omega)) (zcS 3 hts w_1391 w_1373 w_33 w_1374 (by decide +kernel) ⟨Nat.le_of_ble_eq_true rfl, Nat.le_of_ble_eq_true rfl⟩) (zc_pre hbase hK hN hQ hG hS) rfl rfl hl.1 rfl (lv_room (Nat.le_of_ble_eq_true rfl)) d_Mo_dataOf_175 ⟨(by dsimp only; omega), (by dsimp only; omega)⟩) hS (fun r175 G175 H locs hp175 hG hS => ?_)
      obtain ⟨q175, f175, er175, nq175, hx175, hq175, hft175, hlo175⟩ := hp175
      refine zr_some (a := q175) er175 ?_
      have k51 : G175 a = some (.inr (11, [.int th, .ref (h 1), .int (nI tp.length), .ref (h 3), .ref (h 4), .int (nI rs.length), .ref (h 6), .ref (h 7), .ref (h 8), .ref (h 9), .ref (h 10), .ref (h 11), .ref (h 12), .int (nI (wln Wz)), .int co, .ref (h 15), .int (nI (rPw Wz + px.length)), .int se, .ref (h 18), v19, v20])) := hx175.o ra
      have ne_q175_a : a ≠ q175 := zg_fr nq175 ra
      have k52 : G175 (h 1) = some (.inl (E.2.1 0, 65536, .inl fm)) := hx175.o rt1
      have ne_q175_h_1 : h 1 ≠ q175 := zg_fr nq175 rt1
      have hx53 : zx z0 G G175 := hx0.tr (hx175.w (fun _ z => z.elim))
      refine lv_astore (lv' := [(5, .ref q175), (4, .int (-1)), (3, .int (nI (tp.length - x))), (0, .ref a), (1, .int t), (2, .int (nI x))]) hx hb d_Mo_dataOf_178 hl (by decide) rfl (fun ls hl => ?_)
      refine lv_iload hx hb d_Mo_dataOf_180 (lv_at hl 1 rfl) ?_
      refine lv_if_ge (tgt := 188) hx hb d_Mo_dataOf_182 (by decide) (fun c182 => ?_) (fun c182 => ?_)
      · exact absurd c182 (by decide)
      · refine lv_aload hx hb d_Mo_dataOf_185 (lv_at hl 0 rfl) ?_
        exact hret (some q175) _ _ _ _ _ _ _ _ hr (Or.inr ⟨_, rfl⟩) (Or.inl ⟨hzd, q175, f175, rfl, nq175, hx53, by rw [zdb_len]; exact hq175, rdo_0 hof hlo175 rt2, hft175⟩) hG hS (by dsimp only; omega) (by dsimp only; omega) d_Mo_dataOf_187
    · have b94 : ¬ (tp.length - x) = 16 := fun q => c94 ((nI_eq (a := (tp.length - x)) (b := 16) (by omega) (by omega)).mpr q)
      refine lv_null hx hb d_Mo_dataOf_97 ?_
      exact hret none _ _ _ _ _ _ _ _ hr (Or.inr ⟨_, rfl⟩) (Or.inr ⟨by unfold zdat; rw [if_neg s11_1, if_neg s11_16, if_pos s11_28]; exact b94, rfl, hx0⟩) hG hS (by dsimp only; omega) (by dsimp only; omega) d_Mo_dataOf_98
  by_cases s11_33 : t = 33
  · refine lv_lookup (off := 100) (tgt := 111) hx hb d_Mo_dataOf_11 (by decide) (by rw [s11_33]; decide) (by decide) ?_
    refine lv_bipush (v := 6) hx hb d_Mo_dataOf_111 (by decide) ?_
    refine zi_as (y := nI 6) (by decide) ?_
    refine lv_istore (lv' := [(4, .int (nI 6)), (3, .int (nI (tp.length - x))), (0, .ref a), (1, .int t), (2, .int (nI x))]) hx hb d_Mo_dataOf_113 hl (by decide) rfl (fun ls hl => ?_)
    refine lv_goto (tgt := 166) hx hb d_Mo_dataOf_115 (by decide) ?_
    have htn : t = 2 ∨ t = 5 ∨ t = 12 ∨ t = 15 ∨ t = 33 := by first | exact Or.inl s11_2 | exact Or.inr (Or.inl s11_5) | exact Or.inr (Or.inr (Or.inl s11_12)) | exact Or.inr (Or.inr (Or.inr (Or.inl s11_15))) | exact Or.inr (Or.inr (Or.inr (Or.inr s11_33)))
    have hof : zoff t = nI 6 := by first | (rw [s11_2]; decide) | (rw [s11_5]; decide) | (rw [s11_12]; decide) | (rw [s11_15]; decide) | (rw [s11_33]; decide)
    have ho6 : 6 ≤ 6 := by decide
    refine lv_aload_n hx hb d_Mo_dataOf_166 rfl (lv_at hl 2 rfl) ?_
    refine zg_get (ci := 11) (C := "ZoneAnswersModel") (T := T_Mo) (N := 21) hx hb hts zi_Mo hown hK hG ra rfl 1 (by decide) (hts _ w_1282) (fun _ h9 => h9) rfl d_Mo_dataOf_167 ?_
    refine lv_iload_n hx hb d_Mo_dataOf_170 rfl (lv_at hl 4 rfl) ?_
    refine lv_aload_n hx hb d_Mo_dataOf_171 rfl (lv_at hl 2 rfl) ?_
    refine zg_get (ci := 11) (C := "ZoneAnswersModel") (T := T_Mo) (N := 21) hx hb hts zi_Mo hown hK hG ra rfl 2 (by decide) (hts _ w_1283) (fun _ h9 => h9) rfl d_Mo_dataOf_172 ?_
    have hGo175 := hG
    refine zk_q (va_runS (As := [.ref (h 1), .int (nI x), .int (nI tp.length)]) (rest := []) ⟨hx, hb, hml, hown, hts⟩ (t_Ns_cut l E G (h 1) 65536 fm rt1 rt3 (by decide) x tp.length hx9 (by omega)) (zcS 3 hts w_1391 w_1373 w_33 w_1374 (by decide +kernel) ⟨Nat.le_of_ble_eq_true rfl, Nat.le_of_ble_eq_true rfl⟩) (zc_pre hbase hK hN hQ hG hS) rfl rfl hl.1 rfl (lv_room (Nat.le_of_ble_eq_true rfl)) d_Mo_dataOf_175 ⟨(by dsimp only; omega), (by dsimp only; omega)⟩) hS (fun r175 G175 H locs hp175 hG hS => ?_)
    obtain ⟨q175, f175, er175, nq175, hx175, hq175, hft175, hlo175⟩ := hp175
    refine zr_some (a := q175) er175 ?_
    have k54 : G175 a = some (.inr (11, [.int th, .ref (h 1), .int (nI tp.length), .ref (h 3), .ref (h 4), .int (nI rs.length), .ref (h 6), .ref (h 7), .ref (h 8), .ref (h 9), .ref (h 10), .ref (h 11), .ref (h 12), .int (nI (wln Wz)), .int co, .ref (h 15), .int (nI (rPw Wz + px.length)), .int se, .ref (h 18), v19, v20])) := hx175.o ra
    have ne_q175_a : a ≠ q175 := zg_fr nq175 ra
    have k55 : G175 (h 1) = some (.inl (E.2.1 0, 65536, .inl fm)) := hx175.o rt1
    have ne_q175_h_1 : h 1 ≠ q175 := zg_fr nq175 rt1
    have hx56 : zx z0 G G175 := hx0.tr (hx175.w (fun _ z => z.elim))
    refine lv_astore (lv' := [(5, .ref q175), (4, .int (nI 6)), (3, .int (nI (tp.length - x))), (0, .ref a), (1, .int t), (2, .int (nI x))]) hx hb d_Mo_dataOf_178 hl (by decide) rfl (fun ls hl => ?_)
    refine lv_iload hx hb d_Mo_dataOf_180 (lv_at hl 1 rfl) ?_
    refine lv_if_ge (tgt := 188) hx hb d_Mo_dataOf_182 (by decide) (fun c182 => ?_) (fun c182 => ?_)
    · have b182 : 0 ≤ 6 := (nI_leI (a := 0) (b := 6) (by omega) (by omega)).mp c182
      refine lv_iload_n hx hb d_Mo_dataOf_188 rfl (lv_at hl 2 rfl) ?_
      refine lv_iload hx hb d_Mo_dataOf_189 (lv_at hl 1 rfl) ?_
      refine lv_icmp_lt (tgt := 216) hx hb d_Mo_dataOf_191 (by decide) (fun c191 => ?_) (fun c191 => ?_)
      · have b191 : (tp.length - x) < 6 := (nI_ltI (a := (tp.length - x)) (b := 6) (by omega) (by omega)).mp c191
        refine lv_null hx hb d_Mo_dataOf_216 ?_
        exact hret none _ _ _ _ _ _ _ _ hr (Or.inr ⟨_, rfl⟩) (Or.inr ⟨fun q => by have q := (zdat_nm htn).mp q; first | exact c213 (hdn.mpr q) | (have := zdn_le hof ho6 q; omega), rfl, hx56⟩) hG hS (by dsimp only; omega) (by dsimp only; omega) d_Mo_dataOf_217
      · have b191 : ¬ (tp.length - x) < 6 := fun q => c191 ((nI_ltI (a := (tp.length - x)) (b := 6) (by omega) (by omega)).mpr q)
        refine lv_aload_n hx hb d_Mo_dataOf_194 rfl (lv_at hl 3 rfl) ?_
        refine zg_get (ci := 11) (C := "ZoneAnswersModel") (T := T_Mo) (N := 21) hx hb hts zi_Mo hown hK hG k54 rfl 1 (by decide) (hts _ w_1282) (fun _ h9 => h9) rfl d_Mo_dataOf_195 ?_
        refine lv_iload_n hx hb d_Mo_dataOf_198 rfl (lv_at hl 5 rfl) ?_
        refine lv_iload hx hb d_Mo_dataOf_199 (lv_at hl 1 rfl) ?_
        refine lv_iadd hx hb d_Mo_dataOf_201 ?_
        refine zi_as (y := nI (x + 6)) (nI_add x 6) ?_
        refine lv_aload_n hx hb d_Mo_dataOf_202 rfl (lv_at hl 3 rfl) ?_
        refine zg_get (ci := 11) (C := "ZoneAnswersModel") (T := T_Mo) (N := 21) hx hb hts zi_Mo hown hK hG k54 rfl 2 (by decide) (hts _ w_1283) (fun _ h9 => h9) rfl d_Mo_dataOf_203 ?_
        have hGo206 := hG
        refine zk_i (va_runS (As := [.ref (h 1), .int (nI (x + 6)), .int (nI tp.length)]) (rest := []) ⟨hx, hb, hml, hown, hts⟩ (t_Ns_end l E G175 (h 1) 65536 fm k55 rt3 (by decide) (x + 6) tp.length (by omega) (by omega)) (zcS 3 hts w_1366 w_1367 w_33 w_1368 (by decide +kernel) ⟨Nat.le_of_ble_eq_true rfl, Nat.le_of_ble_eq_true rfl⟩) (zc_pre hbase hK hN hQ hG hS) rfl rfl hl.1 rfl (lv_room (Nat.le_of_ble_eq_true rfl)) d_Mo_dataOf_206 ⟨(by dsimp only; omega), (by dsimp only; omega)⟩) hS (fun r206 G206 H locs hp206 hG hS => ?_)
        have hG : zP E G175 H := hp206.2 ▸ hG
        have hzE : zE (fun j => tp.getD (x + 6 + j) 0) (tp.length - (x + 6)) (x + 6) r206 := zE_cg (fun j hj => rt2 _ (by omega)) hp206.1
        have hdn := zdn_y hof ho6 hx9 rtl hzE
        refine lv_aload_n hx hb d_Mo_dataOf_209 rfl (lv_at hl 3 rfl) ?_
        refine zg_get (ci := 11) (C := "ZoneAnswersModel") (T := T_Mo) (N := 21) hx hb hts zi_Mo hown hK hG k54 rfl 2 (by decide) (hts _ w_1283) (fun _ h9 => h9) rfl d_Mo_dataOf_210 ?_
        refine lv_icmp_eq (tgt := 218) hx hb d_Mo_dataOf_213 (by decide) (fun c213 => ?_) (fun c213 => ?_)
        · have hzd : zdat tp t x := (zdat_nm htn).mpr (hdn.mp c213)
          obtain ⟨o8, ls8, ho8, h68, hn8, hl8⟩ := hdn.mp c213
          have hg8 := hn8.1.2
          have ho8e : o8 = 6 := (nI_eq (by omega) (by omega)).mp (ho8.symm.trans hof)
          refine lv_aload_n hx hb d_Mo_dataOf_218 rfl (lv_at hl 3 rfl) ?_
          refine zg_get (ci := 11) (C := "ZoneAnswersModel") (T := T_Mo) (N := 21) hx hb hts zi_Mo hown hK hG k54 rfl 1 (by decide) (hts _ w_1282) (fun _ h9 => h9) rfl d_Mo_dataOf_219 ?_
          refine lv_iload_n hx hb d_Mo_dataOf_222 rfl (lv_at hl 5 rfl) ?_
          refine lv_iload hx hb d_Mo_dataOf_223 (lv_at hl 1 rfl) ?_
          refine lv_iadd hx hb d_Mo_dataOf_225 ?_
          refine zi_as (y := nI (x + 6)) (nI_add x 6) ?_
          refine lv_aload_n hx hb d_Mo_dataOf_226 rfl (lv_at hl 3 rfl) ?_
          refine zg_get (ci := 11) (C := "ZoneAnswersModel") (T := T_Mo) (N := 21) hx hb hts zi_Mo hown hK hG k54 rfl 2 (by decide) (hts _ w_1283) (fun _ h9 => h9) rfl d_Mo_dataOf_227 ?_
          have hGo230 := hG
          refine zk_q (va_runS (As := [.ref (h 1), .int (nI (x + 6)), .int (nI tp.length)]) (rest := []) ⟨hx, hb, hml, hown, hts⟩ (t_Ns_lower l E G175 (h 1) 65536 fm k55 rt3 (by decide) (x + 6) tp.length (by omega) (by omega)) (zcS 3 hts w_1369 w_1370 w_33 w_1371 (by decide +kernel) ⟨Nat.le_of_ble_eq_true rfl, Nat.le_of_ble_eq_true rfl⟩) (zc_pre hbase hK hN hQ hG hS) rfl rfl hl.1 rfl (lv_room (Nat.le_of_ble_eq_true rfl)) d_Mo_dataOf_230 ⟨(by dsimp only; omega), (by dsimp only; omega)⟩) hS (fun r230 G230 H locs hp230 hG hS => ?_)
          obtain ⟨q230, f230, er230, nq230, hx230, hq230, hft230, hlo230⟩ := hp230
          refine zr_some (a := q230) er230 ?_
          have k57 : G230 a = some (.inr (11, [.int th, .ref (h 1), .int (nI tp.length), .ref (h 3), .ref (h 4), .int (nI rs.length), .ref (h 6), .ref (h 7), .ref (h 8), .ref (h 9), .ref (h 10), .ref (h 11), .ref (h 12), .int (nI (wln Wz)), .int co, .ref (h 15), .int (nI (rPw Wz + px.length)), .int se, .ref (h 18), v19, v20])) := hx230.o k54
          have ne_q230_a : a ≠ q230 := zg_fr nq230 k54
          have k58 : G230 (h 1) = some (.inl (E.2.1 0, 65536, .inl fm)) := hx230.o k55
          have ne_q230_h_1 : h 1 ≠ q230 := zg_fr nq230 k55
          have k59 : G230 q175 = some (.inl (E.2.1 0, tp.length - x, .inl f175)) := hx230.o hq175
          have ne_q230_q175 : q175 ≠ q230 := zg_fr nq230 hq175
          have hx60 : zx z0 G G230 := hx56.tr (hx230.w (fun _ z => z.elim))
          refine lv_astore (lv' := [(6, .ref q230), (5, .ref q175), (4, .int (nI 6)), (3, .int (nI (tp.length - x))), (0, .ref a), (1, .int t), (2, .int (nI x))]) hx hb d_Mo_dataOf_233 hl (by decide) rfl (fun ls hl => ?_)
          refine lv_iconst (v := 0) hx hb d_Mo_dataOf_235 (by decide) ?_
          refine zi_as (y := nI 0) (nI_0.symm) ?_
          refine lv_istore (lv' := [(7, .int (nI 0)), (6, .ref q230), (5, .ref q175), (4, .int (nI 6)), (3, .int (nI (tp.length - x))), (0, .ref a), (1, .int t), (2, .int (nI x))]) hx hb d_Mo_dataOf_236 hl (by decide) rfl (fun ls hl => ?_)
          have loop238 : ∀ (N : Nat) (Gx : zg_G) (i : Nat) (fj : Nat → Int32) (H : Heap) (locs : List Loc), (tp.length - (x + 6) - i) < N → (i ≤ tp.length - (x + 6)) → (sb_Fit fj) → (∀ j, j < tp.length - x → fj j = if 6 ≤ j ∧ j < 6 + i then zlow (tp.getD (x + j) 0) else tp.getD (x + j) 0) → (Gx q175 = some (.inl (E.2.1 0, tp.length - x, .inl fj))) → (Gx q230 = some (.inl (E.2.1 0, tp.length - (x + 6), .inl f230))) → (zx z0 G Gx) → zP E Gx H → zg_S (zc_b E) s.heap H locs → ∀ (ls : Array Slot), lv_has ls 8 [(4, .int (nI 6)), (5, .ref q175), (6, .ref q230), (7, .int (nI i))] → W p l e (rm_Mo_dataOf (tp.length - x)) s m args below meth c H locs 2 (tp.length - x + 255) Q (F0 m 238 ls []) := by
            intro N
            induction N with
            | zero =>
              intro Gx i fj H locs hlt
              exact absurd hlt (Nat.not_lt_zero _)
            | succ N ih =>
              intro Gx i fj H locs hlt hi hftj hqj kk_q175 kk_q230 hxl hG hS ls hl
              refine lv_iload hx hb d_Mo_dataOf_238 (lv_at hl 3 rfl) ?_
              refine lv_aload hx hb d_Mo_dataOf_240 (lv_at hl 2 rfl) ?_
              refine zg_alen hx hb hK hG 0 kk_q230 rfl (v := nI (tp.length - (x + 6))) rfl d_Mo_dataOf_242 ?_
              refine lv_icmp_ge (tgt := 265) hx hb d_Mo_dataOf_243 (by decide) (fun c243 => ?_) (fun c243 => ?_)
              · have b243 : (tp.length - (x + 6)) ≤ i := (nI_leI (a := (tp.length - (x + 6))) (b := i) (by omega) (by omega)).mp c243
                refine lv_aload hx hb d_Mo_dataOf_265 (lv_at hl 1 rfl) ?_
                exact hret (some q175) _ _ _ _ _ _ _ _ hr (Or.inr ⟨_, rfl⟩) (Or.inl ⟨hzd, q175, fj, rfl, nq175, hxl, by rw [zdb_len]; exact kk_q175, rdo_2 hof ho6 (by omega) hqj, hftj⟩) hG hS (by dsimp only; omega) (by dsimp only; omega) d_Mo_dataOf_267
              · have b243 : ¬ (tp.length - (x + 6)) ≤ i := fun q => c243 ((nI_leI (a := (tp.length - (x + 6))) (b := i) (by omega) (by omega)).mpr q)
                refine lv_aload hx hb d_Mo_dataOf_246 (lv_at hl 1 rfl) ?_
                refine lv_iload hx hb d_Mo_dataOf_248 (lv_at hl 0 rfl) ?_
                refine lv_iload hx hb d_Mo_dataOf_250 (lv_at hl 3 rfl) ?_
                refine lv_iadd hx hb d_Mo_dataOf_252 ?_
                refine zi_as (y := nI (6 + i)) (nI_add 6 i) ?_
                refine lv_aload hx hb d_Mo_dataOf_253 (lv_at hl 2 rfl) ?_
                refine lv_iload hx hb d_Mo_dataOf_255 (lv_at hl 3 rfl) ?_
                refine zg_bald hx hb hK hG 0 kk_q230 rfl (vp_in_nI (by omega) (by omega)) d_Mo_dataOf_257 ?_
                refine zi_as (y := f230 i) (by rw [zi_n _ (by omega)]) ?_
                refine zg_bast hx hb hK hG hS 0 kk_q175 rfl (vp_in_nI (by omega) (by omega)) d_Mo_dataOf_258 (fun H locs hG hS => ?_)
                rw [zi_n (6 + i) (by omega)] at hG
                obtain ⟨G61, eG61⟩ : ∃ z : zg_G, z = zg_up Gx q175 (.inl (E.2.1 0, tp.length - x, .inl (upd fj (6 + i) (vp_nar .byte (f230 i))))) := ⟨_, rfl⟩
                have hG : zP E G61 H := by rw [eG61]; exact hG
                have hx62 : zx z0 G G61 := by rw [eG61]; exact hxl.upn nq175
                have k63 : G61 q175 = some (.inl (E.2.1 0, tp.length - x, .inl (upd fj (6 + i) (vp_nar .byte (f230 i))))) := by rw [eG61]; exact zg_up_self _ _ _
                have k64 : G61 q230 = some (.inl (E.2.1 0, tp.length - (x + 6), .inl f230)) := by rw [eG61, zg_up_ne (Ne.symm ne_q230_q175)]; exact kk_q230
                refine lv_iinc (v := nI (i + 1)) (lv' := [(7, .int (nI (i + 1))), (4, .int (nI 6)), (5, .ref q175), (6, .ref q230)]) hx hb d_Mo_dataOf_259 hl (k := 3) rfl (nI_add i 1) (by decide) rfl (fun ls hl => ?_)
                refine lv_goto (tgt := 238) hx hb d_Mo_dataOf_262 (by decide) ?_
                exact ih G61 (i + 1) (upd fj (6 + i) (vp_nar .byte (f230 i))) _ _ (by omega) (by omega) (zf_fitu hftj) (rdo_1 (by omega) hqj hlo230 rt2 (vp_nar_b (hft230 i))) (k63) (k64) (hx62) hG hS ls (lv_sub hl [1, 2, 3, 0] rfl)
          refine zW_more (cells2 := 2) (slots2 := tp.length - x + 255) (by dsimp only; omega) (by dsimp only; omega) ?_
          exact loop238 _ G230 0 f175 _ _ (Nat.lt_succ_self _) (Nat.zero_le _) (hft175) (fun j hj => by rw [if_neg (by omega), hlo175 j hj, rt2 _ (by omega)]) (k59) (hq230) (hx60) hG hS ls (lv_sub hl [3, 2, 1, 0] rfl)
        · refine lv_null hx hb d_Mo_dataOf_216 ?_
          exact hret none _ _ _ _ _ _ _ _ hr (Or.inr ⟨_, rfl⟩) (Or.inr ⟨fun q => by have q := (zdat_nm htn).mp q; first | exact c213 (hdn.mpr q) | (have := zdn_le hof ho6 q; omega), rfl, hx56⟩) hG hS (by dsimp only; omega) (by dsimp only; omega) d_Mo_dataOf_217
    · have b182 : ¬ 0 ≤ 6 := fun q => c182 ((nI_leI (a := 0) (b := 6) (by omega) (by omega)).mpr q)
      exact absurd (show (0 : Int32) ≤ _ by decide) c182
  refine lv_lookup (off := 155) (tgt := 166) hx hb d_Mo_dataOf_11 (by decide) (by show Op.lookupswitch.offset [(1, 73), (2, 88), (5, 88), (12, 88), (15, 94), (16, 107), (28, 80), (33, 100)] _ _ = _; rw [lv_osw (k := 1) s11_1 (by decide), lv_osw (k := 2) s11_2 (by decide), lv_osw (k := 5) s11_5 (by decide), lv_osw (k := 12) s11_12 (by decide), lv_osw (k := 15) s11_15 (by decide), lv_osw (k := 16) s11_16 (by decide), lv_osw (k := 28) s11_28 (by decide), lv_osw (k := 33) s11_33 (by decide)]; rfl) (by decide) ?_
  have hof : zoff t < 0 := by first | (rw [s11_1]; decide) | (rw [s11_28]; decide) | (rw [s11_16]; decide) | (rw [zoff_o (fun z => by rcases z with z | z | z | z | z; exact s11_2 z; exact s11_5 z; exact s11_12 z; exact s11_15 z; exact s11_33 z)]; decide)
  have hzd : zdat tp t x := by first | (unfold zdat; rw [if_pos s11_1]; exact b86) | (unfold zdat; rw [if_neg s11_1, if_pos s11_16]; exact ⟨by omega, by rw [← hz, zsw_end (by omega)]; exact b161⟩) | (unfold zdat; rw [if_neg s11_1, if_neg s11_16, if_pos s11_28]; exact b94) | (unfold zdat; rw [if_neg s11_1, if_neg s11_16, if_neg s11_28]; exact Or.inl hof)
  refine lv_aload_n hx hb d_Mo_dataOf_166 rfl (lv_at hl 2 rfl) ?_
  refine zg_get (ci := 11) (C := "ZoneAnswersModel") (T := T_Mo) (N := 21) hx hb hts zi_Mo hown hK hG ra rfl 1 (by decide) (hts _ w_1282) (fun _ h9 => h9) rfl d_Mo_dataOf_167 ?_
  refine lv_iload_n hx hb d_Mo_dataOf_170 rfl (lv_at hl 4 rfl) ?_
  refine lv_aload_n hx hb d_Mo_dataOf_171 rfl (lv_at hl 2 rfl) ?_
  refine zg_get (ci := 11) (C := "ZoneAnswersModel") (T := T_Mo) (N := 21) hx hb hts zi_Mo hown hK hG ra rfl 2 (by decide) (hts _ w_1283) (fun _ h9 => h9) rfl d_Mo_dataOf_172 ?_
  have hGo175 := hG
  refine zk_q (va_runS (As := [.ref (h 1), .int (nI x), .int (nI tp.length)]) (rest := []) ⟨hx, hb, hml, hown, hts⟩ (t_Ns_cut l E G (h 1) 65536 fm rt1 rt3 (by decide) x tp.length hx9 (by omega)) (zcS 3 hts w_1391 w_1373 w_33 w_1374 (by decide +kernel) ⟨Nat.le_of_ble_eq_true rfl, Nat.le_of_ble_eq_true rfl⟩) (zc_pre hbase hK hN hQ hG hS) rfl rfl hl.1 rfl (lv_room (Nat.le_of_ble_eq_true rfl)) d_Mo_dataOf_175 ⟨(by dsimp only; omega), (by dsimp only; omega)⟩) hS (fun r175 G175 H locs hp175 hG hS => ?_)
  obtain ⟨q175, f175, er175, nq175, hx175, hq175, hft175, hlo175⟩ := hp175
  refine zr_some (a := q175) er175 ?_
  have k65 : G175 a = some (.inr (11, [.int th, .ref (h 1), .int (nI tp.length), .ref (h 3), .ref (h 4), .int (nI rs.length), .ref (h 6), .ref (h 7), .ref (h 8), .ref (h 9), .ref (h 10), .ref (h 11), .ref (h 12), .int (nI (wln Wz)), .int co, .ref (h 15), .int (nI (rPw Wz + px.length)), .int se, .ref (h 18), v19, v20])) := hx175.o ra
  have ne_q175_a : a ≠ q175 := zg_fr nq175 ra
  have k66 : G175 (h 1) = some (.inl (E.2.1 0, 65536, .inl fm)) := hx175.o rt1
  have ne_q175_h_1 : h 1 ≠ q175 := zg_fr nq175 rt1
  have hx67 : zx z0 G G175 := hx0.tr (hx175.w (fun _ z => z.elim))
  refine lv_astore (lv' := [(5, .ref q175), (4, .int (-1)), (3, .int (nI (tp.length - x))), (0, .ref a), (1, .int t), (2, .int (nI x))]) hx hb d_Mo_dataOf_178 hl (by decide) rfl (fun ls hl => ?_)
  refine lv_iload hx hb d_Mo_dataOf_180 (lv_at hl 1 rfl) ?_
  refine lv_if_ge (tgt := 188) hx hb d_Mo_dataOf_182 (by decide) (fun c182 => ?_) (fun c182 => ?_)
  · exact absurd c182 (by decide)
  · refine lv_aload hx hb d_Mo_dataOf_185 (lv_at hl 0 rfl) ?_
    exact hret (some q175) _ _ _ _ _ _ _ _ hr (Or.inr ⟨_, rfl⟩) (Or.inl ⟨hzd, q175, f175, rfl, nq175, hx67, by rw [zdb_len]; exact hq175, rdo_0 hof hlo175 rt2, hft175⟩) hG hS (by dsimp only; omega) (by dsimp only; omega) d_Mo_dataOf_187
