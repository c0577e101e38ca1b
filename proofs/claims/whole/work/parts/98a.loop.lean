/-! THE LAW's LOOP -/
theorem zRl.skip {E : zc_E} {G : zg_G} {xo mo out i C S : Nat} (h : zRl E G xo mo out i C S) : zRl E G xo mo out (i + 1) C S := by
  obtain ⟨ro, A, rs, c1, c2, th, fo, u, g, p, q, hA, hO, hout, hro, hI, hct, hug⟩ := h
  obtain ⟨u2, g2, p2, q2, hct2, hug2⟩ := fin_f (k := 0) (cC := 0) (cS := 0) (rs2 := rs) (B := A) hct (by decide) (Nat.zero_le _) (Nat.le_refl _) rfl (Or.inr ⟨rfl, rfl⟩)
  exact ⟨ro, A, rs, c1, c2, th, fo, u2, g2, p2, q2, hA, hO, hout, hro, hI, hct2, by omega⟩
theorem zRl.room {E : zc_E} {G : zg_G} {xo mo out i C S : Nat} (h : zRl E G xo mo out i C S) (hi : i ≤ 512) : C ≤ 600002 ∧ S ≤ 7200000 := by
  obtain ⟨ro, A, rs, c1, c2, th, fo, u, g, p, q, hA, hO, hout, hro, hI, hct, hug⟩ := h
  obtain ⟨a1, a2, a3, a4, a5, a6, a7, a8, a9, aA⟩ := hct
  have l := b_lim (u := u) (g := g) (p := p) (q := q) a1 a3 (by omega) (rPi_bd a7 a8)
  exact ⟨by omega, by omega⟩
theorem zneg {L : Nat} (h : L < 6) : nI L - 6 < nI 0 := by
  rcases (show L = 0 ∨ L = 1 ∨ L = 2 ∨ L = 3 ∨ L = 4 ∨ L = 5 by omega) with rfl | rfl | rfl | rfl | rfl | rfl <;> decide
theorem law_cmp {L i : Nat} (hL : L ≤ 3072) (hi : 6 * i ≤ L) : nI L - 6 < nI (6 * i) ↔ L < 6 * i + 6 := by
  by_cases h : L < 6
  · exact ⟨fun _ => by omega, fun _ => Int32.lt_of_lt_of_le (zneg h) ((nI_leI (a := 0) (b := 6 * i) (by omega) (by omega)).mpr (Nat.zero_le _))⟩
  · rw [show (6 : Int32) = nI 6 from rfl, zi_sub (by omega), nI_ltI (by omega) (by omega)]
    omega
set_option maxHeartbeats 8000000 in
set_option maxRecDepth 100000 in
theorem law_loop {p : Program} {e : Env} {s : State} {m : MethodId} {args : Array Value} {below : List Frame} {meth : Method} {c : Code} {Q : State → Prop} (l : Launch) (hoff : zl_off l) {E : zc_E} {sc L : Nat} {xs : Nat → Int32} (hx : p.tables.exec = Jvm.exec) (hb : c.code = c_La_law) (hml : c.maxLocals = 7) (hown : s.vm.findClass "ZoneAnswersLaw" = some m.cls) (hts : ∀ w ∈ zw, w.before args s = true) (hX : va_X sc L xs s s.heap) (hbl : sc < s.heap.size) (hbA : ¬ (fun q : Nat => zc_b E ≤ q) sc) (hbase : zc_b E ≤ s.heap.size) (hK : zK E s) (hN : zN zn s) (hQ : zQ E s s.heap) {xo mo out : Nat} (hL : L ≤ 3072) (hret : ∀ (H : Heap) (locs : List Loc) (C S : Nat) (ls : Array Slot), zg_S (zc_b E) s.heap H locs → C ≤ 600002 → S ≤ 7200000 → W p l e room_1 s m args below meth c H locs C S Q (F0 m 933 ls [.int 1])) : ∀ (N i C S : Nat) (Gv : zg_G) (H : Heap) (locs : List Loc), L + 6 - 6 * i < N → 6 * i ≤ L → zRl E Gv xo mo out i C S → zP E Gv H → zg_S (zc_b E) s.heap H locs → ∀ ls : Array Slot, lv_has ls 7 [(0, .ref sc), (1, .ref xo), (2, .ref mo), (3, .ref out), (4, .int (nI (6 * i)))] → W p l e room_1 s m args below meth c H locs C S Q (F0 m 23 ls []) := by
  intro N
  induction N with
  | zero => intro i C S Gv H locs hlt; exact absurd hlt (Nat.not_lt_zero _)
  | succ N ih =>
    intro i C S Gv H locs hlt hi hR hG hS ls hl
    have hback : 6 * i + 6 ≤ L → ∀ (G2 : zg_G) (C2 S2 : Nat) (H2 : Heap) (locs2 : List Loc) (ls2 : Array Slot), zRl E G2 xo mo out (i + 1) C2 S2 → zP E G2 H2 → zg_S (zc_b E) s.heap H2 locs2 → lv_has ls2 7 [(0, .ref sc), (1, .ref xo), (2, .ref mo), (3, .ref out), (4, .int (nI (6 * i)))] → W p l e room_1 s m args below meth c H2 locs2 C2 S2 Q (F0 m 926 ls2 []) := by
      intro hi6 G2 C2 S2 H2 locs2 ls hR2 hG hS hl
      refine lv_iinc (v := nI (6 * i + 6)) (lv' := [(4, .int (nI (6 * i + 6))), (0, .ref sc), (1, .ref xo), (2, .ref mo), (3, .ref out)]) hx hb d_La_law_926 hl (k := 4) rfl (nI_add (6 * i) 6) (by decide) rfl (fun ls hl => ?_)
      refine lv_goto (tgt := 23) hx hb d_La_law_929 (by decide) ?_
      exact ih (i + 1) C2 S2 G2 H2 locs2 (by omega) (by omega) hR2 hG hS _ (lv_sub hl [1, 2, 3, 4, 0] rfl)
    refine lv_iload hx hb d_La_law_23 (lv_at hl 4 rfl) ?_
    refine lv_aload_n hx hb d_La_law_25 rfl (lv_at hl 0 rfl) ?_
    refine va_slen hx hb hX hbl hbA hS d_La_law_26 ?_
    refine lv_bipush (v := 6) hx hb d_La_law_27 (by decide) ?_
    refine lv_isub hx hb d_La_law_29 ?_
    refine zi_as (y := nI L - 6) (rfl) ?_
    refine lv_icmp_gt (tgt := 932) hx hb d_La_law_30 (by decide) (fun c30 => ?_) (fun c30 => ?_)
    · refine lv_iconst (v := 1) hx hb d_La_law_932 (by decide) ?_
      exact hret _ _ _ _ _ hS (hR.room (by omega)).1 (hR.room (by omega)).2
    · have hi6 : 6 * i + 6 ≤ L := Nat.le_of_not_lt (fun z => c30 ((law_cmp hL hi).mpr z))
      refine lv_aload_n hx hb d_La_law_33 rfl (lv_at hl 0 rfl) ?_
      refine lv_iload hx hb d_La_law_34 (lv_at hl 4 rfl) ?_
      refine va_sld hx hb hX hbl hbA hS (vp_in_nI (by omega) (by omega)) d_La_law_36 ?_
      refine zi_as (y := xs (6 * i)) (by rw [zi_n _ (by omega)]) ?_
      refine lv_bipush (v := 15) hx hb d_La_law_37 (by decide) ?_
      refine lv_iand hx hb d_La_law_39 ?_
      by_cases s40_0 : ((xs (6 * i)) &&& 15) = 0
      · refine lv_tableIn (off := 68) (tgt := 108) hx hb d_La_law_40 (by rw [s40_0]; decide) (by rw [s40_0]; decide) (by rw [s40_0]; rfl) (by decide) ?_
        exact lawc_feed l hoff hx hb hml hown hts hX hbl hbA hbase hK hN hQ hL hi6 hR hG hS hl (hback hi6)
      by_cases s40_1 : ((xs (6 * i)) &&& 15) = 1
      · refine lv_tableIn (off := 172) (tgt := 212) hx hb d_La_law_40 (by rw [s40_1]; decide) (by rw [s40_1]; decide) (by rw [s40_1]; rfl) (by decide) ?_
        exact lawc_end l hoff hx hb hml hown hts hX hbl hbA hbase hK hN hQ hL hi6 hR hG hS hl (hback hi6)
      by_cases s40_2 : ((xs (6 * i)) &&& 15) = 2
      · refine lv_tableIn (off := 228) (tgt := 268) hx hb d_La_law_40 (by rw [s40_2]; decide) (by rw [s40_2]; decide) (by rw [s40_2]; rfl) (by decide) ?_
        exact lawc_origin l hoff hx hb hml hown hts hX hbl hbA hbase hK hN hQ hL hi6 hR hG hS hl (hback hi6)
      by_cases s40_3 : ((xs (6 * i)) &&& 15) = 3
      · refine lv_tableIn (off := 312) (tgt := 352) hx hb d_La_law_40 (by rw [s40_3]; decide) (by rw [s40_3]; decide) (by rw [s40_3]; rfl) (by decide) ?_
        exact lawc_put l hoff hx hb hml hown hts hX hbl hbA hbase hK hN hQ hL hi6 hR hG hS hl (hback hi6)
      by_cases s40_4 : ((xs (6 * i)) &&& 15) = 4
      · refine lv_tableIn (off := 380) (tgt := 420) hx hb d_La_law_40 (by rw [s40_4]; decide) (by rw [s40_4]; decide) (by rw [s40_4]; rfl) (by decide) ?_
        exact lawc_take l hoff hx hb hml hown hts hX hbl hbA hbase hK hN hQ hL hi6 hR hG hS hl (hback hi6)
      by_cases s40_5 : ((xs (6 * i)) &&& 15) = 5
      · refine lv_tableIn (off := 436) (tgt := 476) hx hb d_La_law_40 (by rw [s40_5]; decide) (by rw [s40_5]; decide) (by rw [s40_5]; rfl) (by decide) ?_
        exact lawc_takeAll l hoff hx hb hml hown hts hX hbl hbA hbase hK hN hQ hL hi6 hR hG hS hl (hback hi6)
      by_cases s40_6 : ((xs (6 * i)) &&& 15) = 6
      · refine lv_tableIn (off := 492) (tgt := 532) hx hb d_La_law_40 (by rw [s40_6]; decide) (by rw [s40_6]; decide) (by rw [s40_6]; rfl) (by decide) ?_
        exact lawc_serial l hoff hx hb hml hown hts hX hbl hbA hbase hK hN hQ hL hi6 hR hG hS hl (hback hi6)
      by_cases s40_7 : ((xs (6 * i)) &&& 15) = 7
      · refine lv_tableIn (off := 517) (tgt := 557) hx hb d_La_law_40 (by rw [s40_7]; decide) (by rw [s40_7]; decide) (by rw [s40_7]; rfl) (by decide) ?_
        exact lawc_ask l hoff hx hb hml hown hts hX hbl hbA hbase hK hN hQ hL hi6 hR hG hS hl (hback hi6)
      by_cases s40_8 : ((xs (6 * i)) &&& 15) = 8
      · refine lv_tableIn (off := 601) (tgt := 641) hx hb d_La_law_40 (by rw [s40_8]; decide) (by rw [s40_8]; decide) (by rw [s40_8]; rfl) (by decide) ?_
        exact lawc_records l hoff hx hb hml hown hts hX hbl hbA hbase hK hN hQ hL hi6 hR hG hS hl (hback hi6)
      by_cases s40_9 : ((xs (6 * i)) &&& 15) = 9
      · refine lv_tableIn (off := 657) (tgt := 697) hx hb d_La_law_40 (by rw [s40_9]; decide) (by rw [s40_9]; decide) (by rw [s40_9]; rfl) (by decide) ?_
        exact lawc_told l hoff hx hb hml hown hts hX hbl hbA hbase hK hN hQ hL hi6 hR hG hS hl (hback hi6)
      by_cases s40_10 : ((xs (6 * i)) &&& 15) = 10
      · refine lv_tableIn (off := 737) (tgt := 777) hx hb d_La_law_40 (by rw [s40_10]; decide) (by rw [s40_10]; decide) (by rw [s40_10]; rfl) (by decide) ?_
        exact lawc_byteOf l hoff hx hb hml hown hts hX hbl hbA hbase hK hN hQ hL hi6 hR hG hS hl (hback hi6)
      by_cases s40_11 : ((xs (6 * i)) &&& 15) = 11
      · refine lv_tableIn (off := 817) (tgt := 857) hx hb d_La_law_40 (by rw [s40_11]; decide) (by rw [s40_11]; decide) (by rw [s40_11]; rfl) (by decide) ?_
        exact lawc_state l hoff hx hb hml hown hts hX hbl hbA hbase hK hN hQ hL hi6 hR hG hS hl (hback hi6)
      by_cases s40_12 : ((xs (6 * i)) &&& 15) = 12
      · refine lv_tableIn (off := 861) (tgt := 901) hx hb d_La_law_40 (by rw [s40_12]; decide) (by rw [s40_12]; decide) (by rw [s40_12]; rfl) (by decide) ?_
        exact lawc_count l hoff hx hb hml hown hts hX hbl hbA hbase hK hN hQ hL hi6 hR hG hS hl (hback hi6)
      refine lv_tableOut (tgt := 926) hx hb d_La_law_40 (by have ns40_0 := lv_neT (k := 0) (a := 0) s40_0 (by decide); have ns40_1 := lv_neT (k := 1) (a := 1) s40_1 (by decide); have ns40_2 := lv_neT (k := 2) (a := 2) s40_2 (by decide); have ns40_3 := lv_neT (k := 3) (a := 3) s40_3 (by decide); have ns40_4 := lv_neT (k := 4) (a := 4) s40_4 (by decide); have ns40_5 := lv_neT (k := 5) (a := 5) s40_5 (by decide); have ns40_6 := lv_neT (k := 6) (a := 6) s40_6 (by decide); have ns40_7 := lv_neT (k := 7) (a := 7) s40_7 (by decide); have ns40_8 := lv_neT (k := 8) (a := 8) s40_8 (by decide); have ns40_9 := lv_neT (k := 9) (a := 9) s40_9 (by decide); have ns40_10 := lv_neT (k := 10) (a := 10) s40_10 (by decide); have ns40_11 := lv_neT (k := 11) (a := 11) s40_11 (by decide); have ns40_12 := lv_neT (k := 12) (a := 12) s40_12 (by decide); omega) (by decide) ?_
      exact hback hi6 _ _ _ _ _ _ hR.skip hG hS (lv_sub hl [0, 1, 2, 3, 4] rfl)
