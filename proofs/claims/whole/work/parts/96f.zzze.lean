/-- all of a name gone but what stays -/
def vta (V : zVt) (x : np_N) (t : Int32) : zVt := fun y u => if y = x ∧ ¬ zkt t u = true then [] else V y u
def gone (V : zVt) (x : np_N) (t : Int32) (q : Int32 × Nat) : Prop := ¬ zkt t q.1 = true ∧ q.2 < (V x q.1).length
theorem zV_len {os : List zOt} {x : np_N} {t : Int32} : (zV os x t).length = (zgt os x t).length := List.length_map _
theorem gone_c {os : List zOt} {i : Nat} {t : Int32} (h : zgo os) (hi : i < os.length) : isCnt (gone (zV os) (oM (oe os i)) t) (zgn t (oX (oe os i))) := by
  have hss := (h.2 i hi).1
  have hV : ∀ s ∈ oX (oe os i), (zV os (oM (oe os i)) (sT s)).length = (sX s).length := fun s hs => by
    obtain ⟨j, hj, rfl⟩ := oS_ix hs
    rw [zV_s h hi hj, List.length_map]
  refine ⟨((oX (oe os i)).filter (fun s => !zkt t (sT s))).flatMap (fun s => (List.range (sX s).length).map (fun q => (sT s, q))), ?_, fun q => ?_, ?_⟩
  · unfold List.Nodup
    rw [List.pairwise_flatMap]
    refine ⟨fun s hs => ?_, ?_⟩
    · rw [List.pairwise_map]
      exact List.pairwise_lt_range.imp (fun {a b} hab e => by have := (Prod.mk.inj e).2; omega)
    · refine ((zss_pw.mp hss).filter _).imp (fun {a b} hab x hx y hy e => ?_)
      obtain ⟨q1, -, rfl⟩ := List.mem_map.mp hx
      obtain ⟨q2, -, rfl⟩ := List.mem_map.mp hy
      have e2 := (Prod.mk.inj e).1
      rw [e2] at hab; exact absurd hab Int32.lt_irrefl
  · rw [List.mem_flatMap]
    constructor
    · rintro ⟨s, hs, hq⟩
      obtain ⟨h1, h2⟩ := List.mem_filter.mp hs
      obtain ⟨n, hn, rfl⟩ := List.mem_map.mp hq
      rw [List.mem_range] at hn
      exact ⟨by simpa using h2, by show n < (zV os _ (sT s)).length; rw [hV s h1]; exact hn⟩
    · rintro ⟨h1, h2⟩
      have hne : zV os (oM (oe os i)) q.1 ≠ [] := fun z => by rw [z] at h2; exact absurd h2 (Nat.not_lt_zero _)
      obtain ⟨j, hj, e⟩ := (zV_ne h hi).mp hne
      refine ⟨oS (oe os i) j, List.mem_filter.mpr ⟨oS_mem hj, by rw [e]; simpa using h1⟩, List.mem_map.mpr ⟨q.2, ?_, by rw [e]⟩⟩
      rw [List.mem_range, ← hV _ (oS_mem hj), e]; exact h2
  · rw [fm_len]
    unfold zgn
    congr 1
    refine List.map_congr_left (fun s _ => ?_)
    rw [List.length_map, List.length_range]
theorem gone_0 {V : zVt} {x : np_N} {t : Int32} (h : ∀ u, V x u = []) : isCnt (gone V x t) 0 := by
  refine ⟨[], List.nodup_nil, fun q => ⟨fun z => absurd z List.not_mem_nil, fun z => ?_⟩, rfl⟩
  have := z.2
  rw [h] at this; exact absurd this (Nat.not_lt_zero _)
theorem vta_0 {V : zVt} {x : np_N} {t : Int32} (h : ∀ u, V x u = []) : vta V x t = V := funext (fun y => funext (fun u => by
  unfold vta
  split
  · rename_i z; rw [z.1, h]
  · rfl))
theorem vta_ne {V : zVt} {x y : np_N} {t u : Int32} (h : vta V x t y u ≠ []) : V y u ≠ [] := by
  unfold vta at h
  split at h
  · exact absurd rfl h
  · exact h
/-- what may be named to takeAll -/
def zall (t : Int32) : Prop := t = 255 ∨ zput t
theorem zput_6 : ¬ zput 6 := by unfold zput; decide
theorem zput_255 : ¬ zput 255 := by unfold zput; decide
theorem zall_6 {t : Int32} (h : zall t) : zkt t 6 = true := by
  unfold zkt
  rcases h with rfl | h
  · rfl
  · have h1 : ¬ (6 : Int32) = t := fun e => by rw [← e] at h; exact absurd h zput_6
    have h2 : ¬ t = 255 := fun e => by rw [e] at h; exact absurd h zput_255
    rw [decide_eq_false h1, decide_eq_false h2]; rfl
theorem zTn_un {tp : List Int32} {x y : np_N} (h : zTn tp x) (h2 : zTn tp y) : y = x := zNm_un h2.1 h.1
/-- the origin's owner keeps its start -/
theorem h0ra {os : List zOt} {top : np_N} {oi q : Nat} {t : Int32} (h : zGZ os top) (hoi : oi < os.length) (hsa : zsa os top 6 q) (hk : zkt t 6 = true) : zkf t (oX (oe os oi)) = [] → 0 < oi := by
  intro z
  rcases Nat.eq_zero_or_pos oi with w | w
  · exfalso
    obtain ⟨i, si, h1, h2, h3, h4, -⟩ := zsa_ix hsa
    have e : i = oi := h.ix h1 hoi (by rw [h2, w, h.2.2.2.1])
    subst e
    have hm : oS (oe os i) si ∈ zkf t (oX (oe os i)) := List.mem_filter.mpr ⟨oS_mem h3, by rw [h4]; exact hk⟩
    rw [z] at hm; cases hm
  · exact w
theorem w_995 : (.methodLink "ZoneAnswers" 144 ⟨"ZoneAnswers$Zone", "removeAll", "(LZoneAnswers$Owner;I)I"⟩ : Cond) ∈ zw := zw_at 995 (by decide +kernel) (by decide +kernel)
theorem w_996 : (.instanceMethod ⟨"ZoneAnswers$Zone", "removeAll", "(LZoneAnswers$Owner;I)I"⟩ : Cond) ∈ zw := zw_at 996 (by decide +kernel) (by decide +kernel)
theorem w_997 : (.selects "ZoneAnswers$Zone" ⟨"ZoneAnswers$Zone", "removeAll", "(LZoneAnswers$Owner;I)I"⟩ ⟨"ZoneAnswers$Zone", "removeAll", "(LZoneAnswers$Owner;I)I"⟩ : Cond) ∈ zw := zw_at 997 (by decide +kernel) (by decide +kernel)
theorem w_998 : (.code ⟨"ZoneAnswers$Zone", "removeAll", "(LZoneAnswers$Owner;I)I"⟩ prog_10_method_13_code 6 (some .int) : Cond) ∈ zw := zw_at 998 (by decide +kernel) (by decide +kernel)

abbrev rm_ZA_takeAll (n0 : Nat) : Room := { frames := 11, cells := 3, slots := n0 + 10, locals := 400 }
set_option maxHeartbeats 4000000 in
set_option maxRecDepth 100000 in
/-- takeAll(type) -/
theorem t_ZA_takeAll (l : Launch) (hoff : zl_off l) (E : zc_E) (G : zg_G) (k : Nat → Nat) (ro : zRo) (rc ty se : Int32) (os : List zOt) (top : np_N) (d1 d2 d3 : Nat) (t1 t2 t3 : List zTt) (b : Nat) (tp : List Int32) (hOb : zOb E G ro k rc ty se os top d1 d2 d3 t1 t2 t3 b tp) (hGZ : zGZ os top) (hdw : zdw os) (hdx : zdx os) (hrc : rc = nI (znr os)) (hzn : znr os < 2000) (t : Int32) : zT l E y_ZA_takeAll c_ZA_takeAll 5 (some .int) (rm_ZA_takeAll tp.length) [.ref (k 16), .int t] G (fun (v : Option Value) (G2 : zg_G) => ∃ ro2 ls n2, zTn tp ls ∧ top <:+ np_low ls ∧ zall t ∧ zOS E G2 ro2 (k 16) [] (vta (zV os) (np_low ls) t) top n2 (zWt t1 t2 t3) ∧ zfr ro zKc G ro2 G2 ∧ ∃ n, isCnt (gone (zV os) (np_low ls) t) n ∧ v = some (.int (nI n))) (fun cls => cls = "java/lang/IllegalArgumentException" ∧ ¬ ∃ ls, zTn tp ls ∧ top <:+ np_low ls ∧ zall t) := by
  refine zT.of (by decide) (Nat.le_of_ble_eq_true rfl) ?_
  intro p e s m args below meth c hZ hex hG ls hl
  obtain ⟨hx, hb, hr, hts, hown, hlocks, hml, hnm, hbase, hK, hN, hQ⟩ := hZ
  have hl : lv_has ls 5 [(0, .ref (k 16)), (1, .int t)] := hl
  have hS : zg_S (zc_b E) s.heap s.heap [] := va_S.rf
  obtain ⟨hCx, hO1, hO2, hTp, hO3, hO4, hO5⟩ := id hOb
  obtain ⟨⟨hz1, hz2, hz3, hz4, hz5, soa, u9, hz6, hz7, hz8, hz9, hzA⟩, ⟨ha1, ha2, hs1, hs2, hs3⟩, hT1⟩ := id hCx
  obtain ⟨bo, fo, hno1, hno2, hno3, hno4, hno5, -⟩ := id hz4
  have hne : 0 < os.length := hGZ.2.2.1
  have hsz := hGZ.1.sz
  have hol : os.length ≤ 2000 := by have := hsz.1; omega
  have hso := hGZ.1.1
  have hE00 : G (E.2.2.2 0) = none := hQ.out hG
  have hl0 := zWt_l t1 t2 t3
  have hk6 : zall t → zkt t 6 = true := zall_6
  have hx0 : zx z0 G G := zx.rf
  refine lv_iload_n hx hb d_ZA_takeAll_0 rfl (lv_at hl 1 rfl) ?_
  refine lv_sipush (v := 255) hx hb d_ZA_takeAll_1 (by decide) ?_
  refine lv_icmp_eq (tgt := 14) hx hb d_ZA_takeAll_4 (by decide) (fun c4 => ?_) (fun c4 => ?_)
  · have hall : zall t := Or.inl c4
    have hk6 := hk6 hall
    refine lv_aload_n hx hb d_ZA_takeAll_14 rfl (lv_at hl 0 rfl) ?_
    have hGo15 := hG
    refine zk_q (va_runV (As := []) (rest := []) ⟨hx, hb, hml, hown, hts⟩ (t_ZA_tapeName_b l E G (k 16) (k 17) (k 1) (k 0) b tp hO1 hTp hO5 (tp.length + 2) (Nat.le_refl _)) (zcV 0 hts w_991 w_993 wp_14 w_1 w_994 (by decide +kernel) ⟨Nat.le_of_ble_eq_true rfl, Nat.le_of_ble_eq_true rfl⟩) (zc_preV hbase hK hN hQ hG hS hO1 rfl) rfl rfl hl.1 rfl (lv_room (Nat.le_of_ble_eq_true rfl)) d_ZA_takeAll_15 ⟨(by dsimp only; omega), (by dsimp only; omega)⟩) hS (fun r15 G15 H locs hp15 hG hS => ?_)
    rcases hp15 with ⟨lsn, qn, hTn, ern, hxn, hNbn⟩ | ⟨ern, egn, hnt⟩
    · refine zr_some (a := qn) ern ?_
      obtain ⟨roN, hfN, hrN, hNqn⟩ := hNbn.nr hxn ro
      have hEN : G15 (E.2.2.2 0) = none := hQ.out hG
      have hObN := hOb.z hfN hE00 hEN
      obtain ⟨hCxN, hO1N, hO2N, hTpN, hO3N, hO4N, hO5N⟩ := id hObN
      obtain ⟨⟨hz1N, hz2N, hz3N, hz4N, hz5N, soaN, u9N, hz6N, hz7N, hz8N, hz9N, hzAN⟩, ⟨ha1N, ha2N, hs1N, hs2N, hs3N⟩, hT1N⟩ := id hCxN
      obtain ⟨boN, foN, hno1N, hno2N, hno3N, hno4N, hno5N, -⟩ := id hz4N
      obtain ⟨b_qnN, f_qnN, hq1_qnN, hq2_qnN, hq3_qnN, hq4_qnN, hq5_qnN, -⟩ := id hNqn
      refine lv_goto (tgt := 22) hx hb d_ZA_takeAll_18 (by decide) ?_
      refine lv_astore_n (lv' := [(2, .ref qn), (0, .ref (k 16)), (1, .int t)]) hx hb d_ZA_takeAll_22 rfl hl (by decide) rfl (fun ls hl => ?_)
      refine lv_aload_n hx hb d_ZA_takeAll_23 rfl (lv_at hl 0 rfl) ?_
      refine lv_ifnull hx hb d_ZA_takeAll_24 ?_
      refine lv_aload_n hx hb d_ZA_takeAll_27 rfl (lv_at hl 0 rfl) ?_
      refine lv_aload_n hx hb d_ZA_takeAll_28 rfl (lv_at hl 1 rfl) ?_
      refine zg_get (ci := 10) (C := "ZoneAnswers") (T := T_ZA) (N := 3) hx hb hts zi_ZA hown hK hG hO1N rfl 1 (by decide) (hts _ w_704) (fun _ h9 => h9) rfl d_ZA_takeAll_29 ?_
      refine zk_q (va_runV (As := []) (rest := [.ref qn]) ⟨hx, hb, hml, hown, hts⟩ (t_Zo_top l E G15 (k 1) (k 11) (k 12) (k 13) (k 14) rc hz1N) (zcV 0 hts w_874 w_875 w_876 w_3 w_877 (by decide +kernel) ⟨Nat.le_of_ble_eq_true rfl, Nat.le_of_ble_eq_true rfl⟩) (zc_preV hbase hK hN hQ hG hS hz1N rfl) rfl rfl hl.1 rfl (lv_room (Nat.le_of_ble_eq_true rfl)) d_ZA_takeAll_32 ⟨(by dsimp only; omega), (by dsimp only; omega)⟩) hS (fun r32 G32 H locs hp32 hG hS => ?_)
      have hG : zP E G15 H := hp32.2 ▸ hG
      refine zr_some (a := k 12) hp32.1 ?_
      refine zk_i (va_runV (As := [.ref (k 12)]) (rest := []) ⟨hx, hb, hml, hown, hts⟩ (t_Na_isAtOrBelow l E G15 qn b_qnN (np_low lsn) f_qnN hq1_qnN hq2_qnN hq3_qnN hq4_qnN (k 12) boN top foN hno1N hno2N hno3N hno4N) (zcV 1 hts w_878 w_650 w_651 w_7 w_652 (by decide +kernel) ⟨Nat.le_of_ble_eq_true rfl, Nat.le_of_ble_eq_true rfl⟩) (zc_preV hbase hK hN hQ hG hS hq1_qnN rfl) rfl rfl hl.1 rfl (lv_room (Nat.le_of_ble_eq_true rfl)) d_ZA_takeAll_35 ⟨(by dsimp only; omega), (by dsimp only; omega)⟩) hS (fun r35 G35 H locs hp35 hG hS => ?_)
      have hG : zP E G15 H := hp35.2 ▸ hG
      refine lv_if_ne (tgt := 49) hx hb d_ZA_takeAll_38 (by decide) (fun c38 => ?_) (fun c38 => ?_)
      · have hxt := hp35.1.nz c38
        refine lv_aload_n hx hb d_ZA_takeAll_49 rfl (lv_at hl 1 rfl) ?_
        refine zg_get (ci := 10) (C := "ZoneAnswers") (T := T_ZA) (N := 3) hx hb hts zi_ZA hown hK hG hO1N rfl 1 (by decide) (hts _ w_704) (fun _ h9 => h9) rfl d_ZA_takeAll_50 ?_
        refine lv_aload_n hx hb d_ZA_takeAll_53 rfl (lv_at hl 0 rfl) ?_
        have hGo54 := hG
        refine zk_q (va_runV (As := [.ref qn]) (rest := []) ⟨hx, hb, hml, hown, hts⟩ (t_Zo_at_t l hz1N hz3N hne hso hq1_qnN hq2_qnN hq3_qnN hq4_qnN hq5_qnN) (zcV 1 hts w_879 w_880 w_881 w_3 w_882 (by decide +kernel) ⟨Nat.le_of_ble_eq_true rfl, Nat.le_of_ble_eq_true rfl⟩) (zc_preV hbase hK hN hQ hG hS hz1N rfl) rfl rfl hl.1 rfl (lv_room (Nat.le_of_ble_eq_true rfl)) d_ZA_takeAll_54 ⟨(by dsimp only; omega), (by dsimp only; omega)⟩) hS (fun r54 G54 H locs hp54 hG hS => ?_)
        rcases hp54 with ⟨⟨oi, hoi, ho2, er54⟩ | ⟨hno, er54⟩, eg54⟩
        · have hG : zP E G15 H := eg54 ▸ hG
          refine zr_some (a := oA (oe os oi)) er54 ?_
          have how9 := hz3N.2 _ (oe_mem hoi)
          have hszo := (hsz.2 oi hoi).1
          refine lv_astore_n (lv' := [(3, .ref (oA (oe os oi))), (2, .ref qn), (0, .ref (k 16)), (1, .int t)]) hx hb d_ZA_takeAll_57 rfl hl (by decide) rfl (fun ls hl => ?_)
          refine lv_aload_n hx hb d_ZA_takeAll_58 rfl (lv_at hl 0 rfl) ?_
          refine lv_ifnonnull (tgt := 66) hx hb d_ZA_takeAll_59 (by decide) ?_
          refine lv_aload_n hx hb d_ZA_takeAll_66 rfl (lv_at hl 2 rfl) ?_
          refine zg_get (ci := 10) (C := "ZoneAnswers") (T := T_ZA) (N := 3) hx hb hts zi_ZA hown hK hG hO1N rfl 1 (by decide) (hts _ w_704) (fun _ h9 => h9) rfl d_ZA_takeAll_67 ?_
          refine lv_aload_n hx hb d_ZA_takeAll_70 rfl (lv_at hl 0 rfl) ?_
          refine lv_iload_n hx hb d_ZA_takeAll_71 rfl (lv_at hl 3 rfl) ?_
          have hGo72 := hG
          refine zk_i (va_runV (As := [.ref (oA (oe os oi)), .int t]) (rest := []) ⟨hx, hb, hml, hown, hts⟩ (t_Zo_removeAll l E G15 (k 1) (k 11) (k 12) (k 13) (k 14) rc hz1N roN (k 15) os hz3N hz2N hGZ.1 hol oi hoi (by omega) t (h0ra hGZ hoi hz5N hk6)) (zcV 2 hts w_995 w_996 w_997 w_3 w_998 (by decide +kernel) ⟨Nat.le_of_ble_eq_true rfl, Nat.le_of_ble_eq_true rfl⟩) (zc_preV hbase hK hN hQ hG hS hz1N rfl) rfl rfl hl.1 rfl (lv_room (Nat.le_of_ble_eq_true rfl)) d_ZA_takeAll_72 ⟨(by dsimp only; omega), (by dsimp only; omega)⟩) hS (fun r72 G72 H locs hp72 hG hS => ?_)
          obtain ⟨os2, er72, hZ2, hfr2, haz2, hgo2, hln2, hp2, hnr2, hgt2, hct2, hsa2⟩ := hp72
          have hE2 : G72 (E.2.2.2 0) = none := hQ.out hG
          refine zi_as (y := nI (zgn t (oX (oe os oi)))) er72 ?_
          have hV8 : zV os2 = vta (zV os) (np_low lsn) t := zV_cg (fun y u => by
            rw [hgt2, ho2]; unfold vta
            by_cases z : y = np_low lsn ∧ ¬ zkt t u = true
            · rw [if_pos z, if_pos z]; rfl
            · rw [if_neg z, if_neg z]; rfl)
          have hcnt : isCnt (gone (zV os) (np_low lsn) t) (zgn t (oX (oe os oi))) := by rw [← ho2]; exact gone_c hGZ.1 hoi
          have hst8 : ∀ y u, vta (zV os) (np_low lsn) t y u ≠ [] → zV os y u ≠ [] := fun y u => vta_ne
          have ht6 : vta (zV os) (np_low lsn) t top 6 = zV os top 6 := by unfold vta; rw [if_neg (fun z => z.2 hk6)]
          obtain ⟨hq1, hq2, hq3⟩ := hGZ.all
          have hGZ2 : zGZ os2 top := zGZ.of hgo2 (hct2 hGZ.2.1) hZ2 ⟨6, by rw [hV8, ht6, hz8N]; simp⟩ (fun x ⟨u, hxu⟩ => hq2 x ⟨u, hst8 x u (by rw [← hV8]; exact hxu)⟩) (fun x u hxu => hq3 x u (hst8 x u (by rw [← hV8]; exact hxu)))
          have hdw2 : zdw os2 := zdw_iff.mpr (fun x u q hq => by
            rw [hgt2, ho2] at hq
            by_cases z : x = np_low lsn ∧ ¬ zkt t u = true
            · rw [if_pos z] at hq; cases hq
            · rw [if_neg z] at hq; exact zdw_iff.mp hdw x u q hq)
          have hdx2 : zdx os2 := fun x u q hq => by
            rw [hgt2, ho2] at hq
            by_cases z : x = np_low lsn ∧ ¬ zkt t u = true
            · rw [if_pos z] at hq; cases hq
            · rw [if_neg z] at hq; exact hdx x u q hq
          have hrc2 : rc - nI (zgn t (oX (oe os oi))) = nI (znr os2) := by rw [hrc, zi_sub (by omega)]; congr 1; omega
          have hZn2 : zZn E G72 roN k (rc - nI (zgn t (oX (oe os oi)))) os2 top := ⟨haz2, by rw [← hz2N], hZ2, hz4N.fr hfr2 zKz_0, hsa2 _ _ _ hz5N (fun z => z.2 hk6), soaN, u9N, (hz6N.fr hz7N hfr2 zKz_0).1, (hz6N.fr hz7N hfr2 zKz_0).2, by rw [hV8, ht6]; exact hz8N, hz9N, hzAN⟩
          have hOb2 := hObN.zn hfr2 hEN hE2 hZn2 (fun n _ => rfl)
          refine lv_istore (lv' := [(4, .int (nI (zgn t (oX (oe os oi))))), (3, .ref (oA (oe os oi))), (2, .ref qn), (0, .ref (k 16)), (1, .int t)]) hx hb d_ZA_takeAll_75 hl (by decide) rfl (fun ls hl => ?_)
          refine lv_aload_n hx hb d_ZA_takeAll_77 rfl (lv_at hl 3 rfl) ?_
          refine zg_get (ci := 10) (C := "ZoneAnswers") (T := T_ZA) (N := 3) hx hb hts zi_ZA hown hK hG hOb2.2.1 rfl 0 (by decide) (hts _ w_703) (fun _ h9 => h9) rfl d_ZA_takeAll_78 ?_
          refine lv_iconst (v := 0) hx hb d_ZA_takeAll_81 (by decide) ?_
          have hGo82 := hG
          refine zk_v (va_runV (As := [.int 0]) (rest := []) ⟨hx, hb, hml, hown, hts⟩ (t_Ta_cutTo l E G72 (k 17) b (nI tp.length) hOb2.2.2.2.1.1 0) (zcV 1 hts w_818 w_819 w_820 w_2 w_821 (by decide +kernel) ⟨Nat.le_of_ble_eq_true rfl, Nat.le_of_ble_eq_true rfl⟩) (zc_preV hbase hK hN hQ hG hS hOb2.2.2.2.1.1 rfl) rfl rfl hl.1 rfl (lv_room (Nat.le_of_ble_eq_true rfl)) d_ZA_takeAll_82 ⟨(by dsimp only; omega), (by dsimp only; omega)⟩) hS (fun G82 H locs hp82 hG hS => ?_)
          have hEC : G82 (E.2.2.2 0) = none := hQ.out hG
          obtain ⟨hObC, hfC⟩ := hOb2.cut hE2 0 (Nat.zero_le _) (by rw [show nI 0 = 0 from nI_0, ← hp82]; exact hEC)
          rw [show nI 0 = 0 from nI_0, ← hp82] at hObC hfC
          rw [List.take_zero] at hObC
          have hstC := hObC.st hGZ2 hdw2 hdx2 hrc2
          rw [hV8] at hstC
          refine lv_iload hx hb d_ZA_takeAll_85 (lv_at hl 0 rfl) ?_
          exact zt_iret hx hb hr hlocks (rfl) (⟨roN, lsn, _, hTn, hxt, hall, hstC, ((hfN.w (fun _ z => z.elim)).tr (hfr2.w zKc_z)).tr hfC, _, hcnt, rfl⟩) hG hS (by dsimp only; omega) (by dsimp only; omega) d_ZA_takeAll_87
        · have hG : zP E G15 H := eg54 ▸ hG
          refine zr_none er54 ?_
          have hnil : ∀ u, zV os (np_low lsn) u = [] := fun u => zV_nil hno
          have hcnt : isCnt (gone (zV os) (np_low lsn) t) 0 := gone_0 hnil
          obtain ⟨os8, eos8⟩ : ∃ z, z = os := ⟨_, rfl⟩
          obtain ⟨g8, eg8⟩ : ∃ z : Nat, z = 0 := ⟨_, rfl⟩
          have hOb8 := hObN
          have hV8 : zV os = vta (zV os) (np_low lsn) t := (vta_0 hnil).symm
          refine lv_astore_nN (lv' := [(3, .null), (2, .ref qn), (0, .ref (k 16)), (1, .int t)]) hx hb d_ZA_takeAll_57 rfl hl (by decide) rfl (fun ls hl => ?_)
          refine lv_aload_nN hx hb d_ZA_takeAll_58 rfl (lv_at hl 0 rfl) ?_
          refine lv_ifnonnullN hx hb d_ZA_takeAll_59 ?_
          refine lv_iconst (v := 0) hx hb d_ZA_takeAll_62 (by decide) ?_
          refine lv_goto (tgt := 75) hx hb d_ZA_takeAll_63 (by decide) ?_
          refine lv_istore (lv' := [(4, .int 0), (3, .null), (2, .ref qn), (0, .ref (k 16)), (1, .int t)]) hx hb d_ZA_takeAll_75 hl (by decide) rfl (fun ls hl => ?_)
          refine lv_aload_n hx hb d_ZA_takeAll_77 rfl (lv_at hl 3 rfl) ?_
          refine zg_get (ci := 10) (C := "ZoneAnswers") (T := T_ZA) (N := 3) hx hb hts zi_ZA hown hK hG hO1N rfl 0 (by decide) (hts _ w_703) (fun _ h9 => h9) rfl d_ZA_takeAll_78 ?_
          refine lv_iconst (v := 0) hx hb d_ZA_takeAll_81 (by decide) ?_
          have hGo82 := hG
          refine zk_v (va_runV (As := [.int 0]) (rest := []) ⟨hx, hb, hml, hown, hts⟩ (t_Ta_cutTo l E G15 (k 17) b (nI tp.length) hTpN.1 0) (zcV 1 hts w_818 w_819 w_820 w_2 w_821 (by decide +kernel) ⟨Nat.le_of_ble_eq_true rfl, Nat.le_of_ble_eq_true rfl⟩) (zc_preV hbase hK hN hQ hG hS hTpN.1 rfl) rfl rfl hl.1 rfl (lv_room (Nat.le_of_ble_eq_true rfl)) d_ZA_takeAll_82 ⟨(by dsimp only; omega), (by dsimp only; omega)⟩) hS (fun G82 H locs hp82 hG hS => ?_)
          have hEC : G82 (E.2.2.2 0) = none := hQ.out hG
          obtain ⟨hObC, hfC⟩ := hObN.cut hEN 0 (Nat.zero_le _) (by rw [show nI 0 = 0 from nI_0, ← hp82]; exact hEC)
          rw [show nI 0 = 0 from nI_0, ← hp82] at hObC hfC
          rw [List.take_zero] at hObC
          have hstC := hObC.st hGZ hdw hdx hrc
          rw [hV8] at hstC
          refine lv_iload hx hb d_ZA_takeAll_85 (lv_at hl 0 rfl) ?_
          exact zt_iret hx hb hr hlocks (rfl) (⟨roN, lsn, _, hTn, hxt, hall, hstC, (hfN.w (fun _ z => z.elim)).tr hfC, _, hcnt, by rw [show nI 0 = 0 from nI_0]⟩) hG hS (by dsimp only; omega) (by dsimp only; omega) d_ZA_takeAll_87
      · have hxnn := hp35.1.z c38
        exact zt_row (names := zt_up) (ic := 58) hoff hx hb (hml.trans hl.1.symm) hown hts hQ hex hlocks (zt_words hts hN hQ zt_iae) (by decide) (by decide) w_813 w_488 w_26 (⟨rfl, by first | exact fun ⟨l2, z1, z2, z3⟩ => hnal z3 | exact fun ⟨l2, z1, z2, z3⟩ => hnt ⟨l2, z1⟩ | exact fun ⟨l2, z1, z2, z3⟩ => hxnn (zTn_un hTn z1 ▸ z2)⟩) (zg_P.sub hG (fun _ _ h9 => hxn.o h9)) hS hbase (by dsimp only; omega) (by dsimp only; omega) (Nat.le_of_ble_eq_true rfl) (Nat.le_of_ble_eq_true rfl) d_ZA_takeAll_41 d_ZA_takeAll_44 d_ZA_takeAll_45 d_ZA_takeAll_48
    · have hG : zP E G H := egn ▸ hG
      refine zr_none ern ?_
      refine lv_goto (tgt := 22) hx hb d_ZA_takeAll_18 (by decide) ?_
      refine lv_astore_nN (lv' := [(2, .null), (0, .ref (k 16)), (1, .int t)]) hx hb d_ZA_takeAll_22 rfl hl (by decide) rfl (fun ls hl => ?_)
      refine lv_aload_nN hx hb d_ZA_takeAll_23 rfl (lv_at hl 0 rfl) ?_
      refine lv_ifnullN (tgt := 41) hx hb d_ZA_takeAll_24 (by decide) ?_
      exact zt_row (names := zt_up) (ic := 58) hoff hx hb (hml.trans hl.1.symm) hown hts hQ hex hlocks (zt_words hts hN hQ zt_iae) (by decide) (by decide) w_813 w_488 w_26 (⟨rfl, by first | exact fun ⟨l2, z1, z2, z3⟩ => hnal z3 | exact fun ⟨l2, z1, z2, z3⟩ => hnt ⟨l2, z1⟩ | exact fun ⟨l2, z1, z2, z3⟩ => hxnn (zTn_un hTn z1 ▸ z2)⟩) hG hS hbase (by dsimp only; omega) (by dsimp only; omega) (Nat.le_of_ble_eq_true rfl) (Nat.le_of_ble_eq_true rfl) d_ZA_takeAll_41 d_ZA_takeAll_44 d_ZA_takeAll_45 d_ZA_takeAll_48
  · refine lv_iload_n hx hb d_ZA_takeAll_7 rfl (lv_at hl 1 rfl) ?_
    refine zk_i (va_runS (As := [.int t]) (rest := []) ⟨hx, hb, hml, hown, hts⟩ (t_ZA_isPutType l E G t) (zcS 1 hts w_858 w_859 w_1 w_860 (by decide +kernel) ⟨Nat.le_of_ble_eq_true rfl, Nat.le_of_ble_eq_true rfl⟩) (zc_pre hbase hK hN hQ hG hS) rfl rfl hl.1 rfl (lv_room (Nat.le_of_ble_eq_true rfl)) d_ZA_takeAll_8 ⟨(by dsimp only; omega), (by dsimp only; omega)⟩) hS (fun r8 G8 H locs hp8 hG hS => ?_)
    have hG : zP E G H := hp8.2 ▸ hG
    refine lv_if_eq (tgt := 21) hx hb d_ZA_takeAll_11 (by decide) (fun c11 => ?_) (fun c11 => ?_)
    · have hnal : ¬ zall t := fun z => z.elim c4 (hp8.1.z c11)
      refine lv_null hx hb d_ZA_takeAll_21 ?_
      refine lv_astore_nN (lv' := [(2, .null), (0, .ref (k 16)), (1, .int t)]) hx hb d_ZA_takeAll_22 rfl hl (by decide) rfl (fun ls hl => ?_)
      refine lv_aload_nN hx hb d_ZA_takeAll_23 rfl (lv_at hl 0 rfl) ?_
      refine lv_ifnullN (tgt := 41) hx hb d_ZA_takeAll_24 (by decide) ?_
      exact zt_row (names := zt_up) (ic := 58) hoff hx hb (hml.trans hl.1.symm) hown hts hQ hex hlocks (zt_words hts hN hQ zt_iae) (by decide) (by decide) w_813 w_488 w_26 (⟨rfl, by first | exact fun ⟨l2, z1, z2, z3⟩ => hnal z3 | exact fun ⟨l2, z1, z2, z3⟩ => hnt ⟨l2, z1⟩ | exact fun ⟨l2, z1, z2, z3⟩ => hxnn (zTn_un hTn z1 ▸ z2)⟩) hG hS hbase (by dsimp only; omega) (by dsimp only; omega) (Nat.le_of_ble_eq_true rfl) (Nat.le_of_ble_eq_true rfl) d_ZA_takeAll_41 d_ZA_takeAll_44 d_ZA_takeAll_45 d_ZA_takeAll_48
    · have hall : zall t := Or.inr (hp8.1.nz c11)
      have hk6 := hk6 hall
      refine lv_aload_n hx hb d_ZA_takeAll_14 rfl (lv_at hl 0 rfl) ?_
      have hGo15 := hG
      refine zk_q (va_runV (As := []) (rest := []) ⟨hx, hb, hml, hown, hts⟩ (t_ZA_tapeName_b l E G (k 16) (k 17) (k 1) (k 0) b tp hO1 hTp hO5 (tp.length + 2) (Nat.le_refl _)) (zcV 0 hts w_991 w_993 wp_14 w_1 w_994 (by decide +kernel) ⟨Nat.le_of_ble_eq_true rfl, Nat.le_of_ble_eq_true rfl⟩) (zc_preV hbase hK hN hQ hG hS hO1 rfl) rfl rfl hl.1 rfl (lv_room (Nat.le_of_ble_eq_true rfl)) d_ZA_takeAll_15 ⟨(by dsimp only; omega), (by dsimp only; omega)⟩) hS (fun r15 G15 H locs hp15 hG hS => ?_)
      rcases hp15 with ⟨lsn, qn, hTn, ern, hxn, hNbn⟩ | ⟨ern, egn, hnt⟩
      · refine zr_some (a := qn) ern ?_
        obtain ⟨roN, hfN, hrN, hNqn⟩ := hNbn.nr hxn ro
        have hEN : G15 (E.2.2.2 0) = none := hQ.out hG
        have hObN := hOb.z hfN hE00 hEN
        obtain ⟨hCxN, hO1N, hO2N, hTpN, hO3N, hO4N, hO5N⟩ := id hObN
        obtain ⟨⟨hz1N, hz2N, hz3N, hz4N, hz5N, soaN, u9N, hz6N, hz7N, hz8N, hz9N, hzAN⟩, ⟨ha1N, ha2N, hs1N, hs2N, hs3N⟩, hT1N⟩ := id hCxN
        obtain ⟨boN, foN, hno1N, hno2N, hno3N, hno4N, hno5N, -⟩ := id hz4N
        obtain ⟨b_qnN, f_qnN, hq1_qnN, hq2_qnN, hq3_qnN, hq4_qnN, hq5_qnN, -⟩ := id hNqn
        refine lv_goto (tgt := 22) hx hb d_ZA_takeAll_18 (by decide) ?_
        refine lv_astore_n (lv' := [(2, .ref qn), (0, .ref (k 16)), (1, .int t)]) hx hb d_ZA_takeAll_22 rfl hl (by decide) rfl (fun ls hl => ?_)
        refine lv_aload_n hx hb d_ZA_takeAll_23 rfl (lv_at hl 0 rfl) ?_
        refine lv_ifnull hx hb d_ZA_takeAll_24 ?_
        refine lv_aload_n hx hb d_ZA_takeAll_27 rfl (lv_at hl 0 rfl) ?_
        refine lv_aload_n hx hb d_ZA_takeAll_28 rfl (lv_at hl 1 rfl) ?_
        refine zg_get (ci := 10) (C := "ZoneAnswers") (T := T_ZA) (N := 3) hx hb hts zi_ZA hown hK hG hO1N rfl 1 (by decide) (hts _ w_704) (fun _ h9 => h9) rfl d_ZA_takeAll_29 ?_
        refine zk_q (va_runV (As := []) (rest := [.ref qn]) ⟨hx, hb, hml, hown, hts⟩ (t_Zo_top l E G15 (k 1) (k 11) (k 12) (k 13) (k 14) rc hz1N) (zcV 0 hts w_874 w_875 w_876 w_3 w_877 (by decide +kernel) ⟨Nat.le_of_ble_eq_true rfl, Nat.le_of_ble_eq_true rfl⟩) (zc_preV hbase hK hN hQ hG hS hz1N rfl) rfl rfl hl.1 rfl (lv_room (Nat.le_of_ble_eq_true rfl)) d_ZA_takeAll_32 ⟨(by dsimp only; omega), (by dsimp only; omega)⟩) hS (fun r32 G32 H locs hp32 hG hS => ?_)
        have hG : zP E G15 H := hp32.2 ▸ hG
        refine zr_some (a := k 12) hp32.1 ?_
        refine zk_i (va_runV (As := [.ref (k 12)]) (rest := []) ⟨hx, hb, hml, hown, hts⟩ (t_Na_isAtOrBelow l E G15 qn b_qnN (np_low lsn) f_qnN hq1_qnN hq2_qnN hq3_qnN hq4_qnN (k 12) boN top foN hno1N hno2N hno3N hno4N) (zcV 1 hts w_878 w_650 w_651 w_7 w_652 (by decide +kernel) ⟨Nat.le_of_ble_eq_true rfl, Nat.le_of_ble_eq_true rfl⟩) (zc_preV hbase hK hN hQ hG hS hq1_qnN rfl) rfl rfl hl.1 rfl (lv_room (Nat.le_of_ble_eq_true rfl)) d_ZA_takeAll_35 ⟨(by dsimp only; omega), (by dsimp only; omega)⟩) hS (fun r35 G35 H locs hp35 hG hS => ?_)
        have hG : zP E G15 H := hp35.2 ▸ hG
        refine lv_if_ne (tgt := 49) hx hb d_ZA_takeAll_38 (by decide) (fun c38 => ?_) (fun c38 => ?_)
        · have hxt := hp35.1.nz c38
          refine lv_aload_n hx hb d_ZA_takeAll_49 rfl (lv_at hl 1 rfl) ?_
          refine zg_get (ci := 10) (C := "ZoneAnswers") (T := T_ZA) (N := 3) hx hb hts zi_ZA hown hK hG hO1N rfl 1 (by decide) (hts _ w_704) (fun _ h9 => h9) rfl d_ZA_takeAll_50 ?_
          refine lv_aload_n hx hb d_ZA_takeAll_53 rfl (lv_at hl 0 rfl) ?_
          have hGo54 := hG
          refine zk_q (va_runV (As := [.ref qn]) (rest := []) ⟨hx, hb, hml, hown, hts⟩ (t_Zo_at_t l hz1N hz3N hne hso hq1_qnN hq2_qnN hq3_qnN hq4_qnN hq5_qnN) (zcV 1 hts w_879 w_880 w_881 w_3 w_882 (by decide +kernel) ⟨Nat.le_of_ble_eq_true rfl, Nat.le_of_ble_eq_true rfl⟩) (zc_preV hbase hK hN hQ hG hS hz1N rfl) rfl rfl hl.1 rfl (lv_room (Nat.le_of_ble_eq_true rfl)) d_ZA_takeAll_54 ⟨(by dsimp only; omega), (by dsimp only; omega)⟩) hS (fun r54 G54 H locs hp54 hG hS => ?_)
          rcases hp54 with ⟨⟨oi, hoi, ho2, er54⟩ | ⟨hno, er54⟩, eg54⟩
          · have hG : zP E G15 H := eg54 ▸ hG
            refine zr_some (a := oA (oe os oi)) er54 ?_
            have how9 := hz3N.2 _ (oe_mem hoi)
            have hszo := (hsz.2 oi hoi).1
            refine lv_astore_n (lv' := [(3, .ref (oA (oe os oi))), (2, .ref qn), (0, .ref (k 16)), (1, .int t)]) hx hb d_ZA_takeAll_57 rfl hl (by decide) rfl (fun ls hl => ?_)
            refine lv_aload_n hx hb d_ZA_takeAll_58 rfl (lv_at hl 0 rfl) ?_
            refine lv_ifnonnull (tgt := 66) hx hb d_ZA_takeAll_59 (by decide) ?_
            refine lv_aload_n hx hb d_ZA_takeAll_66 rfl (lv_at hl 2 rfl) ?_
            refine zg_get (ci := 10) (C := "ZoneAnswers") (T := T_ZA) (N := 3) hx hb hts zi_ZA hown hK hG hO1N rfl 1 (by decide) (hts _ w_704) (fun _ h9 => h9) rfl d_ZA_takeAll_67 ?_
            refine lv_aload_n hx hb d_ZA_takeAll_70 rfl (lv_at hl 0 rfl) ?_
            refine lv_iload_n hx hb d_ZA_takeAll_71 rfl (lv_at hl 3 rfl) ?_
            have hGo72 := hG
            refine zk_i (va_runV (As := [.ref (oA (oe os oi)), .int t]) (rest := []) ⟨hx, hb, hml, hown, hts⟩ (t_Zo_removeAll l E G15 (k 1) (k 11) (k 12) (k 13) (k 14) rc hz1N roN (k 15) os hz3N hz2N hGZ.1 hol oi hoi (by omega) t (h0ra hGZ hoi hz5N hk6)) (zcV 2 hts w_995 w_996 w_997 w_3 w_998 (by decide +kernel) ⟨Nat.le_of_ble_eq_true rfl, Nat.le_of_ble_eq_true rfl⟩) (zc_preV hbase hK hN hQ hG hS hz1N rfl) rfl rfl hl.1 rfl (lv_room (Nat.le_of_ble_eq_true rfl)) d_ZA_takeAll_72 ⟨(by dsimp only; omega), (by dsimp only; omega)⟩) hS (fun r72 G72 H locs hp72 hG hS => ?_)
            obtain ⟨os2, er72, hZ2, hfr2, haz2, hgo2, hln2, hp2, hnr2, hgt2, hct2, hsa2⟩ := hp72
            have hE2 : G72 (E.2.2.2 0) = none := hQ.out hG
            refine zi_as (y := nI (zgn t (oX (oe os oi)))) er72 ?_
            have hV8 : zV os2 = vta (zV os) (np_low lsn) t := zV_cg (fun y u => by
              rw [hgt2, ho2]; unfold vta
              by_cases z : y = np_low lsn ∧ ¬ zkt t u = true
              · rw [if_pos z, if_pos z]; rfl
              · rw [if_neg z, if_neg z]; rfl)
            have hcnt : isCnt (gone (zV os) (np_low lsn) t) (zgn t (oX (oe os oi))) := by rw [← ho2]; exact gone_c hGZ.1 hoi
            have hst8 : ∀ y u, vta (zV os) (np_low lsn) t y u ≠ [] → zV os y u ≠ [] := fun y u => vta_ne
            have ht6 : vta (zV os) (np_low lsn) t top 6 = zV os top 6 := by unfold vta; rw [if_neg (fun z => z.2 hk6)]
            obtain ⟨hq1, hq2, hq3⟩ := hGZ.all
            have hGZ2 : zGZ os2 top := zGZ.of hgo2 (hct2 hGZ.2.1) hZ2 ⟨6, by rw [hV8, ht6, hz8N]; simp⟩ (fun x ⟨u, hxu⟩ => hq2 x ⟨u, hst8 x u (by rw [← hV8]; exact hxu)⟩) (fun x u hxu => hq3 x u (hst8 x u (by rw [← hV8]; exact hxu)))
            have hdw2 : zdw os2 := zdw_iff.mpr (fun x u q hq => by
              rw [hgt2, ho2] at hq
              by_cases z : x = np_low lsn ∧ ¬ zkt t u = true
              · rw [if_pos z] at hq; cases hq
              · rw [if_neg z] at hq; exact zdw_iff.mp hdw x u q hq)
            have hdx2 : zdx os2 := fun x u q hq => by
              rw [hgt2, ho2] at hq
              by_cases z : x = np_low lsn ∧ ¬ zkt t u = true
              · rw [if_pos z] at hq; cases hq
              · rw [if_neg z] at hq; exact hdx x u q hq
            have hrc2 : rc - nI (zgn t (oX (oe os oi))) = nI (znr os2) := by rw [hrc, zi_sub (by omega)]; congr 1; omega
            have hZn2 : zZn E G72 roN k (rc - nI (zgn t (oX (oe os oi)))) os2 top := ⟨haz2, by rw [← hz2N], hZ2, hz4N.fr hfr2 zKz_0, hsa2 _ _ _ hz5N (fun z => z.2 hk6), soaN, u9N, (hz6N.fr hz7N hfr2 zKz_0).1, (hz6N.fr hz7N hfr2 zKz_0).2, by rw [hV8, ht6]; exact hz8N, hz9N, hzAN⟩
            have hOb2 := hObN.zn hfr2 hEN hE2 hZn2 (fun n _ => rfl)
            refine lv_istore (lv' := [(4, .int (nI (zgn t (oX (oe os oi))))), (3, .ref (oA (oe os oi))), (2, .ref qn), (0, .ref (k 16)), (1, .int t)]) hx hb d_ZA_takeAll_75 hl (by decide) rfl (fun ls hl => ?_)
            refine lv_aload_n hx hb d_ZA_takeAll_77 rfl (lv_at hl 3 rfl) ?_
            refine zg_get (ci := 10) (C := "ZoneAnswers") (T := T_ZA) (N := 3) hx hb hts zi_ZA hown hK hG hOb2.2.1 rfl 0 (by decide) (hts _ w_703) (fun _ h9 => h9) rfl d_ZA_takeAll_78 ?_
            refine lv_iconst (v := 0) hx hb d_ZA_takeAll_81 (by decide) ?_
            have hGo82 := hG
            refine zk_v (va_runV (As := [.int 0]) (rest := []) ⟨hx, hb, hml, hown, hts⟩ (t_Ta_cutTo l E G72 (k 17) b (nI tp.length) hOb2.2.2.2.1.1 0) (zcV 1 hts w_818 w_819 w_820 w_2 w_821 (by decide +kernel) ⟨Nat.le_of_ble_eq_true rfl, Nat.le_of_ble_eq_true rfl⟩) (zc_preV hbase hK hN hQ hG hS hOb2.2.2.2.1.1 rfl) rfl rfl hl.1 rfl (lv_room (Nat.le_of_ble_eq_true rfl)) d_ZA_takeAll_82 ⟨(by dsimp only; omega), (by dsimp only; omega)⟩) hS (fun G82 H locs hp82 hG hS => ?_)
            have hEC : G82 (E.2.2.2 0) = none := hQ.out hG
            obtain ⟨hObC, hfC⟩ := hOb2.cut hE2 0 (Nat.zero_le _) (by rw [show nI 0 = 0 from nI_0, ← hp82]; exact hEC)
            rw [show nI 0 = 0 from nI_0, ← hp82] at hObC hfC
            rw [List.take_zero] at hObC
            have hstC := hObC.st hGZ2 hdw2 hdx2 hrc2
            rw [hV8] at hstC
            refine lv_iload hx hb d_ZA_takeAll_85 (lv_at hl 0 rfl) ?_
            exact zt_iret hx hb hr hlocks (rfl) (⟨roN, lsn, _, hTn, hxt, hall, hstC, ((hfN.w (fun _ z => z.elim)).tr (hfr2.w zKc_z)).tr hfC, _, hcnt, rfl⟩) hG hS (by dsimp only; omega) (by dsimp only; omega) d_ZA_takeAll_87
          · have hG : zP E G15 H := eg54 ▸ hG
            refine zr_none er54 ?_
            have hnil : ∀ u, zV os (np_low lsn) u = [] := fun u => zV_nil hno
            have hcnt : isCnt (gone (zV os) (np_low lsn) t) 0 := gone_0 hnil
            obtain ⟨os8, eos8⟩ : ∃ z, z = os := ⟨_, rfl⟩
            obtain ⟨g8, eg8⟩ : ∃ z : Nat, z = 0 := ⟨_, rfl⟩
            have hOb8 := hObN
            have hV8 : zV os = vta (zV os) (np_low lsn) t := (vta_0 hnil).symm
            refine lv_astore_nN (lv' := [(3, .null), (2, .ref qn), (0, .ref (k 16)), (1, .int t)]) hx hb d_ZA_takeAll_57 rfl hl (by decide) rfl (fun ls hl => ?_)
            refine lv_aload_nN hx hb d_ZA_takeAll_58 rfl (lv_at hl 0 rfl) ?_
            refine lv_ifnonnullN hx hb d_ZA_takeAll_59 ?_
            refine lv_iconst (v := 0) hx hb d_ZA_takeAll_62 (by decide) ?_
            refine lv_goto (tgt := 75) hx hb d_ZA_takeAll_63 (by decide) ?_
            refine lv_istore (lv' := [(4, .int 0), (3, .null), (2, .ref qn), (0, .ref (k 16)), (1, .int t)]) hx hb d_ZA_takeAll_75 hl (by decide) rfl (fun ls hl => ?_)
            refine lv_aload_n hx hb d_ZA_takeAll_77 rfl (lv_at hl 3 rfl) ?_
            refine zg_get (ci := 10) (C := "ZoneAnswers") (T := T_ZA) (N := 3) hx hb hts zi_ZA hown hK hG hO1N rfl 0 (by decide) (hts _ w_703) (fun _ h9 => h9) rfl d_ZA_takeAll_78 ?_
            refine lv_iconst (v := 0) hx hb d_ZA_takeAll_81 (by decide) ?_
            have hGo82 := hG
            refine zk_v (va_runV (As := [.int 0]) (rest := []) ⟨hx, hb, hml, hown, hts⟩ (t_Ta_cutTo l E G15 (k 17) b (nI tp.length) hTpN.1 0) (zcV 1 hts w_818 w_819 w_820 w_2 w_821 (by decide +kernel) ⟨Nat.le_of_ble_eq_true rfl, Nat.le_of_ble_eq_true rfl⟩) (zc_preV hbase hK hN hQ hG hS hTpN.1 rfl) rfl rfl hl.1 rfl (lv_room (Nat.le_of_ble_eq_true rfl)) d_ZA_takeAll_82 ⟨(by dsimp only; omega), (by dsimp only; omega)⟩) hS (fun G82 H locs hp82 hG hS => ?_)
            have hEC : G82 (E.2.2.2 0) = none := hQ.out hG
            obtain ⟨hObC, hfC⟩ := hObN.cut hEN 0 (Nat.zero_le _) (by rw [show nI 0 = 0 from nI_0, ← hp82]; exact hEC)
            rw [show nI 0 = 0 from nI_0, ← hp82] at hObC hfC
            rw [List.take_zero] at hObC
            have hstC := hObC.st hGZ hdw hdx hrc
            rw [hV8] at hstC
            refine lv_iload hx hb d_ZA_takeAll_85 (lv_at hl 0 rfl) ?_
            exact zt_iret hx hb hr hlocks (rfl) (⟨roN, lsn, _, hTn, hxt, hall, hstC, (hfN.w (fun _ z => z.elim)).tr hfC, _, hcnt, by rw [show nI 0 = 0 from nI_0]⟩) hG hS (by dsimp only; omega) (by dsimp only; omega) d_ZA_takeAll_87
        · have hxnn := hp35.1.z c38
          exact zt_row (names := zt_up) (ic := 58) hoff hx hb (hml.trans hl.1.symm) hown hts hQ hex hlocks (zt_words hts hN hQ zt_iae) (by decide) (by decide) w_813 w_488 w_26 (⟨rfl, by first | exact fun ⟨l2, z1, z2, z3⟩ => hnal z3 | exact fun ⟨l2, z1, z2, z3⟩ => hnt ⟨l2, z1⟩ | exact fun ⟨l2, z1, z2, z3⟩ => hxnn (zTn_un hTn z1 ▸ z2)⟩) (zg_P.sub hG (fun _ _ h9 => hxn.o h9)) hS hbase (by dsimp only; omega) (by dsimp only; omega) (Nat.le_of_ble_eq_true rfl) (Nat.le_of_ble_eq_true rfl) d_ZA_takeAll_41 d_ZA_takeAll_44 d_ZA_takeAll_45 d_ZA_takeAll_48
      · have hG : zP E G H := egn ▸ hG
        refine zr_none ern ?_
        refine lv_goto (tgt := 22) hx hb d_ZA_takeAll_18 (by decide) ?_
        refine lv_astore_nN (lv' := [(2, .null), (0, .ref (k 16)), (1, .int t)]) hx hb d_ZA_takeAll_22 rfl hl (by decide) rfl (fun ls hl => ?_)
        refine lv_aload_nN hx hb d_ZA_takeAll_23 rfl (lv_at hl 0 rfl) ?_
        refine lv_ifnullN (tgt := 41) hx hb d_ZA_takeAll_24 (by decide) ?_
        exact zt_row (names := zt_up) (ic := 58) hoff hx hb (hml.trans hl.1.symm) hown hts hQ hex hlocks (zt_words hts hN hQ zt_iae) (by decide) (by decide) w_813 w_488 w_26 (⟨rfl, by first | exact fun ⟨l2, z1, z2, z3⟩ => hnal z3 | exact fun ⟨l2, z1, z2, z3⟩ => hnt ⟨l2, z1⟩ | exact fun ⟨l2, z1, z2, z3⟩ => hxnn (zTn_un hTn z1 ▸ z2)⟩) hG hS hbase (by dsimp only; omega) (by dsimp only; omega) (Nat.le_of_ble_eq_true rfl) (Nat.le_of_ble_eq_true rfl) d_ZA_takeAll_41 d_ZA_takeAll_44 d_ZA_takeAll_45 d_ZA_takeAll_48
