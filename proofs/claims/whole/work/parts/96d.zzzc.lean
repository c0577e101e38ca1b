set_option maxRecDepth 100000 in
theorem zt_iobe : (Bundle.ownAtoms0 "ZoneAnswers" 194 "java/lang/IndexOutOfBoundsException" zt_up).all zt_ok = true := by decide +kernel
set_option maxRecDepth 100000 in
theorem zt_uoe : (Bundle.ownAtoms0 "ZoneAnswers" 106 "java/lang/UnsupportedOperationException" zt_up).all zt_ok = true := by decide +kernel
def zdA (t : Int32) (a : aD) : Prop := (t = 2 ∨ t = 5 ∨ t = 12 ∨ t = 15 ∨ t = 33) → ∃ ls, a.2 = some ls ∧ np_enc ls = a.1.drop (voff t) ∧ np_g ls
theorem zgt_mem {os : List zOt} {x : np_N} {t : Int32} {p : Int32 × aD} : p ∈ zgt os x t ↔ ∃ o ∈ os, oM o = x ∧ ∃ s ∈ oX o, sT s = t ∧ ∃ d ∈ sX s, (sU s, d.2) = p := by
  unfold zgt zgO zgS
  rw [List.mem_flatMap]
  constructor
  · rintro ⟨o, ho, hp⟩
    split at hp
    · rename_i e
      obtain ⟨s, hs, hq⟩ := List.mem_flatMap.mp hp
      split at hq
      · rename_i e2
        obtain ⟨d, hd, e3⟩ := List.mem_map.mp hq
        exact ⟨o, ho, e, s, hs, e2, d, hd, e3⟩
      · cases hq
    · cases hp
  · rintro ⟨o, ho, e, s, hs, e2, d, hd, e3⟩
    refine ⟨o, ho, ?_⟩
    rw [if_pos e]
    refine List.mem_flatMap.mpr ⟨s, hs, ?_⟩
    rw [if_pos e2]
    exact List.mem_map.mpr ⟨d, hd, e3⟩
theorem zdw_iff {os : List zOt} : zdw os ↔ ∀ x t p, p ∈ zgt os x t → zdA t p.2 := by
  constructor
  · intro h x t p hp
    obtain ⟨o, ho, -, s, hs, e2, d, hd, rfl⟩ := zgt_mem.mp hp
    have := h o ho s hs d hd
    rw [e2] at this
    exact this
  · intro h o ho s hs d hd
    exact h (oM o) (sT s) (sU s, d.2) (zgt_mem.mpr ⟨o, ho, rfl, s, hs, rfl, d, hd, rfl⟩)
theorem zGZ.of {E : zc_E} {G : zg_G} {ro : zRo} {la dd : Nat} {os : List zOt} {top : np_N} (hgo : zgo os) (hct : zctd os) (hZR : zZR E G ro la dd os) (h0 : vD (zV os) top) (hall : ∀ x, vD (zV os) x → top <:+ x) (hty : ∀ x t, zV os x t ≠ [] → 1 ≤ t ∧ t ≤ 65535) : zGZ os top := by
  have hn : ∀ i, i < os.length → zfn (oM (oe os i)) ∧ np_g (oM (oe os i)) := fun i hi => zNR.fn (hZR.2 _ (oe_mem hi)).2.2.1
  obtain ⟨i, hi, e⟩ := vD_ix h0
  have h1 : 0 < os.length := by omega
  have e0 : oM (oe os 0) = top := by
    have hs := hall _ (vD_of hgo h1)
    rcases Nat.eq_zero_or_pos i with z | z
    · rw [← z]; exact e
    · have hl := hgo.1 0 i z hi
      rw [e] at hl
      by_cases w : top = oM (oe os 0)
      · exact w.symm
      · exact absurd (zl_suf hs w) (zl_ay hl)
  refine ⟨hgo, hct, h1, e0, fun j hj => ⟨hall _ (vD_of hgo hj), (hn j hj).1, (hn j hj).2, fun s hs => ?_⟩, fun a b ha hb hab => ?_⟩
  · obtain ⟨q, hq, rfl⟩ := oS_ix hs
    exact hty _ _ ((zV_ne hgo hj).mpr ⟨q, hq, rfl⟩)
  · by_cases z : a = b
    · exact z
    · exact absurd hab (hZR.ne hgo.1 ha hb z)
theorem zGZ.all {os : List zOt} {top : np_N} (h : zGZ os top) : vD (zV os) top ∧ (∀ x, vD (zV os) x → top <:+ x) ∧ ∀ x t, zV os x t ≠ [] → 1 ≤ t ∧ t ≤ 65535 := by
  refine ⟨h.top0.1, fun x hx => ?_, fun x t hxt => ?_⟩
  · obtain ⟨i, hi, rfl⟩ := vD_ix hx
    exact (h.2.2.2.2.1 i hi).1
  · obtain ⟨i, hi, rfl⟩ := vD_ix (os := os) ⟨t, hxt⟩
    obtain ⟨j, hj, rfl⟩ := (zV_ne h.1 hi).mp hxt
    exact (h.2.2.2.2.1 i hi).2.2.2 _ (oS_mem hj)
theorem zKz_8 {i : Nat} : ¬ zKz (8, i) := by rintro (h | h | h) <;> simp at h
theorem zKz_9 {i : Nat} : ¬ zKz (9, i) := by rintro (h | h | h) <;> simp at h
theorem zKz_0 : ¬ zKz (0, 0) := by rintro (h | h | h) <;> simp at h
theorem zKz_14 : ¬ zKz (14, 0) := by rintro (h | h | h) <;> simp at h
theorem zKz_13 {i : Nat} : ¬ zKz (13, i) := by rintro (h | h | h) <;> simp at h
section ZZN
variable {E : zc_E} {G G2 : zg_G} {ro r2 : zRo} {k k2 : Nat → Nat} {rc ty se rc2 : Int32} {os os2 : List zOt} {top top2 : np_N} {d1 d2 d3 b : Nat} {t1 t2 t3 : List zTt} {tp : List Int32}
theorem zCx.zn (h : zCx E G ro k rc ty se os top d1 d2 d3 t1 t2 t3) (hf : zfr ro zKz G r2 G2) (hE0 : G (E.2.2.2 0) = none) (hE : G2 (E.2.2.2 0) = none) (hZ : zZn E G2 r2 k2 rc2 os2 top2) (hk : ∀ n, n ≤ 10 → k2 n = k n) : zCx E G2 r2 k2 rc2 ty se os2 top2 d1 d2 d3 t1 t2 t3 := by
  obtain ⟨h1, ⟨a1, a2, a3, a4, a5⟩, h3⟩ := h
  have q := hf _ _ a1 (by rw [a2]; exact zKz_14)
  refine ⟨hZ, ⟨by rw [hk 0 (by decide), hk 1 (by decide), hk 2 (by decide), hk 3 (by decide), hk 4 (by decide)]; exact q.1, by rw [hk 0 (by decide)]; exact q.2.trans a2, ?_, ?_, ?_⟩, h3⟩
  · rw [hk 2 (by decide), hk 5 (by decide), hk 8 (by decide)]; exact a3.fr hf hE0 hE zKz_0 zKz_8 zKz_9
  · rw [hk 3 (by decide), hk 6 (by decide), hk 9 (by decide)]; exact a4.fr hf hE0 hE zKz_0 zKz_8 zKz_9
  · rw [hk 4 (by decide), hk 7 (by decide), hk 10 (by decide)]; exact a5.fr hf hE0 hE zKz_0 zKz_8 zKz_9
theorem zOb.zn (h : zOb E G ro k rc ty se os top d1 d2 d3 t1 t2 t3 b tp) (hf : zfr ro zKz G r2 G2) (hE0 : G (E.2.2.2 0) = none) (hE : G2 (E.2.2.2 0) = none) (hZ : zZn E G2 r2 k2 rc2 os2 top2) (hk : ∀ n, n ≤ 10 ∨ n = 16 ∨ n = 17 → k2 n = k n) : zOb E G2 r2 k2 rc2 ty se os2 top2 d1 d2 d3 t1 t2 t3 b tp := h.fr (h.1.zn hf hE0 hE hZ (fun n hn => hk n (Or.inl hn))) (hk 0 (by decide)) (hk 1 (by decide)) (hk 16 (by decide)) (hk 17 (by decide)) hf zKz_0 ⟨zKz_13, zKz_13⟩
end ZZN
/-- another serial -/
def vsr (V : zVt) (top : np_N) (x : Int32) : zVt := fun y t => if y = top ∧ t = 6 then (V y t).map (fun p => (p.1, zs20 p.2 x)) else V y t
def vse (V : zVt) (top : np_N) : Int32 := match V top 6 with
  | [] => 0
  | p :: _ => zr4 (fun j => p.2.getD j 0) (p.2.length - 20)
theorem zV_cg {os2 : List zOt} {V : zVt} (h : ∀ y t, (zgt os2 y t).map (fun p => (p.1, p.2.1)) = V y t) : zV os2 = V := funext (fun y => funext (fun t => h y t))
/-- where the row lies, and what it has -/
def aRow (W : zW) (y : Int32) : Option (List aV) := if y = 1 then some W.1 else if y = 2 then some W.2.1 else if y = 3 then some W.2.2 else none
theorem aRow_q {y : Int32} {t1 t2 t3 : List zTt} : aRow (zWt t1 t2 t3) y = (zsq y t1 t2 t3).map (List.map tV) := by
  unfold aRow zsq
  by_cases h1 : y = 1
  · rw [if_pos h1, if_pos h1]; rfl
  · rw [if_neg h1, if_neg h1]
    by_cases h2 : y = 2
    · rw [if_pos h2, if_pos h2]; rfl
    · rw [if_neg h2, if_neg h2]
      by_cases h3 : y = 3
      · rw [if_pos h3, if_pos h3]; rfl
      · rw [if_neg h3, if_neg h3]; rfl
theorem zsc_mono {os : List zOt} {i : Nat} (h : i ≤ os.length) : zsc os i ≤ zsc os os.length := by
  unfold zsc
  rw [List.take_length]
  have e : (os.map (fun o => (oX o).length)).sum = ((os.take i).map (fun o => (oX o).length)).sum + ((os.drop i).map (fun o => (oX o).length)).sum := by
    rw [← List.sum_append, ← List.map_append, List.take_append_drop]
  omega
theorem zth_mono {os : List zOt} {i : Nat} (h : i ≤ os.length) : zth os i ≤ zth os os.length := by
  induction hd : os.length - i generalizing i with
  | zero => rw [show i = os.length by omega]; exact Nat.le_refl _
  | succ n ih =>
    have h1 := ih (i := i + 1) (by omega) (by omega)
    have h2 : zth os i ≤ zth os (i + 1) := Nat.le_add_right _ _
    omega

abbrev rm_ZA_serial : Room := { frames := 10, cells := 3, slots := 640, locals := 300 }
set_option maxHeartbeats 4000000 in
set_option maxRecDepth 100000 in
/-- serial(n) -/
theorem t_ZA_serial (l : Launch) (E : zc_E) (G : zg_G) (k : Nat → Nat) (ro : zRo) (rc ty se : Int32) (os : List zOt) (top : np_N) (d1 d2 d3 : Nat) (t1 t2 t3 : List zTt) (b : Nat) (tp : List Int32) (hOb : zOb E G ro k rc ty se os top d1 d2 d3 t1 t2 t3 b tp) (hGZ : zGZ os top) (hdw : zdw os) (hdx : zdx os) (hrc : rc = nI (znr os)) (hzn : znr os < 2000) (hs6 : ∀ p ∈ zV os top 6, p.2.length ≤ 600) (n9 : Int32) : zMi l E y_ZA_serial c_ZA_serial 3 (some .int) rm_ZA_serial [.ref (k 16), .int n9] G (fun (r : Int32) (G2 : zg_G) => ∃ ro2, zOS E G2 ro2 (k 16) tp (vsr (zV os) top n9) top (znr os) (zWt t1 t2 t3) ∧ zfr ro zKc G ro2 G2 ∧ r = vse (zV os) top) := by
  refine zMi.of (by decide) (Nat.le_of_ble_eq_true rfl) ?_
  intro p e s m args below meth c Q hZ hG hret ls hl
  obtain ⟨hx, hb, hr, hts, hown, hlocks, hml, hnm, hbase, hK, hN, hQ⟩ := hZ
  have hl : lv_has ls 3 [(0, .ref (k 16)), (1, .int n9)] := hl
  have hS : zg_S (zc_b E) s.heap s.heap [] := va_S.rf
  obtain ⟨hCx, hO1, hO2, hTp, hO3, hO4, hO5⟩ := id hOb
  obtain ⟨⟨hz1, hz2, hz3, hz4, hz5, soa, u9, hz6, hz7, hz8, hz9, hzA⟩, ⟨ha1, ha2, hs1, hs2, hs3⟩, hT1⟩ := id hCx
  obtain ⟨bo, fo, hno1, hno2, hno3, hno4, hno5, -⟩ := id hz4
  have hne : 0 < os.length := hGZ.2.2.1
  have hsz := hGZ.1.sz
  have hol : os.length ≤ 2000 := by have := hsz.1; omega
  have hso := hGZ.1.1
  have hE00 : G (E.2.2.2 0) = none := hQ.out hG
  have hl0 := zWt_l t1 t2 t3
  obtain ⟨i9, si9, hi9, hM9, hs9, hT9, hA9, hU9, hX9⟩ := zZn.start (E := E) (G := G) (ro := ro) (rc := rc) hGZ.1 hz5 hz8
  have hsr9 := (hz3.2 _ (oe_mem hi9)).2.2.2.2 _ (oS_mem hs9)
  obtain ⟨fs9, hfs1, hfs2, hfs3⟩ := id hz6
  have hl19 : (sX (oS (oe os i9) si9)).length = 1 := by have q := congrArg List.length hX9; rw [List.length_map] at q; exact q
  obtain ⟨y7, ys7, hy7⟩ : ∃ y ys, (sX (oS (oe os i9) si9)).map (·.1) = y :: ys := by
    cases hz : sX (oS (oe os i9) si9) with
    | nil => rw [hz] at hl19; cases hl19
    | cons y ys => exact ⟨y.1, ys.map (·.1), rfl⟩
  have hLL7 := hsr9.2.2.1.1
  rw [hy7] at hLL7
  have hcs7 := hsr9.1
  rw [hA9] at hcs7
  have hs600 : soa.length ≤ 600 := hs6 (u9, soa) (by rw [hz8]; exact List.mem_singleton.mpr rfl)
  have hser : zr4 fs9 (soa.length - 20) = vse (zV os) top := by unfold vse; rw [hz8]; exact zr4_cg (fun j h1 h2 => hfs2 j (by omega))
  refine lv_aload_n hx hb d_ZA_serial_0 rfl (lv_at hl 0 rfl) ?_
  refine zg_get (ci := 10) (C := "ZoneAnswers") (T := T_ZA) (N := 3) hx hb hts zi_ZA hown hK hG hO1 rfl 1 (by decide) (hts _ w_704) (fun _ h9 => h9) rfl d_ZA_serial_1 ?_
  have hGo4 := hG
  refine zk_i (va_runV (As := []) (rest := []) ⟨hx, hb, hml, hown, hts⟩ (t_Zo_serialNumber l E G (k 1) (k 11) (k 12) (k 13) rc (k 14) soa.length fs9 hfs1 hfs3 (by omega) hz1 hz9) (zcV 0 hts w_717 w_718 w_719 w_3 w_720 (by decide +kernel) ⟨Nat.le_of_ble_eq_true rfl, Nat.le_of_ble_eq_true rfl⟩) (zc_preV hbase hK hN hQ hG hS hz1 rfl) rfl rfl hl.1 rfl (lv_room (Nat.le_of_ble_eq_true rfl)) d_ZA_serial_4 ⟨(by dsimp only; omega), (by dsimp only; omega)⟩) hS (fun r4 G4 H locs hp4 hG hS => ?_)
  have hG : zP E G H := hp4.2 ▸ hG
  refine zi_as (y := vse (zV os) top) (hp4.1.trans hser) ?_
  refine lv_istore_n (lv' := [(2, .int (vse (zV os) top)), (0, .ref (k 16)), (1, .int n9)]) hx hb d_ZA_serial_7 rfl hl (by decide) rfl (fun ls hl => ?_)
  refine lv_aload_n hx hb d_ZA_serial_8 rfl (lv_at hl 1 rfl) ?_
  refine zg_get (ci := 10) (C := "ZoneAnswers") (T := T_ZA) (N := 3) hx hb hts zi_ZA hown hK hG hO1 rfl 1 (by decide) (hts _ w_704) (fun _ h9 => h9) rfl d_ZA_serial_9 ?_
  refine lv_iload_n hx hb d_ZA_serial_12 rfl (lv_at hl 2 rfl) ?_
  have hGo13 := hG
  refine zk_v (va_runV (As := [.int n9]) (rest := []) ⟨hx, hb, hml, hown, hts⟩ (t_Zo_changeSerial l E G (k 1) (k 11) (.ref (k 12)) (k 13) rc (k 14) soa.length fs9 hfs1 hfs3 (by omega) hz1 hz9 _ _ _ _ y7 ys7 hcs7 hLL7 n9 hs600) (zcV 1 hts w_724 w_658 w_659 w_3 w_660 (by decide +kernel) ⟨Nat.le_of_ble_eq_true rfl, Nat.le_of_ble_eq_true rfl⟩) (zc_preV hbase hK hN hQ hG hS hz1 rfl) rfl rfl hl.1 rfl (lv_room (Nat.le_of_ble_eq_true rfl)) d_ZA_serial_13 ⟨(by dsimp only; omega), (by dsimp only; omega)⟩) hS (fun G13 H locs hp13 hG hS => ?_)
  obtain ⟨sd8, dx8, d8, nsd8, ndx8, hd8, hx8, hya8, hysd8, hyL8, hydx8⟩ := hp13
  have hE8 : G13 (E.2.2.2 0) = none := hQ.out hG
  have hB8 := zSer_B hysd8 hfs2 hfs3
  obtain ⟨ro8, os8, hZ8, hfr8, hra8, hgo8, hct8, hnr8, hln8, hgt8, hsa8, hrs8⟩ := zSer hz1 hz3 hz2 hGZ.1 hi9 hs9 hT9 hU9 hl19 hE00 hE8 nsd8 ndx8 hd8 hx8 hya8 hB8 hyL8 hydx8
  have hV8 : zV os8 = vsr (zV os) top n9 := zV_cg (fun y t => by
    rw [hgt8, hM9]; unfold vsr
    by_cases z : y = top ∧ t = 6
    · rw [if_pos z, if_pos z, z.1, z.2, hz8]; rfl
    · rw [if_neg z, if_neg z]; rfl)
  have hal8 : (∀ x, vD (vsr (zV os) top n9) x ↔ vD (zV os) x) ∧ ∀ x t, vsr (zV os) top n9 x t ≠ [] ↔ zV os x t ≠ [] := by
    have q : ∀ x t, vsr (zV os) top n9 x t ≠ [] ↔ zV os x t ≠ [] := fun x t => by
      unfold vsr
      by_cases z : x = top ∧ t = 6
      · rw [if_pos z]; exact not_congr List.map_eq_nil_iff
      · rw [if_neg z]
    exact ⟨fun x => ⟨fun ⟨t, z⟩ => ⟨t, (q x t).mp z⟩, fun ⟨t, z⟩ => ⟨t, (q x t).mpr z⟩⟩, q⟩
  obtain ⟨hq1, hq2, hq3⟩ := hGZ.all
  have hGZ8 : zGZ os8 top := zGZ.of hgo8 (hct8 hGZ.2.1) hZ8 (by rw [hV8]; exact (hal8.1 _).mpr hq1) (fun x hx9 => hq2 x ((hal8.1 x).mp (by rw [← hV8]; exact hx9))) (fun x t hxt => hq3 x t ((hal8.2 x t).mp (by rw [← hV8]; exact hxt)))
  have hdw8 : zdw os8 := zdw_iff.mpr (fun x t q hq => by
    rw [hgt8, hM9] at hq
    by_cases z : x = top ∧ t = 6
    · rw [if_pos z] at hq; rw [z.2]; intro w; exact absurd w (by decide)
    · rw [if_neg z] at hq; exact zdw_iff.mp hdw x t q hq)
  have hdx8 : zdx os8 := fun x t q hq => by
    rw [hgt8, hM9] at hq
    by_cases z : x = top ∧ t = 6
    · rw [if_pos z] at hq; rw [List.mem_singleton.mp hq]; exact fun _ => rfl
    · rw [if_neg z] at hq; exact hdx x t q hq
  have hZn8 : zZn E G13 ro8 (ku k 14 sd8) rc os8 top := ⟨hya8, hra8, hZ8, hz4.fr hfr8 zKz_0, hsa8 _ _ _ hz5, zs20 soa n9, u9, hB8, hrs8, by rw [hV8]; unfold vsr; rw [if_pos ⟨rfl, rfl⟩, hz8]; rfl, by rw [zs20_len]; exact hz9, by rw [zs20_len]; exact hzA⟩
  have hOb8 := hOb.zn hfr8 hE00 hE8 hZn8 (fun n hn => if_neg (by omega))
  have hst8 := hOb8.st hGZ8 hdw8 hdx8 (by rw [hnr8]; exact hrc)
  rw [hV8, hnr8] at hst8
  refine lv_iload_n hx hb d_ZA_serial_16 rfl (lv_at hl 0 rfl) ?_
  exact hret _ _ _ _ _ _ _ _ _ hr (rfl) (⟨ro8, hst8, hfr8.w zKc_z, rfl⟩) hG hS (by dsimp only; omega) (by dsimp only; omega) d_ZA_serial_17
abbrev rm_ZA_count : Room := { frames := 6, cells := 0, slots := 0, locals := 160 }
set_option maxHeartbeats 4000000 in
set_option maxRecDepth 100000 in
/-- count(what) -/
theorem t_ZA_count (l : Launch) (E : zc_E) (G : zg_G) (k : Nat → Nat) (ro : zRo) (rc ty se : Int32) (os : List zOt) (top : np_N) (d1 d2 d3 : Nat) (t1 t2 t3 : List zTt) (b : Nat) (tp : List Int32) (hOb : zOb E G ro k rc ty se os top d1 d2 d3 t1 t2 t3 b tp) (hGZ : zGZ os top) (hdw : zdw os) (hdx : zdx os) (hrc : rc = nI (znr os)) (hzn : znr os < 2000) (w : Int32) (hsm : zsc os os.length ≤ 1000000) (htm : zth os os.length ≤ 1000000) : zMi l E y_ZA_count c_ZA_count 2 (some .int) rm_ZA_count [.ref (k 16), .int w] G (fun (r : Int32) (G2 : zg_G) => ((w = 0 ∧ r = nI tp.length) ∨ (w = 1 ∧ r = nI (znr os)) ∨ (w = 2 ∧ ∃ n, isCnt (fun p : np_N × Int32 => zV os p.1 p.2 ≠ []) n ∧ r = nI n) ∨ (w = 3 ∧ ∃ n, isCnt (vD (zV os)) n ∧ r = nI n) ∨ (w = 4 ∧ ∃ n, isCnt (fun x => top <:+ x ∧ vth (zV os) x) n ∧ r = nI n) ∨ (w = 5 ∧ ∃ n, isCnt (vch (zV os) top) n ∧ r = nI n) ∨ (w = 6 ∧ ∃ n, isCnt (fun x => x ≠ top ∧ zV os x 2 ≠ []) n ∧ r = nI n) ∨ (w = 7 ∧ r = vse (zV os) top) ∨ (¬ w = 0 ∧ ¬ w = 1 ∧ ¬ w = 2 ∧ ¬ w = 3 ∧ ¬ w = 4 ∧ ¬ w = 5 ∧ ¬ w = 6 ∧ ¬ w = 7 ∧ r = -1)) ∧ G2 = G) := by
  refine zMi.of (by decide) (Nat.le_of_ble_eq_true rfl) ?_
  intro p e s m args below meth c Q hZ hG hret ls hl
  obtain ⟨hx, hb, hr, hts, hown, hlocks, hml, hnm, hbase, hK, hN, hQ⟩ := hZ
  have hl : lv_has ls 2 [(0, .ref (k 16)), (1, .int w)] := hl
  have hS : zg_S (zc_b E) s.heap s.heap [] := va_S.rf
  obtain ⟨hCx, hO1, hO2, hTp, hO3, hO4, hO5⟩ := id hOb
  obtain ⟨⟨hz1, hz2, hz3, hz4, hz5, soa, u9, hz6, hz7, hz8, hz9, hzA⟩, ⟨ha1, ha2, hs1, hs2, hs3⟩, hT1⟩ := id hCx
  obtain ⟨bo, fo, hno1, hno2, hno3, hno4, hno5, -⟩ := id hz4
  have hne : 0 < os.length := hGZ.2.2.1
  have hsz := hGZ.1.sz
  have hol : os.length ≤ 2000 := by have := hsz.1; omega
  have hso := hGZ.1.1
  have hE00 : G (E.2.2.2 0) = none := hQ.out hG
  have hl0 := zWt_l t1 t2 t3
  obtain ⟨⟨⟨kq9, hla9⟩, -⟩, -⟩ := id hz3.1
  rw [List.length_map] at hla9
  obtain ⟨fs9, hfs1, hfs2, hfs3⟩ := id hz6
  have hser : zr4 fs9 (soa.length - 20) = vse (zV os) top := by unfold vse; rw [hz8]; exact zr4_cg (fun j h1 h2 => hfs2 j (by omega))
  refine lv_iload_n hx hb d_ZA_count_0 rfl (lv_at hl 1 rfl) ?_
  by_cases s1_0 : w = 0
  · refine lv_tableIn (off := 47) (tgt := 48) hx hb d_ZA_count_1 (by rw [s1_0]; decide) (by rw [s1_0]; decide) (by rw [s1_0]; rfl) (by decide) ?_
    refine lv_aload_n hx hb d_ZA_count_48 rfl (lv_at hl 0 rfl) ?_
    refine zg_get (ci := 10) (C := "ZoneAnswers") (T := T_ZA) (N := 3) hx hb hts zi_ZA hown hK hG hO1 rfl 0 (by decide) (hts _ w_703) (fun _ h9 => h9) rfl d_ZA_count_49 ?_
    refine zk_i (va_runV (As := []) (rest := []) ⟨hx, hb, hml, hown, hts⟩ (t_Ta_length l E G (k 17) b (nI tp.length) hTp.1) (zcV 0 hts w_729 w_730 w_731 w_2 w_732 (by decide +kernel) ⟨Nat.le_of_ble_eq_true rfl, Nat.le_of_ble_eq_true rfl⟩) (zc_preV hbase hK hN hQ hG hS hTp.1 rfl) rfl rfl hl.1 rfl (lv_room (Nat.le_of_ble_eq_true rfl)) d_ZA_count_52 ⟨(by decide), (by decide)⟩) hS (fun r52 G52 H locs hp52 hG hS => ?_)
    have hG : zP E G H := hp52.2 ▸ hG
    refine zi_as (y := nI tp.length) hp52.1 ?_
    exact hret _ _ _ _ _ _ _ _ _ hr (rfl) (⟨Or.inl ⟨s1_0, rfl⟩, rfl⟩) hG hS (Nat.le_refl _) (Nat.le_refl _) d_ZA_count_55
  by_cases s1_1 : w = 1
  · refine lv_tableIn (off := 55) (tgt := 56) hx hb d_ZA_count_1 (by rw [s1_1]; decide) (by rw [s1_1]; decide) (by rw [s1_1]; rfl) (by decide) ?_
    refine lv_aload_n hx hb d_ZA_count_56 rfl (lv_at hl 0 rfl) ?_
    refine zg_get (ci := 10) (C := "ZoneAnswers") (T := T_ZA) (N := 3) hx hb hts zi_ZA hown hK hG hO1 rfl 1 (by decide) (hts _ w_704) (fun _ h9 => h9) rfl d_ZA_count_57 ?_
    refine zk_i (va_runV (As := []) (rest := []) ⟨hx, hb, hml, hown, hts⟩ (t_Zo_recordCount l E G (k 1) (k 11) (k 12) (k 13) (k 14) rc hz1) (zcV 0 hts w_733 w_734 w_735 w_3 w_736 (by decide +kernel) ⟨Nat.le_of_ble_eq_true rfl, Nat.le_of_ble_eq_true rfl⟩) (zc_preV hbase hK hN hQ hG hS hz1 rfl) rfl rfl hl.1 rfl (lv_room (Nat.le_of_ble_eq_true rfl)) d_ZA_count_60 ⟨(by decide), (by decide)⟩) hS (fun r60 G60 H locs hp60 hG hS => ?_)
    have hG : zP E G H := hp60.2 ▸ hG
    refine zi_as (y := rc) hp60.1 ?_
    exact hret _ _ _ _ _ _ _ _ _ hr (rfl) (⟨Or.inr (Or.inl ⟨s1_1, hrc⟩), rfl⟩) hG hS (Nat.le_refl _) (Nat.le_refl _) d_ZA_count_63
  by_cases s1_2 : w = 2
  · refine lv_tableIn (off := 63) (tgt := 64) hx hb d_ZA_count_1 (by rw [s1_2]; decide) (by rw [s1_2]; decide) (by rw [s1_2]; rfl) (by decide) ?_
    refine lv_aload_n hx hb d_ZA_count_64 rfl (lv_at hl 0 rfl) ?_
    refine zg_get (ci := 10) (C := "ZoneAnswers") (T := T_ZA) (N := 3) hx hb hts zi_ZA hown hK hG hO1 rfl 1 (by decide) (hts _ w_704) (fun _ h9 => h9) rfl d_ZA_count_65 ?_
    refine zk_i (va_runV (As := []) (rest := []) ⟨hx, hb, hml, hown, hts⟩ (t_Zo_setCount l E G (k 1) (k 11) (k 12) (k 13) (k 14) rc hz1 ro (k 15) os hz3 hne hol (fun i hi => Nat.le_trans (zsc_mono hi) hsm)) (zcV 0 hts w_737 w_738 w_739 w_3 w_740 (by decide +kernel) ⟨Nat.le_of_ble_eq_true rfl, Nat.le_of_ble_eq_true rfl⟩) (zc_preV hbase hK hN hQ hG hS hz1 rfl) rfl rfl hl.1 rfl (lv_room (Nat.le_of_ble_eq_true rfl)) d_ZA_count_68 ⟨(by decide), (by decide)⟩) hS (fun r68 G68 H locs hp68 hG hS => ?_)
    have hG : zP E G H := hp68.2 ▸ hG
    refine zi_as (y := nI (zsc os os.length)) hp68.1 ?_
    exact hret _ _ _ _ _ _ _ _ _ hr (rfl) (⟨Or.inr (Or.inr (Or.inl ⟨s1_2, _, cnt_2 hGZ, rfl⟩)), rfl⟩) hG hS (Nat.le_refl _) (Nat.le_refl _) d_ZA_count_71
  by_cases s1_3 : w = 3
  · refine lv_tableIn (off := 71) (tgt := 72) hx hb d_ZA_count_1 (by rw [s1_3]; decide) (by rw [s1_3]; decide) (by rw [s1_3]; rfl) (by decide) ?_
    refine lv_aload_n hx hb d_ZA_count_72 rfl (lv_at hl 0 rfl) ?_
    refine zg_get (ci := 10) (C := "ZoneAnswers") (T := T_ZA) (N := 3) hx hb hts zi_ZA hown hK hG hO1 rfl 1 (by decide) (hts _ w_704) (fun _ h9 => h9) rfl d_ZA_count_73 ?_
    refine zk_i (va_runV (As := []) (rest := []) ⟨hx, hb, hml, hown, hts⟩ (t_Zo_ownerCount l E G (k 1) (k 11) (k 12) (k 13) (k 14) rc hz1 (.ref (k 15)) (nI os.length) kq9 hla9) (zcV 0 hts w_741 w_742 w_743 w_3 w_744 (by decide +kernel) ⟨Nat.le_of_ble_eq_true rfl, Nat.le_of_ble_eq_true rfl⟩) (zc_preV hbase hK hN hQ hG hS hz1 rfl) rfl rfl hl.1 rfl (lv_room (Nat.le_of_ble_eq_true rfl)) d_ZA_count_76 ⟨(by decide), (by decide)⟩) hS (fun r76 G76 H locs hp76 hG hS => ?_)
    have hG : zP E G H := hp76.2 ▸ hG
    refine zi_as (y := nI os.length) hp76.1 ?_
    exact hret _ _ _ _ _ _ _ _ _ hr (rfl) (⟨Or.inr (Or.inr (Or.inr (Or.inl ⟨s1_3, _, cnt_3 hGZ, rfl⟩))), rfl⟩) hG hS (Nat.le_refl _) (Nat.le_refl _) d_ZA_count_79
  by_cases s1_4 : w = 4
  · refine lv_tableIn (off := 79) (tgt := 80) hx hb d_ZA_count_1 (by rw [s1_4]; decide) (by rw [s1_4]; decide) (by rw [s1_4]; rfl) (by decide) ?_
    refine lv_aload_n hx hb d_ZA_count_80 rfl (lv_at hl 0 rfl) ?_
    refine zg_get (ci := 10) (C := "ZoneAnswers") (T := T_ZA) (N := 3) hx hb hts zi_ZA hown hK hG hO1 rfl 1 (by decide) (hts _ w_704) (fun _ h9 => h9) rfl d_ZA_count_81 ?_
    refine zk_i (va_runV (As := []) (rest := []) ⟨hx, hb, hml, hown, hts⟩ (t_Zo_thereCount l E G (k 1) (k 11) (k 12) (k 13) (k 14) rc hz1 ro (k 15) os hz3 hne hol (fun i hi => Nat.le_trans (zth_mono hi) htm)) (zcV 0 hts w_745 w_746 w_747 w_3 w_748 (by decide +kernel) ⟨Nat.le_of_ble_eq_true rfl, Nat.le_of_ble_eq_true rfl⟩) (zc_preV hbase hK hN hQ hG hS hz1 rfl) rfl rfl hl.1 rfl (lv_room (Nat.le_of_ble_eq_true rfl)) d_ZA_count_84 ⟨(by decide), (by decide)⟩) hS (fun r84 G84 H locs hp84 hG hS => ?_)
    have hG : zP E G H := hp84.2 ▸ hG
    refine zi_as (y := nI (zth os os.length)) hp84.1 ?_
    exact hret _ _ _ _ _ _ _ _ _ hr (rfl) (⟨Or.inr (Or.inr (Or.inr (Or.inr (Or.inl ⟨s1_4, _, cnt_4 hGZ, rfl⟩)))), rfl⟩) hG hS (Nat.le_refl _) (Nat.le_refl _) d_ZA_count_87
  by_cases s1_5 : w = 5
  · refine lv_tableIn (off := 87) (tgt := 88) hx hb d_ZA_count_1 (by rw [s1_5]; decide) (by rw [s1_5]; decide) (by rw [s1_5]; rfl) (by decide) ?_
    refine lv_aload_n hx hb d_ZA_count_88 rfl (lv_at hl 0 rfl) ?_
    refine zg_get (ci := 10) (C := "ZoneAnswers") (T := T_ZA) (N := 3) hx hb hts zi_ZA hown hK hG hO1 rfl 1 (by decide) (hts _ w_704) (fun _ h9 => h9) rfl d_ZA_count_89 ?_
    refine zk_i (va_runV (As := []) (rest := []) ⟨hx, hb, hml, hown, hts⟩ (t_Zo_chainCount l E G (k 1) (k 11) (k 12) (k 13) (k 14) rc hz1 ro (k 15) os hz3 hne hol) (zcV 0 hts w_753 w_754 w_755 w_3 w_756 (by decide +kernel) ⟨Nat.le_of_ble_eq_true rfl, Nat.le_of_ble_eq_true rfl⟩) (zc_preV hbase hK hN hQ hG hS hz1 rfl) rfl rfl hl.1 rfl (lv_room (Nat.le_of_ble_eq_true rfl)) d_ZA_count_92 ⟨(by decide), (by decide)⟩) hS (fun r92 G92 H locs hp92 hG hS => ?_)
    have hG : zP E G H := hp92.2 ▸ hG
    refine zi_as (y := nI (zcc os os.length)) hp92.1 ?_
    exact hret _ _ _ _ _ _ _ _ _ hr (rfl) (⟨Or.inr (Or.inr (Or.inr (Or.inr (Or.inr (Or.inl ⟨s1_5, _, cnt_5 hGZ, rfl⟩))))), rfl⟩) hG hS (Nat.le_refl _) (Nat.le_refl _) d_ZA_count_95
  by_cases s1_6 : w = 6
  · refine lv_tableIn (off := 95) (tgt := 96) hx hb d_ZA_count_1 (by rw [s1_6]; decide) (by rw [s1_6]; decide) (by rw [s1_6]; rfl) (by decide) ?_
    refine lv_aload_n hx hb d_ZA_count_96 rfl (lv_at hl 0 rfl) ?_
    refine zg_get (ci := 10) (C := "ZoneAnswers") (T := T_ZA) (N := 3) hx hb hts zi_ZA hown hK hG hO1 rfl 1 (by decide) (hts _ w_704) (fun _ h9 => h9) rfl d_ZA_count_97 ?_
    refine zk_i (va_runV (As := []) (rest := []) ⟨hx, hb, hml, hown, hts⟩ (t_Zo_cutCount l E G (k 1) (k 11) (k 12) (k 13) (k 14) rc hz1 ro (k 15) os hz3 hne hol (fun o ho => by obtain ⟨i, hi, rfl⟩ := oe_ix ho; exact (hGZ.1.2 i hi).2.1)) (zcV 0 hts w_761 w_762 w_763 w_3 w_764 (by decide +kernel) ⟨Nat.le_of_ble_eq_true rfl, Nat.le_of_ble_eq_true rfl⟩) (zc_preV hbase hK hN hQ hG hS hz1 rfl) rfl rfl hl.1 rfl (lv_room (Nat.le_of_ble_eq_true rfl)) d_ZA_count_100 ⟨(by decide), (by decide)⟩) hS (fun r100 G100 H locs hp100 hG hS => ?_)
    have hG : zP E G H := hp100.2 ▸ hG
    refine zi_as (y := nI (zcu os 2 os.length)) hp100.1 ?_
    exact hret _ _ _ _ _ _ _ _ _ hr (rfl) (⟨Or.inr (Or.inr (Or.inr (Or.inr (Or.inr (Or.inr (Or.inl ⟨s1_6, _, cnt_6 hGZ, rfl⟩)))))), rfl⟩) hG hS (Nat.le_refl _) (Nat.le_refl _) d_ZA_count_103
  by_cases s1_7 : w = 7
  · refine lv_tableIn (off := 103) (tgt := 104) hx hb d_ZA_count_1 (by rw [s1_7]; decide) (by rw [s1_7]; decide) (by rw [s1_7]; rfl) (by decide) ?_
    refine lv_aload_n hx hb d_ZA_count_104 rfl (lv_at hl 0 rfl) ?_
    refine zg_get (ci := 10) (C := "ZoneAnswers") (T := T_ZA) (N := 3) hx hb hts zi_ZA hown hK hG hO1 rfl 1 (by decide) (hts _ w_704) (fun _ h9 => h9) rfl d_ZA_count_105 ?_
    refine zk_i (va_runV (As := []) (rest := []) ⟨hx, hb, hml, hown, hts⟩ (t_Zo_serialNumber l E G (k 1) (k 11) (k 12) (k 13) rc (k 14) soa.length fs9 hfs1 hfs3 (by omega) hz1 hz9) (zcV 0 hts w_717 w_718 w_719 w_3 w_720 (by decide +kernel) ⟨Nat.le_of_ble_eq_true rfl, Nat.le_of_ble_eq_true rfl⟩) (zc_preV hbase hK hN hQ hG hS hz1 rfl) rfl rfl hl.1 rfl (lv_room (Nat.le_of_ble_eq_true rfl)) d_ZA_count_108 ⟨(by decide), (by decide)⟩) hS (fun r108 G108 H locs hp108 hG hS => ?_)
    have hG : zP E G H := hp108.2 ▸ hG
    refine zi_as (y := zr4 fs9 (soa.length - 20)) hp108.1 ?_
    exact hret _ _ _ _ _ _ _ _ _ hr (rfl) (⟨Or.inr (Or.inr (Or.inr (Or.inr (Or.inr (Or.inr (Or.inr (Or.inl ⟨s1_7, hser⟩))))))), rfl⟩) hG hS (Nat.le_refl _) (Nat.le_refl _) d_ZA_count_111
  refine lv_tableOut (tgt := 112) hx hb d_ZA_count_1 (by have ns1_0 := lv_neT (k := 0) (a := 0) s1_0 (by decide); have ns1_1 := lv_neT (k := 1) (a := 1) s1_1 (by decide); have ns1_2 := lv_neT (k := 2) (a := 2) s1_2 (by decide); have ns1_3 := lv_neT (k := 3) (a := 3) s1_3 (by decide); have ns1_4 := lv_neT (k := 4) (a := 4) s1_4 (by decide); have ns1_5 := lv_neT (k := 5) (a := 5) s1_5 (by decide); have ns1_6 := lv_neT (k := 6) (a := 6) s1_6 (by decide); have ns1_7 := lv_neT (k := 7) (a := 7) s1_7 (by decide); omega) (by decide) ?_
  refine lv_iconst (v := -1) hx hb d_ZA_count_112 (by decide) ?_
  exact hret _ _ _ _ _ _ _ _ _ hr (rfl) (⟨Or.inr (Or.inr (Or.inr (Or.inr (Or.inr (Or.inr (Or.inr (Or.inr (⟨s1_0, s1_1, s1_2, s1_3, s1_4, s1_5, s1_6, s1_7, rfl⟩)))))))), rfl⟩) hG hS (Nat.le_refl _) (Nat.le_refl _) d_ZA_count_113
