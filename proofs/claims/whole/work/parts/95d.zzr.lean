theorem zr4_cg {f g : Nat → Int32} {q : Nat} (h : ∀ j, q ≤ j → j < q + 4 → f j = g j) : zr4 f q = zr4 g q := by
  unfold zr4
  rw [h q (by omega) (by omega), h (q + 1) (by omega) (by omega), h (q + 2) (by omega) (by omega), h (q + 3) (by omega) (by omega)]
def zscu (se : Int32) : Bool := decide (¬ se = 0)
theorem zscu_y {se : Int32} (h : ¬ se = 0) : zscu se = true := decide_eq_true h
theorem zscu_n {se : Int32} (h : se = 0) : ¬ zscu se = true := by unfold zscu; rw [decide_eq_false (fun q => q h)]; decide
theorem tV_of {ts : List zTt} {xs : List zDt} {x : np_N} {t u : Int32} (h : ts.map tR = xs.map (fun d => (x, t, u, d.2))) : ts.map tV = xs.map (fun d => (x, t, u, d.2.1)) := by
  have e : ∀ ys : List zTt, ys.map tV = (ys.map tR).map (fun w => (w.1, w.2.1, w.2.2.1, w.2.2.2.1)) := fun ys => by rw [List.map_map]; rfl
  rw [e, h, List.map_map]; rfl
theorem zdt_of {ts : List zTt} {xs : List zDt} {x : np_N} {t u : Int32} (h : ts.map tR = xs.map (fun d => (x, t, u, d.2))) (hd : ∀ d ∈ xs, zdt t d) : ∀ y ∈ ts, zdt (tT y) (tB y) := by
  intro y hy
  have hm : tR y ∈ xs.map (fun d => (x, t, u, d.2)) := by rw [← h]; exact List.mem_map.mpr ⟨y, hy, rfl⟩
  obtain ⟨d, h1, h2⟩ := List.mem_map.mp hm
  have e1 : t = tT y := congrArg (fun w : aW => w.2.1) h2
  have e2 : d.2 = (tB y).2 := congrArg (fun w : aW => w.2.2.2) h2
  have q := hd d h1
  unfold zdt at q ⊢
  rw [← e1, ← e2]; exact q
theorem zWt_1 (t1 t2 t3 ts : List zTt) : zWt (t1 ++ ts) t2 t3 = w1 (zWt t1 t2 t3) (ts.map tV) := by unfold zWt w1; rw [List.map_append]
theorem zWt_2 (t1 t2 t3 ts : List zTt) : zWt t1 (t2 ++ ts) t3 = w2 (zWt t1 t2 t3) (ts.map tV) := by unfold zWt w2; rw [List.map_append]
theorem zWt_3 (t1 t2 t3 ts : List zTt) : zWt t1 t2 (t3 ++ ts) = w3 (zWt t1 t2 t3) (ts.map tV) := by unfold zWt w3; rw [List.map_append]
theorem zWt_l (t1 t2 t3 : List zTt) : (zWt t1 t2 t3).1.length = t1.length ∧ (zWt t1 t2 t3).2.1.length = t2.length ∧ (zWt t1 t2 t3).2.2.length = t3.length := ⟨List.length_map _, List.length_map _, List.length_map _⟩
theorem aHas_t {ts : List zTt} {x : np_N} {t : Int32} : (∃ e ∈ ts, tT e = t ∧ tM e = x) ↔ aHas (ts.map tV) x t := by
  constructor
  · rintro ⟨e, h1, h2, h3⟩
    exact ⟨tV e, List.mem_map.mpr ⟨e, h1, rfl⟩, h2, h3⟩
  · rintro ⟨w, h1, h2, h3⟩
    obtain ⟨e, h4, rfl⟩ := List.mem_map.mp h1
    exact ⟨e, h4, h2, h3⟩
/-- the start's set -/
theorem zZn.start {E : zc_E} {G : zg_G} {ro : zRo} {k : Nat → Nat} {rc u : Int32} {os : List zOt} {top : np_N} {soa : List Int32} (hgo : zgo os) (hsa : zsa os top 6 (k 13)) (hV : zV os top 6 = [(u, soa)]) : ∃ i si, i < os.length ∧ oM (oe os i) = top ∧ si < (oX (oe os i)).length ∧ sT (oS (oe os i) si) = 6 ∧ sA (oS (oe os i) si) = k 13 ∧ sU (oS (oe os i) si) = u ∧ (sX (oS (oe os i) si)).map (fun d => d.2.1) = [soa] := by
  obtain ⟨i, si, h1, h2, h3, h4, h5⟩ := zsa_ix hsa
  have e := zV_s hgo h1 h3
  rw [h2, h4, hV] at e
  have e1 := congrArg (List.map Prod.fst) e
  have e2 := congrArg (List.map Prod.snd) e
  rw [List.map_map] at e1 e2
  refine ⟨i, si, h1, h2, h3, h4, h5, ?_, e2.symm⟩
  cases hz : sX (oS (oe os i) si) with
  | nil => rw [hz] at e; cases e
  | cons y ys =>
    rw [hz, List.map_cons] at e1
    exact ((List.cons.inj e1).1).symm
theorem w_1021 : (.methodLink "ZoneAnswers$Answer" 39 ⟨"ZoneAnswers$Zone", "top", "()LZoneAnswers$Name;"⟩ : Cond) ∈ zw := zw_at 1021 (by decide +kernel) (by decide +kernel)
theorem w_1033 : (.methodLink "ZoneAnswers$Answer" 99 ⟨"ZoneAnswers$Section", "addSet", "(LZoneAnswers$Name;LZoneAnswers$Rrset;I)V"⟩ : Cond) ∈ zw := zw_at 1033 (by decide +kernel) (by decide +kernel)
theorem w_1034 : (.instanceMethod ⟨"ZoneAnswers$Section", "addSet", "(LZoneAnswers$Name;LZoneAnswers$Rrset;I)V"⟩ : Cond) ∈ zw := zw_at 1034 (by decide +kernel) (by decide +kernel)
theorem w_1035 : (.selects "ZoneAnswers$Section" ⟨"ZoneAnswers$Section", "addSet", "(LZoneAnswers$Name;LZoneAnswers$Rrset;I)V"⟩ ⟨"ZoneAnswers$Section", "addSet", "(LZoneAnswers$Name;LZoneAnswers$Rrset;I)V"⟩ : Cond) ∈ zw := zw_at 1035 (by decide +kernel) (by decide +kernel)
theorem w_1036 : (.code ⟨"ZoneAnswers$Section", "addSet", "(LZoneAnswers$Name;LZoneAnswers$Rrset;I)V"⟩ prog_7_method_6_code 5 none : Cond) ∈ zw := zw_at 1036 (by decide +kernel) (by decide +kernel)
theorem w_1092 : (.methodLink "ZoneAnswers$Answer" 150 ⟨"ZoneAnswers$Zone", "linkTime", "()I"⟩ : Cond) ∈ zw := zw_at 1092 (by decide +kernel) (by decide +kernel)
theorem w_1093 : (.instanceMethod ⟨"ZoneAnswers$Zone", "linkTime", "()I"⟩ : Cond) ∈ zw := zw_at 1093 (by decide +kernel) (by decide +kernel)
theorem w_1094 : (.selects "ZoneAnswers$Zone" ⟨"ZoneAnswers$Zone", "linkTime", "()I"⟩ ⟨"ZoneAnswers$Zone", "linkTime", "()I"⟩ : Cond) ∈ zw := zw_at 1094 (by decide +kernel) (by decide +kernel)
theorem w_1095 : (.code ⟨"ZoneAnswers$Zone", "linkTime", "()I"⟩ prog_10_method_22_code 2 (some .int) : Cond) ∈ zw := zw_at 1095 (by decide +kernel) (by decide +kernel)
theorem w_1165 : (.methodLink "ZoneAnswers$Answer" 146 ⟨"ZoneAnswers$Zone", "start", "()LZoneAnswers$Rrset;"⟩ : Cond) ∈ zw := zw_at 1165 (by decide +kernel) (by decide +kernel)
theorem w_1166 : (.instanceMethod ⟨"ZoneAnswers$Zone", "start", "()LZoneAnswers$Rrset;"⟩ : Cond) ∈ zw := zw_at 1166 (by decide +kernel) (by decide +kernel)
theorem w_1167 : (.selects "ZoneAnswers$Zone" ⟨"ZoneAnswers$Zone", "start", "()LZoneAnswers$Rrset;"⟩ ⟨"ZoneAnswers$Zone", "start", "()LZoneAnswers$Rrset;"⟩ : Cond) ∈ zw := zw_at 1167 (by decide +kernel) (by decide +kernel)
theorem w_1168 : (.code ⟨"ZoneAnswers$Zone", "start", "()LZoneAnswers$Rrset;"⟩ prog_10_method_4_code 1 (some (.object "ZoneAnswers$Rrset")) : Cond) ∈ zw := zw_at 1168 (by decide +kernel) (by decide +kernel)
abbrev c_An_addStart : ByteArray := prog_2_method_8_code
abbrev y_An_addStart : MethodName := ⟨"ZoneAnswers$Answer", "addStart", "()V"⟩
theorem d_An_addStart_0 : decode c_An_addStart 0 = .ok (.aload_n 0, 1) := by decide +kernel
theorem d_An_addStart_1 : decode c_An_addStart 1 = .ok (.getfield 22, 3) := by decide +kernel
theorem d_An_addStart_4 : decode c_An_addStart 4 = .ok (.aload_n 0, 1) := by decide +kernel
theorem d_An_addStart_5 : decode c_An_addStart 5 = .ok (.getfield 9, 3) := by decide +kernel
theorem d_An_addStart_8 : decode c_An_addStart 8 = .ok (.invokevirtual 39, 3) := by decide +kernel
theorem d_An_addStart_11 : decode c_An_addStart 11 = .ok (.aload_n 0, 1) := by decide +kernel
theorem d_An_addStart_12 : decode c_An_addStart 12 = .ok (.getfield 9, 3) := by decide +kernel
theorem d_An_addStart_15 : decode c_An_addStart 15 = .ok (.invokevirtual 146, 3) := by decide +kernel
theorem d_An_addStart_18 : decode c_An_addStart 18 = .ok (.aload_n 0, 1) := by decide +kernel
theorem d_An_addStart_19 : decode c_An_addStart 19 = .ok (.getfield 9, 3) := by decide +kernel
theorem d_An_addStart_22 : decode c_An_addStart 22 = .ok (.invokevirtual 150, 3) := by decide +kernel
theorem d_An_addStart_25 : decode c_An_addStart 25 = .ok (.invokevirtual 99, 3) := by decide +kernel
theorem d_An_addStart_28 : decode c_An_addStart 28 = .ok (.return_, 1) := by decide +kernel
abbrev rm_Se_add_x (C B : Nat) : Room := { frames := 7, cells := C, slots := B, locals := 230 }
set_option maxHeartbeats 4000000 in
set_option maxRecDepth 100000 in
/-- Section.add(row), to the cell -/
theorem t_Se_add_x (l : Launch) (E : zc_E) (G : zg_G) (a la dd y : Nat) (xs : List Nat) (ha : G a = some (.inr (6, [.ref la]))) (hL : zL E G la dd xs) (hy : zel G y) (hn : xs.length < 2000) (C B : Nat) (hB : zcG G dd ≤ xs.length → 1 ≤ C ∧ zgr (zcG G dd) ≤ B) (hel : ∀ z ∈ xs, zel G z) : zMv l E y_Se_add c_Se_add 2 (rm_Se_add_x C B) [.ref a, .ref y] G (fun (G2 : zg_G) => ∃ dd2, zL E G2 la dd2 (xs ++ [y]) ∧ (dd2 = dd ∨ G dd2 = none) ∧ zx (fun q => q = la ∨ q = dd) G G2 ∧ zcG G2 dd2 = (if xs.length < zcG G dd then zcG G dd else zgr (zcG G dd))) := by
  refine zMv.of (by decide) (Nat.le_of_ble_eq_true rfl) ?_
  intro p e s m args below meth c Q hZ hG hret ls hl
  obtain ⟨hx, hb, hr, hts, hown, hlocks, hml, hnm, hbase, hK, hN, hQ⟩ := hZ
  have hl : lv_has ls 2 [(0, .ref a), (1, .ref y)] := hl
  have hS : zg_S (zc_b E) s.heap s.heap [] := va_S.rf
  refine lv_aload_n hx hb d_Se_add_0 rfl (lv_at hl 0 rfl) ?_
  refine zg_get (ci := 6) (C := "ZoneAnswers$Section") (T := T_Se) (N := 1) hx hb hts zi_Se hown hK hG ha rfl 0 (by decide) (hts _ w_680) (fun _ h9 => h9) rfl d_Se_add_1 ?_
  refine lv_aload_n hx hb d_Se_add_4 rfl (lv_at hl 1 rfl) ?_
  have hGo5 := hG
  refine zk_i (va_runV (As := [.ref y]) (rest := []) ⟨hx, hb, hml, hown, hts⟩ (t_AL_add_2_x l E G la dd xs hL y hy hn C B hB hel) (zcV 1 hts w_1067 w_638 w_639 w_6 w_640 (by decide +kernel) ⟨Nat.le_of_ble_eq_true rfl, Nat.le_of_ble_eq_true rfl⟩) (zc_preV hbase hK hN hQ hG hS hL.1.choose_spec rfl) rfl rfl hl.1 rfl (lv_room (Nat.le_of_ble_eq_true rfl)) d_Se_add_5 ⟨(by clear hB; dsimp only; omega), (by clear hB; dsimp only; omega)⟩) hS (fun r5 G5 H locs hp5 hG hS => ?_)
  refine lv_pop hx hb d_Se_add_8 rfl ?_
  exact hret _ _ _ _ _ _ _ (hp5.2) hG hS (by clear hB; dsimp only; omega) (by clear hB; dsimp only; omega) d_Se_add_9
abbrev rm_An_addStart (c9 s9 : Nat) : Room := { frames := 10, cells := c9, slots := s9, locals := 330 }
set_option maxHeartbeats 4000000 in
set_option maxRecDepth 100000 in
/-- Answer.addStart() -/
theorem t_An_addStart (l : Launch) (E : zc_E) (G : zg_G) (k : Nat → Nat) (ro : zRo) (rc ty se : Int32) (os : List zOt) (top : np_N) (d1 d2 d3 : Nat) (t1 t2 t3 : List zTt) (hCx : zCx E G ro k rc ty se os top d1 d2 d3 t1 t2 t3) (hGZ : zGZ os top) (hdw : zdw os) (hzn : znr os < 2000) (hB9 : zB9 (vst (zV os) top (zWt t1 t2 t3))) : zMv l E y_An_addStart c_An_addStart 1 (rm_An_addStart (zPc (vst (zV os) top (zWt t1 t2 t3)) - zPc (zWt t1 t2 t3)) (zPh os k (vst (zV os) top (zWt t1 t2 t3)) - zPh os k (zWt t1 t2 t3))) [.ref (k 0)] G (fun (G2 : zg_G) => ∃ ro2 e1 e2 e3 u1 u2 u3, zCx E G2 ro2 k rc ty se os top e1 e2 e3 u1 u2 u3 ∧ zfr ro zKa G ro2 G2 ∧ zWt u1 u2 u3 = vst (zV os) top (zWt t1 t2 t3)) := by
  refine zMv.of (by decide) (Nat.le_of_ble_eq_true rfl) ?_
  intro p e s m args below meth c Q hZ hG hret ls hl
  obtain ⟨hx, hb, hr, hts, hown, hlocks, hml, hnm, hbase, hK, hN, hQ⟩ := hZ
  have hl : lv_has ls 1 [(0, .ref (k 0))] := hl
  have hS : zg_S (zc_b E) s.heap s.heap [] := va_S.rf
  obtain ⟨⟨hz1, hz2, hz3, hz4, hz5, soa, u9, hz6, hz7, hz8, hz9, hzA⟩, ⟨ha1, ha2, hs1, hs2, hs3⟩, hT1⟩ := id hCx
  obtain ⟨bo, fo, hno1, hno2, hno3, hno4, hno5, -⟩ := id hz4
  have hne : 0 < os.length := hGZ.2.2.1
  have hsz := hGZ.1.sz
  have hol : os.length ≤ 2000 := by have := hsz.1; omega
  have hso := hGZ.1.1
  have hE00 : G (E.2.2.2 0) = none := hQ.out hG
  have hl0 := zWt_l t1 t2 t3
  have hph := zPh_2 (os := os) (k := k) (W := zWt t1 t2 t3) (L := (zV os top 6).map (fun p => (top, 6, vlt (zV os) top, p.2))) (n := 1) (by rw [List.length_map, hz8]; rfl)
  have hpc := zPc_2 (W := zWt t1 t2 t3) (L := (zV os top 6).map (fun p => (top, 6, vlt (zV os) top, p.2))) (n := 1) (by rw [List.length_map, hz8]; rfl)
  have hlB : t2.length + 1 < 2000 := by have q := hB9.2.1; unfold vst w2 at q; dsimp only at q; rw [List.length_append, hl0.2.1, List.length_map, hz8] at q; exact q
  rw [hl0.2.1] at hph
  change _ ≤ zPh os k (vst (zV os) top (zWt t1 t2 t3)) at hph
  change _ ≤ zPc (vst (zV os) top (zWt t1 t2 t3)) at hpc
  refine lv_aload_n hx hb d_An_addStart_0 rfl (lv_at hl 0 rfl) ?_
  refine zg_get (ci := 1) (C := "ZoneAnswers$Answer") (T := T_An) (N := 6) hx hb hts zi_An hown hK hG ha1 rfl 2 (by decide) (hts _ w_686) (fun _ h9 => h9) rfl d_An_addStart_1 ?_
  refine lv_aload_n hx hb d_An_addStart_4 rfl (lv_at hl 0 rfl) ?_
  refine zg_get (ci := 1) (C := "ZoneAnswers$Answer") (T := T_An) (N := 6) hx hb hts zi_An hown hK hG ha1 rfl 0 (by decide) (hts _ w_684) (fun _ h9 => h9) rfl d_An_addStart_5 ?_
  refine zk_q (va_runV (As := []) (rest := [.ref (k 3)]) ⟨hx, hb, hml, hown, hts⟩ (t_Zo_top l E G (k 1) (k 11) (k 12) (k 13) (k 14) rc hz1) (zcV 0 hts w_1021 w_875 w_876 w_3 w_877 (by decide +kernel) ⟨Nat.le_of_ble_eq_true rfl, Nat.le_of_ble_eq_true rfl⟩) (zc_preV hbase hK hN hQ hG hS hz1 rfl) rfl rfl hl.1 rfl (lv_room (Nat.le_of_ble_eq_true rfl)) d_An_addStart_8 ⟨(by dsimp only; omega), (by dsimp only; omega)⟩) hS (fun r8 G8 H locs hp8 hG hS => ?_)
  have hG : zP E G H := hp8.2 ▸ hG
  refine zr_some (a := k 12) hp8.1 ?_
  refine lv_aload_n hx hb d_An_addStart_11 rfl (lv_at hl 0 rfl) ?_
  refine zg_get (ci := 1) (C := "ZoneAnswers$Answer") (T := T_An) (N := 6) hx hb hts zi_An hown hK hG ha1 rfl 0 (by decide) (hts _ w_684) (fun _ h9 => h9) rfl d_An_addStart_12 ?_
  refine zk_q (va_runV (As := []) (rest := [.ref (k 12), .ref (k 3)]) ⟨hx, hb, hml, hown, hts⟩ (t_Zo_start l E G (k 1) (k 11) (k 12) (k 13) (k 14) rc hz1) (zcV 0 hts w_1165 w_1166 w_1167 w_3 w_1168 (by decide +kernel) ⟨Nat.le_of_ble_eq_true rfl, Nat.le_of_ble_eq_true rfl⟩) (zc_preV hbase hK hN hQ hG hS hz1 rfl) rfl rfl hl.1 rfl (lv_room (Nat.le_of_ble_eq_true rfl)) d_An_addStart_15 ⟨(by dsimp only; omega), (by dsimp only; omega)⟩) hS (fun r15 G15 H locs hp15 hG hS => ?_)
  have hG : zP E G H := hp15.2 ▸ hG
  refine zr_some (a := k 13) hp15.1 ?_
  refine lv_aload_n hx hb d_An_addStart_18 rfl (lv_at hl 0 rfl) ?_
  refine zg_get (ci := 1) (C := "ZoneAnswers$Answer") (T := T_An) (N := 6) hx hb hts zi_An hown hK hG ha1 rfl 0 (by decide) (hts _ w_684) (fun _ h9 => h9) rfl d_An_addStart_19 ?_
  obtain ⟨i9, si9, hi9, hM9, hs9, hT9, hA9, hU9, hX9⟩ := zZn.start (E := E) (G := G) (ro := ro) (rc := rc) hGZ.1 hz5 hz8
  have hst := ((hz3.2 _ (oe_mem hi9)).2.2.2.2 _ (oS_mem hs9)).1
  rw [hA9, hT9] at hst
  obtain ⟨fs, hfs1, hfs2, hfs3⟩ := id hz6
  have hlt : (if zr4 fs (soa.length - 4) < 0 then sU (oS (oe os i9) si9) else if zr4 fs (soa.length - 4) < sU (oS (oe os i9) si9) then zr4 fs (soa.length - 4) else sU (oS (oe os i9) si9)) = vlt (zV os) top := by
    rw [zr4_cg (g := fun j => soa.getD j 0) (fun j h1 h2 => hfs2 j (by omega)), hU9]
    unfold vlt; rw [hz8]; rfl
  have hGo22 := hG
  refine zk_i (va_runV (As := []) (rest := [.ref (k 13), .ref (k 12), .ref (k 3)]) ⟨hx, hb, hml, hown, hts⟩ (t_Zo_linkTime l E G (k 1) (k 11) (k 13) (.ref (k 12)) rc 6 (sU (oS (oe os i9) si9)) (.ref (sL (oS (oe os i9) si9))) (k 14) soa.length fs hfs1 hfs3 (by omega) hz1 hst hz9) (zcV 0 hts w_1092 w_1093 w_1094 w_3 w_1095 (by decide +kernel) ⟨Nat.le_of_ble_eq_true rfl, Nat.le_of_ble_eq_true rfl⟩) (zc_preV hbase hK hN hQ hG hS hz1 rfl) rfl rfl hl.1 rfl (lv_room (Nat.le_of_ble_eq_true rfl)) d_An_addStart_22 ⟨(by dsimp only; omega), (by dsimp only; omega)⟩) hS (fun r22 G22 H locs hp22 hG hS => ?_)
  have hG : zP E G H := hp22.2 ▸ hG
  refine zi_as (y := vlt (zV os) top) (hp22.1.trans hlt) ?_
  have hl19 : (sX (oS (oe os i9) si9)).length = 1 := by have q := congrArg List.length hX9; rw [List.length_map] at q; exact q
  have hsr9 := (hz3.2 _ (oe_mem hi9)).2.2.2.2 _ (oS_mem hs9)
  have had9 := t_Se_addSet l E G (k 3) (k 6) d2 2 (k 9) ro t2 hs2 (k 12) top hz4 (oA (oe os i9)) (oS (oe os i9) si9) hsr9 (vlt (zV os) top) (by omega)
  rw [hA9, hl19] at had9
  have hGo25 := hG
  refine zk_v (va_runV (As := [.ref (k 12), .ref (k 13), .int (vlt (zV os) top)]) (rest := []) ⟨hx, hb, hml, hown, hts⟩ (had9) (zcV 3 hts w_1033 w_1034 w_1035 w_29 w_1036 (by decide +kernel) ⟨Nat.le_of_ble_eq_true rfl, Nat.le_of_ble_eq_true rfl⟩) (zc_preV hbase hK hN hQ hG hS hs2.1.1 rfl) rfl rfl hl.1 rfl (lv_room (Nat.le_of_ble_eq_true rfl)) d_An_addStart_25 ⟨(by dsimp only; omega), (by dsimp only; omega)⟩) hS (fun G25 H locs hp25 hG hS => ?_)
  obtain ⟨ro_25, dd_25, ts_25, hES_25, hf0_25, hR0_25⟩ := hp25
  have hE_25q : G25 (E.2.2.2 0) = none := hQ.out hG
  have hC_25 := hCx.s2 (hQ.out hGo25) hE_25q hf0_25 hES_25
  have hf_25 : zfr ro zKa G ro_25 G25 := (zfr.rf (r := ro) (G := G)).tr (hf0_25.w zKs_a)
  have hR_25 := tV_of hR0_25
  have hW_25 : zWt t1 (t2 ++ ts_25) t3 = vst (zV os) top (zWt t1 t2 t3) := by rw [zWt_2, hR_25]; unfold vst; congr 1; rw [hz8, hT9]; have q9 := congrArg (List.map (fun b => (top, (6 : Int32), vlt (zV os) top, b))) hX9; rw [List.map_map] at q9; exact q9
  have hE_25 : G25 (E.2.2.2 0) = none := hQ.out hG
  obtain ⟨⟨hz1_25, hz2_25, hz3_25, hz4_25, hz5_25, soa_25, u9_25, hz6_25, hz7_25, hz8_25, hz9_25, hzA_25⟩, ⟨ha1_25, ha2_25, hs1_25, hs2_25, hs3_25⟩, hT1_25⟩ := id hC_25
  obtain ⟨bo_25, fo_25, hno1_25, hno2_25, hno3_25, hno4_25, hno5_25, -⟩ := id hz4_25
  have hl_25 := zWt_l t1 (t2 ++ ts_25) t3
  exact hret _ _ _ _ _ _ _ (⟨ro_25, d1, dd_25, d3, t1, (t2 ++ ts_25), t3, hC_25, hf_25, hW_25⟩) hG hS (by dsimp only; omega) (by dsimp only; omega) d_An_addStart_28
