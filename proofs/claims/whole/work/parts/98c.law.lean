theorem w_37 : (.classLink "ZoneAnswersLaw" 8 "ZoneAnswers" : Cond) ∈ zw := zw_at 37 (by decide +kernel) (by decide +kernel)
theorem w_39 : (.methodLink "ZoneAnswersLaw" 59 ⟨"ZoneAnswers", "<init>", "()V"⟩ : Cond) ∈ zw := zw_at 39 (by decide +kernel) (by decide +kernel)
theorem w_40 : (.instanceMethod ⟨"ZoneAnswers", "<init>", "()V"⟩ : Cond) ∈ zw := zw_at 40 (by decide +kernel) (by decide +kernel)
theorem w_41 : (.code ⟨"ZoneAnswers", "<init>", "()V"⟩ prog_1_method_1_code 1 none : Cond) ∈ zw := zw_at 41 (by decide +kernel) (by decide +kernel)
theorem w_1245 : (.classLink "ZoneAnswersLaw" 60 "ZoneAnswersModel" : Cond) ∈ zw := zw_at 1245 (by decide +kernel) (by decide +kernel)
theorem w_1247 : (.methodLink "ZoneAnswersLaw" 62 ⟨"ZoneAnswersModel", "<init>", "()V"⟩ : Cond) ∈ zw := zw_at 1247 (by decide +kernel) (by decide +kernel)
theorem w_1248 : (.instanceMethod ⟨"ZoneAnswersModel", "<init>", "()V"⟩ : Cond) ∈ zw := zw_at 1248 (by decide +kernel) (by decide +kernel)
theorem w_1249 : (.code ⟨"ZoneAnswersModel", "<init>", "()V"⟩ prog_12_method_1_code 2 none : Cond) ∈ zw := zw_at 1249 (by decide +kernel) (by decide +kernel)
set_option maxHeartbeats 8000000 in
set_option maxRecDepth 100000 in
/-- THE LAW, from its entry -/
theorem whole_start {p : Program} {e : Env} {s : State} {m : MethodId} {below : List Frame} {meth : Method} {c : Code} (l : Launch) (hoff : zl_off l) {sc L : Nat} {xs : Nat → Int32} (hL : L ≤ 3072) (C0 : lw_At p s m meth c sc L xs) : W p l e room_1 s m #[Value.ref sc] below meth c s.heap [] 0 0 (lw_Z below #[Value.ref sc] s) (entryFrame m ([Value.ref sc] : List Value).toArray 7) := by
  obtain ⟨E, hbE, hK, hN, hQ⟩ := zs_start C0
  obtain ⟨hx, hb, hr, hml, hown, hts0, hX, hbl, hlocks, hgv⟩ := id C0
  have hts : ∀ w ∈ zw, w.before #[Value.ref sc] s = true := fun w hw => hts0 w (List.mem_filter.mp hw).1
  have hbase : zc_b E ≤ s.heap.size := Nat.le_of_eq hbE
  have hbA : ¬ (fun q : Nat => zc_b E ≤ q) sc := by show ¬ zc_b E ≤ sc; rw [hbE]; exact Nat.not_le.mpr hbl
  have hS : zg_S (zc_b E) s.heap s.heap [] := va_S.rf
  have hret : ∀ (H : Heap) (locs : List Loc) (C S : Nat) (ls : Array Slot), zg_S (zc_b E) s.heap H locs → C ≤ 600002 → S ≤ 7200000 → W p l e room_1 s m #[Value.ref sc] below meth c H locs C S (lw_Z below #[Value.ref sc] s) (F0 m 933 ls [.int 1]) := fun H locs C S ls hS hC hSl => va_forget (fun q hq => by rw [← hbE]; exact hS.2.2 q hq) (W.widen (k := 601024) (n := 7293034) (Nat.le_trans hC (by decide)) (Nat.le_trans hSl (by decide)) (lw_ret hx hb hr hlocks d_La_law_933))
  obtain ⟨G, eG0⟩ : ∃ G : zg_G, G = fun _ => none := ⟨_, rfl⟩
  have hG : zP E G s.heap := fun a e h => by rw [eG0] at h; cases h
  have hl := lv_entry ([.ref sc]) (n := 7) (Nat.le_of_ble_eq_true rfl)
  rw [lg_entry_eq]
  generalize (lg_sl ([.ref sc]) ++ List.replicate (7 - (lg_sl ([.ref sc])).length) Slot.unset).toArray = ls at hl ⊢
  have hl : lv_has ls 7 [(0, .ref sc)] := hl
  refine zg_new (ci := 10) (fs := [.null, .null, .null]) (C := "ZoneAnswers") (T := T_ZA) (N := 3) hx hb hts zi_ZA t_ZA t_ZA_ok hown (hts _ w_37) (hts _ w_38) (hts _ w_1) hK hG hS hbase rfl (fun j hj => by rcases (show j = 0 ∨ j = 1 ∨ j = 2 by omega) with rfl | rfl | rfl <;> rfl) (by decide) (by decide) d_La_law_0 (fun q0 H n0 hG hS => ?_)
  obtain ⟨G1, eG1⟩ : ∃ z : zg_G, z = zg_up G q0 (.inr (10, [.null, .null, .null])) := ⟨_, rfl⟩
  have hG : zP E G1 H := by rw [eG1]; exact hG
  have k2 : G1 q0 = some (.inr (10, [.null, .null, .null])) := by rw [eG1]; exact zg_up_self _ _ _
  refine lv_dup hx hb d_La_law_3 rfl ?_
  have hGo4 := hG
  refine zk_v (va_runI (As := []) (rest := [.ref q0]) ⟨hx, hb, hml, hown, hts⟩ (t_ZA_init_d l E G1 q0 k2) (zcI 0 hts w_39 w_40 w_1 w_41 rfl (by decide +kernel) ⟨Nat.le_of_ble_eq_true rfl, Nat.le_of_ble_eq_true rfl⟩) (zc_pre hbase hK hN hQ hG hS) rfl rfl hl.1 rfl (lv_room (Nat.le_of_ble_eq_true rfl)) d_La_law_4 ⟨(by decide), (by decide)⟩) hS (fun G4 H locs hp4 hG hS => ?_)
  obtain ⟨ta, zo, an, b, la, x, st, sd, o, ol, da, dx, d0, d1, d3, bt, s1, s2, s3, r1, r2, r3, hx4, hF, hnr⟩ := hp4
  have hE0 : G4 (E.2.2.2 0) = none := hQ.out hG
  obtain ⟨ro0, hS0⟩ := zOS_new hF hE0 hnr
  have hA0 : zOA E G4 ro0 q0 ([], vor [] 0 rD0, [], ([], [], [])) := ⟨1, hS0⟩
  refine lv_astore_n (lv' := [(1, .ref q0), (0, .ref sc)]) hx hb d_La_law_7 rfl hl (by decide) rfl (fun ls hl => ?_)
  refine zg_new (ci := 11) (fs := [.int 0, .null, .int 0, .null, .null, .int 0, .null, .null, .null, .null, .null, .null, .null, .int 0, .int 0, .null, .int 0, .int 0, .null, .null, .null]) (C := "ZoneAnswersModel") (T := T_Mo) (N := 21) hx hb hts zi_Mo t_Mo t_Mo_ok hown (hts _ w_1245) (hts _ w_1246) (hts _ w_30) hK hG hS hbase rfl (fun j hj => by rcases (show j = 0 ∨ j = 1 ∨ j = 2 ∨ j = 3 ∨ j = 4 ∨ j = 5 ∨ j = 6 ∨ j = 7 ∨ j = 8 ∨ j = 9 ∨ j = 10 ∨ j = 11 ∨ j = 12 ∨ j = 13 ∨ j = 14 ∨ j = 15 ∨ j = 16 ∨ j = 17 ∨ j = 18 ∨ j = 19 ∨ j = 20 by omega) with rfl | rfl | rfl | rfl | rfl | rfl | rfl | rfl | rfl | rfl | rfl | rfl | rfl | rfl | rfl | rfl | rfl | rfl | rfl | rfl | rfl <;> rfl) (by decide) (by decide) d_La_law_8 (fun q8 H n8 hG hS => ?_)
  obtain ⟨G3, eG3⟩ : ∃ z : zg_G, z = zg_up G4 q8 (.inr (11, [.int 0, .null, .int 0, .null, .null, .int 0, .null, .null, .null, .null, .null, .null, .null, .int 0, .int 0, .null, .int 0, .int 0, .null, .null, .null])) := ⟨_, rfl⟩
  have hG : zP E G3 H := by rw [eG3]; exact hG
  have k4 : G3 q8 = some (.inr (11, [.int 0, .null, .int 0, .null, .null, .int 0, .null, .null, .null, .null, .null, .null, .null, .int 0, .int 0, .null, .int 0, .int 0, .null, .null, .null])) := by rw [eG3]; exact zg_up_self _ _ _
  refine lv_dup hx hb d_La_law_11 rfl ?_
  have hE1 : G3 (E.2.2.2 0) = none := hQ.out hG
  obtain ⟨ro1, er1⟩ : ∃ z : zRo, z = zrn ro0 q8 (20, 0) := ⟨_, rfl⟩
  have hf1 : zfr ro0 (fun _ => False) G4 ro1 G3 := by rw [eG3, er1]; exact zfr.z (zx.nw n8) (zro.nw n8)
  have hA1 := hA0.fr hf1 hE0 hE1 id (fun _ _ => id)
  have hra1 : ro1 q8 = (20, 0) := by rw [er1]; exact zrn_self _ _ _
  have hGo12 := hG
  refine zk_v (va_runI (As := []) (rest := [.ref q8]) ⟨hx, hb, hml, hown, hts⟩ (t_Mo_init_w l E G3 q8 k4 ro1 hra1) (zcI 0 hts w_1247 w_1248 w_30 w_1249 rfl (by decide +kernel) ⟨Nat.le_of_ble_eq_true rfl, Nat.le_of_ble_eq_true rfl⟩) (zc_pre hbase hK hN hQ hG hS) rfl rfl hl.1 rfl (lv_room (Nat.le_of_ble_eq_true rfl)) d_La_law_12 ⟨(by decide), (by decide)⟩) hS (fun G12 H locs hp12 hG hS => ?_)
  obtain ⟨ro2, rs2, hv2, hl2, hu2, hO2, hf2⟩ := hp12
  have hE2 : G12 (E.2.2.2 0) = none := hQ.out hG
  have hA2 := hA1.fr hf2 hE1 hE2 zKr_0 zKr_c
  have hO2 : rOm E G12 ro2 q8 64 512 rs2 ([], vor [] 0 rD0, [], ([], [], [])) 0 := ⟨hO2, hv2⟩
  refine lv_astore_n (lv' := [(2, .ref q8), (1, .ref q0), (0, .ref sc)]) hx hb d_La_law_15 rfl hl (by decide) rfl (fun ls hl => ?_)
  refine lv_iconst (v := 1) hx hb d_La_law_16 (by decide) ?_
  refine zg_newp (atype := .long) (ty := .long) (N' := 1) (a0 := (1, .inr (.inl (fun _ => 0)))) hx hb (hts _ w_1604) rfl hK hG hS hbase (fun _ => rfl) (by decide) (by decide) (by show _ * _ ≤ _; simp only [componentBytes]; omega) (by decide) (by decide) d_La_law_17 2 rfl (fun _ h => h) (fun q17 H n17 hG hS => ?_)
  obtain ⟨G5, eG5⟩ : ∃ z : zg_G, z = zg_up G12 q17 (.inl (E.2.1 2, 1, .inr (.inl (fun _ => 0)))) := ⟨_, rfl⟩
  have hG : zP E G5 H := by rw [eG5]; exact hG
  have k6 : G5 q17 = some (.inl (E.2.1 2, 1, .inr (.inl (fun _ => 0)))) := by rw [eG5]; exact zg_up_self _ _ _
  have hE3 : G5 (E.2.2.2 0) = none := hQ.out hG
  obtain ⟨ro3, er3⟩ : ∃ z : zRo, z = zrn ro2 q17 (15, 0) := ⟨_, rfl⟩
  have hf3 : zfr ro2 (fun _ => False) G12 ro3 G5 := by rw [eG5, er3]; exact zfr.z (zx.nw n17) (zro.nw n17)
  have hA3 := hA2.fr hf3 hE2 hE3 id (fun _ _ => id)
  have hO3 := hO2.fr hf3 id (fun _ => id) id
  have hro3 : ro3 q17 = (15, 0) := by rw [er3]; exact zrn_self _ _ _
  have hW0 : wsm (([], [], []) : zW) ∧ wDt (2 ^ 20) (([], [], []) : zW) := ⟨⟨by decide, by decide, by decide⟩, fun e he => absurd he List.not_mem_nil, fun e he => absurd he List.not_mem_nil, fun e he => absurd he List.not_mem_nil⟩
  have hI3 : zIv ([], vor [] 0 rD0, [], ([], [], [])) := iv_of (B := ([], vor [] 0 rD0, [], ([], [], []))) hO3 v5_org hW0
  have hct3 : zCt ([], vor [] 0 rD0, [], ([], [], [])) rs2 64 512 0 0 0 0 100 81000 := ⟨Nat.le_refl _, fun z => absurd z (Nat.lt_irrefl _), Nat.le_refl _, Nat.zero_le _, by omega, by show rNu rs2 + 0 ≤ 23; omega, by decide, by decide, by decide, by decide⟩
  have hR3 : zRl E G5 q0 q8 q17 0 100 81000 := ⟨ro3, _, rs2, 64, 512, 0, _, 0, 0, 0, 0, hA3, hO3, k6, hro3, hI3, hct3, rfl⟩
  refine lv_astore_n (lv' := [(3, .ref q17), (2, .ref q8), (1, .ref q0), (0, .ref sc)]) hx hb d_La_law_19 rfl hl (by decide) rfl (fun ls hl => ?_)
  refine lv_iconst (v := 0) hx hb d_La_law_20 (by decide) ?_
  refine zi_as (y := nI (6 * 0)) (nI_0.symm) ?_
  refine lv_istore (lv' := [(4, .int (nI (6 * 0))), (3, .ref q17), (2, .ref q8), (1, .ref q0), (0, .ref sc)]) hx hb d_La_law_21 hl (by decide) rfl (fun ls hl => ?_)
  refine zW_more (cells2 := 100) (slots2 := 81000) (by decide) (by decide) ?_
  exact law_loop l hoff hx hb hml hown hts hX hbl hbA hbase hK hN hQ hL hret _ 0 _ _ _ _ _ (Nat.lt_succ_self _) (Nat.zero_le _) hR3 hG hS _ (lv_sub hl [4, 3, 2, 1, 0] rfl)
