def oS (o : zOt) (i : Nat) : zSt := (oX o).getD i (0, 0, 0, 0, 0, [])
theorem oS_at {o : zOt} {i : Nat} (h : i < (oX o).length) : oS o i = (oX o)[i] := by
  unfold oS
  rw [List.getD_eq_getElem?_getD, List.getElem?_eq_getElem h]
  rfl
theorem oS_mem {o : zOt} {i : Nat} (h : i < (oX o).length) : oS o i ∈ oX o := by rw [oS_at h]; exact List.getElem_mem h
theorem oS_m {o : zOt} {i : Nat} (h : i < (oX o).length) : ((oX o).map sA)[i]? = some (sA (oS o i)) := by
  rw [List.getElem?_map, List.getElem?_eq_getElem h, oS_at h]
  rfl
theorem t_Ow_find_t (l : Launch) {E : zc_E} {G : zg_G} {r : zRo} {o : zOt} (h : zOR E G r o) (hne : 0 < (oX o).length) (t : Int32) : zMq l E y_Ow_find c_Ow_find 3 (some (.object "ZoneAnswers$Rrset")) rm_Ow_find [.ref (oA o), .int t] G (fun x G2 => ((∃ i, i < (oX o).length ∧ sT (oS o i) = t ∧ (∀ j, j < i → sT (oS o j) ≠ t) ∧ x = some (sA (oS o i))) ∨ ((∀ i, i < (oX o).length → sT (oS o i) ≠ t) ∧ x = none)) ∧ G2 = G) := by
  obtain ⟨h1, h2, h3, ⟨h4, h5, h6⟩, h7⟩ := h
  obtain ⟨k, cap, f, q1, q2, q3, q4, q5, q6⟩ := h4.un2 (by rw [List.length_map]; exact hne)
  rw [List.length_map] at q1 q4
  exact t_Ow_find l E G (oA o) (oN o) (oL o) (oC o) h1 (oD o) (oX o).length cap k f q1 q2 q4 (by omega) (fun i => sA (oS o i)) (fun i => sL (oS o i)) (fun i => sT (oS o i)) (fun i => sU (oS o i)) (fun i hi => ⟨(q6 i).trans (oS_m hi), (h7 _ (oS_mem hi)).1⟩) t
/-- given away: below a cut -/
def zgb (o : zOt) : Bool := match oC o with | none => false | some c => !(c == oA o)
theorem t_Ow_isGivenAway_t (l : Launch) {E : zc_E} {G : zg_G} {r : zRo} {o : zOt} (h : zOR E G r o) : zMi l E y_Ow_isGivenAway c_Ow_isGivenAway 1 (some .boolean) rm_Ow_isGivenAway [.ref (oA o)] G (fun x G2 => zb x (zgb o = true) ∧ G2 = G) := by
  have h1 := h.1
  unfold zgb
  cases hc : oC o with
  | none =>
    rw [hc] at h1
    exact (t_Ow_isGivenAway_n l E G (oA o) (oN o) (oL o) h1).imp (fun x G' q => ⟨by rw [q.1]; exact zb.f (fun z => by cases z), q.2⟩)
  | some c =>
    rw [hc] at h1
    exact (t_Ow_isGivenAway_s l E G (oA o) (oN o) (oL o) c h1).imp (fun x G' q => ⟨q.1.iff (by simp), q.2⟩)
def zsc (os : List zOt) (i : Nat) : Nat := ((os.take i).map (fun o => (oX o).length)).sum
theorem zsc_s {os : List zOt} {i : Nat} (h : i < os.length) : zsc os (i + 1) = zsc os i + (oX (oe os i)).length := by
  unfold zsc
  rw [List.take_add_one, List.getElem?_eq_getElem h, List.map_append, List.sum_append, oe_at h]
  simp
def zcc (os : List zOt) (i : Nat) : Nat := ((os.take i).filter (fun o => !zgb o)).length
theorem zcc_y {os : List zOt} {i : Nat} (h : i < os.length) (hg : zgb (oe os i) = true) : zcc os (i + 1) = zcc os i + 0 := by
  unfold zcc
  rw [List.take_add_one, List.getElem?_eq_getElem h, List.filter_append, List.length_append, ← oe_at h]
  simp [hg]
theorem zcc_n {os : List zOt} {i : Nat} (h : i < os.length) (hg : ¬ zgb (oe os i) = true) : zcc os (i + 1) = zcc os i + 1 := by
  unfold zcc
  rw [List.take_add_one, List.getElem?_eq_getElem h, List.filter_append, List.length_append, ← oe_at h]
  simp [hg]
theorem zcc_le {os : List zOt} {i : Nat} : zcc os i ≤ os.length := by
  unfold zcc
  refine Nat.le_trans (List.length_filter_le _ _) ?_
  rw [List.length_take]
  omega
def zhT (o : zOt) (t : Int32) : Prop := ∃ i, i < (oX o).length ∧ sT (oS o i) = t
/-- how many owners behind the first, up to the i-th, have a set of that type -/
def zcu (os : List zOt) (t : Int32) : Nat → Nat
  | 0 => 0
  | i + 1 => zcu os t i + (if 0 < i ∧ (oX (oe os i)).any (fun s => decide (sT s = t)) = true then 1 else 0)
theorem zhT_b {o : zOt} {t : Int32} : zhT o t ↔ (oX o).any (fun s => decide (sT s = t)) = true := by
  rw [List.any_eq_true]
  constructor
  · rintro ⟨i, h1, h2⟩
    exact ⟨_, oS_mem h1, by simpa using h2⟩
  · rintro ⟨s, h1, h2⟩
    obtain ⟨i, hi, rfl⟩ := List.getElem_of_mem h1
    exact ⟨i, hi, by rw [oS_at hi]; simpa using h2⟩
theorem zcu_y {os : List zOt} {t : Int32} {i : Nat} (h0 : 0 < i) (h : zhT (oe os i) t) : zcu os t (i + 1) = zcu os t i + 1 := by
  show zcu os t i + _ = _
  rw [if_pos ⟨h0, zhT_b.mp h⟩]
theorem zcu_n {os : List zOt} {t : Int32} {i : Nat} (h : ¬ zhT (oe os i) t) : zcu os t (i + 1) = zcu os t i + 0 := by
  show zcu os t i + _ = _
  rw [if_neg (fun q => h (zhT_b.mpr q.2))]
theorem zcu_le {os : List zOt} {t : Int32} : ∀ i, zcu os t i ≤ i := by
  intro i
  induction i with
  | zero => exact Nat.le_refl _
  | succ i ih =>
    show zcu os t i + _ ≤ _
    split <;> omega
/-- how many labels two names have from the end -/
def zshr (x y : np_N) : Nat := zrun x y (x.length - min x.length y.length) (y.length - min x.length y.length) (min x.length y.length)
theorem zshr_le (x y : np_N) : zshr x y ≤ x.length ∧ zshr x y ≤ y.length := by
  have := zrun_le x y (x.length - min x.length y.length) (y.length - min x.length y.length) (min x.length y.length)
  unfold zshr
  omega
/-- how many names are there, up to the i-th owner -/
def zth (os : List zOt) : Nat → Nat
  | 0 => 1
  | i + 1 => zth os i + (if 0 < i then (oM (oe os i)).length - zshr (oM (oe os i)) (oM (oe os (i - 1))) else 0)
theorem zth_s {os : List zOt} {i : Nat} (h0 : 0 < i) : zth os (i + 1) = zth os i + ((oM (oe os i)).length - zshr (oM (oe os i)) (oM (oe os (i - 1)))) := by
  show zth os i + _ = _
  rw [if_pos h0]
theorem w_119 : (.fieldLink "ZoneAnswers$Zone" 190 "ZoneAnswers$Name" "labels" "I" : Cond) ∈ zw := zw_at 119 (by decide +kernel) (by decide +kernel)
theorem w_653 : (.methodLink "ZoneAnswers$Zone" 143 ⟨"ZoneAnswers$Owner", "find", "(I)LZoneAnswers$Rrset;"⟩ : Cond) ∈ zw := zw_at 653 (by decide +kernel) (by decide +kernel)
theorem w_654 : (.instanceMethod ⟨"ZoneAnswers$Owner", "find", "(I)LZoneAnswers$Rrset;"⟩ : Cond) ∈ zw := zw_at 654 (by decide +kernel) (by decide +kernel)
theorem w_655 : (.selects "ZoneAnswers$Owner" ⟨"ZoneAnswers$Owner", "find", "(I)LZoneAnswers$Rrset;"⟩ ⟨"ZoneAnswers$Owner", "find", "(I)LZoneAnswers$Rrset;"⟩ : Cond) ∈ zw := zw_at 655 (by decide +kernel) (by decide +kernel)
theorem w_656 : (.code ⟨"ZoneAnswers$Owner", "find", "(I)LZoneAnswers$Rrset;"⟩ prog_5_method_4_code 3 (some (.object "ZoneAnswers$Rrset")) : Cond) ∈ zw := zw_at 656 (by decide +kernel) (by decide +kernel)
theorem w_749 : (.methodLink "ZoneAnswers$Zone" 150 ⟨"ZoneAnswers$Name", "shared", "(LZoneAnswers$Name;)I"⟩ : Cond) ∈ zw := zw_at 749 (by decide +kernel) (by decide +kernel)
theorem w_750 : (.instanceMethod ⟨"ZoneAnswers$Name", "shared", "(LZoneAnswers$Name;)I"⟩ : Cond) ∈ zw := zw_at 750 (by decide +kernel) (by decide +kernel)
theorem w_751 : (.selects "ZoneAnswers$Name" ⟨"ZoneAnswers$Name", "shared", "(LZoneAnswers$Name;)I"⟩ ⟨"ZoneAnswers$Name", "shared", "(LZoneAnswers$Name;)I"⟩ : Cond) ∈ zw := zw_at 751 (by decide +kernel) (by decide +kernel)
theorem w_752 : (.code ⟨"ZoneAnswers$Name", "shared", "(LZoneAnswers$Name;)I"⟩ prog_4_method_6_code 10 (some .int) : Cond) ∈ zw := zw_at 752 (by decide +kernel) (by decide +kernel)

abbrev rm_Zo_setCount : Room := { frames := 3, cells := 0, slots := 0, locals := 80 }
set_option maxHeartbeats 4000000 in
set_option maxRecDepth 100000 in
/-- Zone.setCount() -/
theorem t_Zo_setCount (l : Launch) (E : zc_E) (G : zg_G) (a la tn st sd : Nat) (rc : Int32) (ha : G a = some (.inr (9, [.ref la, .ref tn, .ref st, .ref sd, .int rc]))) (ro : zRo) (dd : Nat) (os : List zOt) (hZR : zZR E G ro la dd os) (hne : 0 < os.length) (hol : os.length ≤ 2000) (hsm : ∀ i, i ≤ os.length → zsc os i ≤ 1000000) : zMi l E y_Zo_setCount c_Zo_setCount 3 (some .int) rm_Zo_setCount [.ref a] G (fun (r : Int32) (G2 : zg_G) => r = nI (zsc os os.length) ∧ G2 = G) := by
  refine zMi.of (by decide) (Nat.le_of_ble_eq_true rfl) ?_
  intro p e s m args below meth c Q hZ hG hret ls hl
  obtain ⟨hx, hb, hr, hts, hown, hlocks, hml, hnm, hbase, hK, hN, hQ⟩ := hZ
  have hl : lv_has ls 3 [(0, .ref a)] := hl
  have hS : zg_S (zc_b E) s.heap s.heap [] := va_S.rf
  obtain ⟨k9, cap9, f9, hla, hd9, h09, hc9, hz9, hf9⟩ := hZR.1.1.un2 (by rw [List.length_map]; exact hne)
  rw [List.length_map] at hla hc9
  refine lv_iconst (v := 0) hx hb d_Zo_setCount_0 (by decide) ?_
  refine zi_as (y := nI 0) (nI_0.symm) ?_
  refine lv_istore_n (lv' := [(1, .int (nI 0)), (0, .ref a)]) hx hb d_Zo_setCount_1 rfl hl (by decide) rfl (fun ls hl => ?_)
  refine lv_iconst (v := 0) hx hb d_Zo_setCount_2 (by decide) ?_
  refine zi_as (y := nI 0) (nI_0.symm) ?_
  refine lv_istore_n (lv' := [(2, .int (nI 0)), (1, .int (nI 0)), (0, .ref a)]) hx hb d_Zo_setCount_3 rfl hl (by decide) rfl (fun ls hl => ?_)
  have loop4 : ∀ (N : Nat) (i : Nat) (kt : Nat) (H : Heap) (locs : List Loc), (os.length - i) < N → (i ≤ os.length) → (kt = zsc os i) → zP E G H → zg_S (zc_b E) s.heap H locs → ∀ (ls : Array Slot), lv_has ls 3 [(0, .ref a), (1, .int (nI kt)), (2, .int (nI i))] → W p l e rm_Zo_setCount s m args below meth c H locs 0 0 Q (F0 m 4 ls []) := by
    intro N
    induction N with
    | zero =>
      intro i kt H locs hlt
      exact absurd hlt (Nat.not_lt_zero _)
    | succ N ih =>
      intro i kt H locs hlt hi hkt hG hS ls hl
      refine lv_iload_n hx hb d_Zo_setCount_4 rfl (lv_at hl 2 rfl) ?_
      refine lv_aload_n hx hb d_Zo_setCount_5 rfl (lv_at hl 0 rfl) ?_
      refine zg_get (ci := 9) (C := "ZoneAnswers$Zone") (T := T_Zo) (N := 5) hx hb hts zi_Zo hown hK hG ha rfl 0 (by decide) (hts _ w_91) (fun _ h9 => h9) rfl d_Zo_setCount_6 ?_
      refine zk_i (va_runV (As := []) (rest := [.int (nI i)]) ⟨hx, hb, hml, hown, hts⟩ (t_AL_size l E G la (.ref dd) (nI os.length) k9 hla) (zcV 0 hts w_159 w_160 w_161 w_6 w_162 (by decide +kernel) ⟨Nat.le_of_ble_eq_true rfl, Nat.le_of_ble_eq_true rfl⟩) (zc_preV hbase hK hN hQ hG hS hla rfl) rfl rfl hl.1 rfl (lv_room (Nat.le_of_ble_eq_true rfl)) d_Zo_setCount_9 ⟨(by decide), (by decide)⟩) hS (fun r9 G9 H locs hp9 hG hS => ?_)
      have hG : zP E G H := hp9.2 ▸ hG
      refine zi_as (y := nI os.length) hp9.1 ?_
      refine lv_icmp_ge (tgt := 41) hx hb d_Zo_setCount_12 (by decide) (fun c12 => ?_) (fun c12 => ?_)
      · have b12 : os.length ≤ i := (nI_leI (a := os.length) (b := i) (by omega) (by omega)).mp c12
        refine lv_iload_n hx hb d_Zo_setCount_41 rfl (lv_at hl 1 rfl) ?_
        exact hret _ _ _ _ _ _ _ _ _ hr (rfl) (⟨by rw [hkt, show i = os.length by omega], rfl⟩) hG hS (Nat.le_refl _) (Nat.le_refl _) d_Zo_setCount_42
      · have b12 : ¬ os.length ≤ i := fun q => c12 ((nI_leI (a := os.length) (b := i) (by omega) (by omega)).mpr q)
        have hin : i < os.length := by omega
        obtain ⟨ho1, ho2, ⟨bt, ft, ho3, ho4, ho5, ho6, ho7, ho8, ho9⟩, ⟨⟨⟨kl9, ho10⟩, -⟩, -⟩, -⟩ := hZR.2 _ (oe_mem hin)
        rw [List.length_map] at ho10
        have hcn := ho6.count
        have hsm9 := hsm i hi
        refine lv_iload_n hx hb d_Zo_setCount_15 rfl (lv_at hl 1 rfl) ?_
        refine lv_aload_n hx hb d_Zo_setCount_16 rfl (lv_at hl 0 rfl) ?_
        refine zg_get (ci := 9) (C := "ZoneAnswers$Zone") (T := T_Zo) (N := 5) hx hb hts zi_Zo hown hK hG ha rfl 0 (by decide) (hts _ w_91) (fun _ h9 => h9) rfl d_Zo_setCount_17 ?_
        refine lv_iload_n hx hb d_Zo_setCount_20 rfl (lv_at hl 2 rfl) ?_
        have hGo21 := hG
        refine zk_q (va_runV (As := [.int (nI i)]) (rest := [.int (nI kt)]) ⟨hx, hb, hml, hown, hts⟩ (t_AL_get l E G la dd os.length cap9 k9 f9 hla hd9 hc9 (by omega) i hin) (zcV 1 hts w_163 w_164 w_165 w_6 w_166 (by decide +kernel) ⟨Nat.le_of_ble_eq_true rfl, Nat.le_of_ble_eq_true rfl⟩) (zc_preV hbase hK hN hQ hG hS hla rfl) rfl rfl hl.1 rfl (lv_room (Nat.le_of_ble_eq_true rfl)) d_Zo_setCount_21 ⟨(by decide), (by decide)⟩) hS (fun r21 G21 H locs hp21 hG hS => ?_)
        have hG : zP E G H := hp21.2 ▸ hG
        refine zr_some (a := oA (oe os i)) (hp21.1.trans ((hf9 i).trans (oe_m hin))) ?_
        refine zg_castY hx hb hown (hts _ w_177) hK hG ho1 rfl (zN.at hN (w := .castable "ZoneAnswers$Owner" "ZoneAnswers$Owner") (by decide +kernel)) d_Zo_setCount_24 ?_
        refine zg_get (ci := 4) (C := "ZoneAnswers$Owner") (T := T_Ow) (N := 3) hx hb hts zi_Ow hown hK hG ho1 rfl 1 (by decide) (hts _ w_209) (fun _ h9 => h9) rfl d_Zo_setCount_27 ?_
        refine zk_i (va_runV (As := []) (rest := [.int (nI kt)]) ⟨hx, hb, hml, hown, hts⟩ (t_AL_size l E G (oL (oe os i)) (.ref (oD (oe os i))) (nI (oX (oe os i)).length) kl9 ho10) (zcV 0 hts w_159 w_160 w_161 w_6 w_162 (by decide +kernel) ⟨Nat.le_of_ble_eq_true rfl, Nat.le_of_ble_eq_true rfl⟩) (zc_preV hbase hK hN hQ hG hS ho10 rfl) rfl rfl hl.1 rfl (lv_room (Nat.le_of_ble_eq_true rfl)) d_Zo_setCount_30 ⟨(by decide), (by decide)⟩) hS (fun r30 G30 H locs hp30 hG hS => ?_)
        have hG : zP E G H := hp30.2 ▸ hG
        refine zi_as (y := nI ((oX (oe os i)).length)) hp30.1 ?_
        refine lv_iadd hx hb d_Zo_setCount_33 ?_
        refine zi_as (y := nI (kt + ((oX (oe os i)).length))) (nI_add kt ((oX (oe os i)).length)) ?_
        refine lv_istore_n (lv' := [(1, .int (nI (kt + ((oX (oe os i)).length)))), (0, .ref a), (2, .int (nI i))]) hx hb d_Zo_setCount_34 rfl hl (by decide) rfl (fun ls hl => ?_)
        refine lv_iinc (v := nI (i + 1)) (lv' := [(2, .int (nI (i + 1))), (1, .int (nI (kt + ((oX (oe os i)).length)))), (0, .ref a)]) hx hb d_Zo_setCount_35 hl (k := 2) rfl (nI_add i 1) (by decide) rfl (fun ls hl => ?_)
        refine lv_goto (tgt := 4) hx hb d_Zo_setCount_38 (by decide) ?_
        exact ih (i + 1) (kt + ((oX (oe os i)).length)) _ _ (by omega) (by omega) (by rw [hkt]; exact (zsc_s hin).symm) hG hS ls (lv_sub hl [2, 1, 0] rfl)
  exact loop4 _ 0 0 _ _ (Nat.lt_succ_self _) (Nat.zero_le _) (rfl) hG hS ls (lv_sub hl [2, 1, 0] rfl)
abbrev rm_Zo_chainCount : Room := { frames := 3, cells := 0, slots := 0, locals := 80 }
set_option maxHeartbeats 4000000 in
set_option maxRecDepth 100000 in
/-- Zone.chainCount() -/
theorem t_Zo_chainCount (l : Launch) (E : zc_E) (G : zg_G) (a la tn st sd : Nat) (rc : Int32) (ha : G a = some (.inr (9, [.ref la, .ref tn, .ref st, .ref sd, .int rc]))) (ro : zRo) (dd : Nat) (os : List zOt) (hZR : zZR E G ro la dd os) (hne : 0 < os.length) (hol : os.length ≤ 2000) : zMi l E y_Zo_chainCount c_Zo_chainCount 3 (some .int) rm_Zo_chainCount [.ref a] G (fun (r : Int32) (G2 : zg_G) => r = nI (zcc os os.length) ∧ G2 = G) := by
  refine zMi.of (by decide) (Nat.le_of_ble_eq_true rfl) ?_
  intro p e s m args below meth c Q hZ hG hret ls hl
  obtain ⟨hx, hb, hr, hts, hown, hlocks, hml, hnm, hbase, hK, hN, hQ⟩ := hZ
  have hl : lv_has ls 3 [(0, .ref a)] := hl
  have hS : zg_S (zc_b E) s.heap s.heap [] := va_S.rf
  obtain ⟨k9, cap9, f9, hla, hd9, h09, hc9, hz9, hf9⟩ := hZR.1.1.un2 (by rw [List.length_map]; exact hne)
  rw [List.length_map] at hla hc9
  refine lv_iconst (v := 0) hx hb d_Zo_chainCount_0 (by decide) ?_
  refine zi_as (y := nI 0) (by decide) ?_
  refine lv_istore_n (lv' := [(1, .int (nI 0)), (0, .ref a)]) hx hb d_Zo_chainCount_1 rfl hl (by decide) rfl (fun ls hl => ?_)
  refine lv_iconst (v := 0) hx hb d_Zo_chainCount_2 (by decide) ?_
  refine zi_as (y := nI 0) (by decide) ?_
  refine lv_istore_n (lv' := [(2, .int (nI 0)), (1, .int (nI 0)), (0, .ref a)]) hx hb d_Zo_chainCount_3 rfl hl (by decide) rfl (fun ls hl => ?_)
  have loop4 : ∀ (N : Nat) (i : Nat) (kt : Nat) (H : Heap) (locs : List Loc), (os.length - i) < N → (i ≤ os.length) → (kt = zcc os i) → zP E G H → zg_S (zc_b E) s.heap H locs → ∀ (ls : Array Slot), lv_has ls 3 [(0, .ref a), (1, .int (nI kt)), (2, .int (nI i))] → W p l e rm_Zo_chainCount s m args below meth c H locs 0 0 Q (F0 m 4 ls []) := by
    intro N
    induction N with
    | zero =>
      intro i kt H locs hlt
      exact absurd hlt (Nat.not_lt_zero _)
    | succ N ih =>
      intro i kt H locs hlt hi hkt hG hS ls hl
      refine lv_iload_n hx hb d_Zo_chainCount_4 rfl (lv_at hl 2 rfl) ?_
      refine lv_aload_n hx hb d_Zo_chainCount_5 rfl (lv_at hl 0 rfl) ?_
      refine zg_get (ci := 9) (C := "ZoneAnswers$Zone") (T := T_Zo) (N := 5) hx hb hts zi_Zo hown hK hG ha rfl 0 (by decide) (hts _ w_91) (fun _ h9 => h9) rfl d_Zo_chainCount_6 ?_
      refine zk_i (va_runV (As := []) (rest := [.int (nI i)]) ⟨hx, hb, hml, hown, hts⟩ (t_AL_size l E G la (.ref dd) (nI os.length) k9 hla) (zcV 0 hts w_159 w_160 w_161 w_6 w_162 (by decide +kernel) ⟨Nat.le_of_ble_eq_true rfl, Nat.le_of_ble_eq_true rfl⟩) (zc_preV hbase hK hN hQ hG hS hla rfl) rfl rfl hl.1 rfl (lv_room (Nat.le_of_ble_eq_true rfl)) d_Zo_chainCount_9 ⟨(by decide), (by decide)⟩) hS (fun r9 G9 H locs hp9 hG hS => ?_)
      have hG : zP E G H := hp9.2 ▸ hG
      refine zi_as (y := nI os.length) hp9.1 ?_
      refine lv_icmp_ge (tgt := 46) hx hb d_Zo_chainCount_12 (by decide) (fun c12 => ?_) (fun c12 => ?_)
      · have b12 : os.length ≤ i := (nI_leI (a := os.length) (b := i) (by omega) (by omega)).mp c12
        refine lv_iload_n hx hb d_Zo_chainCount_46 rfl (lv_at hl 1 rfl) ?_
        exact hret _ _ _ _ _ _ _ _ _ hr (rfl) (⟨by rw [hkt, show i = os.length by omega], rfl⟩) hG hS (Nat.le_refl _) (Nat.le_refl _) d_Zo_chainCount_47
      · have b12 : ¬ os.length ≤ i := fun q => c12 ((nI_leI (a := os.length) (b := i) (by omega) (by omega)).mpr q)
        have hin : i < os.length := by omega
        obtain ⟨ho1, ho2, ⟨bt, ft, ho3, ho4, ho5, ho6, ho7, ho8, ho9⟩, ⟨⟨⟨kl9, ho10⟩, -⟩, -⟩, -⟩ := hZR.2 _ (oe_mem hin)
        rw [List.length_map] at ho10
        have hcn := ho6.count
        have hcl9 := zcc_le (os := os) (i := i)
        refine lv_iload_n hx hb d_Zo_chainCount_15 rfl (lv_at hl 1 rfl) ?_
        refine lv_aload_n hx hb d_Zo_chainCount_16 rfl (lv_at hl 0 rfl) ?_
        refine zg_get (ci := 9) (C := "ZoneAnswers$Zone") (T := T_Zo) (N := 5) hx hb hts zi_Zo hown hK hG ha rfl 0 (by decide) (hts _ w_91) (fun _ h9 => h9) rfl d_Zo_chainCount_17 ?_
        refine lv_iload_n hx hb d_Zo_chainCount_20 rfl (lv_at hl 2 rfl) ?_
        have hGo21 := hG
        refine zk_q (va_runV (As := [.int (nI i)]) (rest := [.int (nI kt)]) ⟨hx, hb, hml, hown, hts⟩ (t_AL_get l E G la dd os.length cap9 k9 f9 hla hd9 hc9 (by omega) i hin) (zcV 1 hts w_163 w_164 w_165 w_6 w_166 (by decide +kernel) ⟨Nat.le_of_ble_eq_true rfl, Nat.le_of_ble_eq_true rfl⟩) (zc_preV hbase hK hN hQ hG hS hla rfl) rfl rfl hl.1 rfl (lv_room (Nat.le_of_ble_eq_true rfl)) d_Zo_chainCount_21 ⟨(by decide), (by decide)⟩) hS (fun r21 G21 H locs hp21 hG hS => ?_)
        have hG : zP E G H := hp21.2 ▸ hG
        refine zr_some (a := oA (oe os i)) (hp21.1.trans ((hf9 i).trans (oe_m hin))) ?_
        refine zg_castY hx hb hown (hts _ w_177) hK hG ho1 rfl (zN.at hN (w := .castable "ZoneAnswers$Owner" "ZoneAnswers$Owner") (by decide +kernel)) d_Zo_chainCount_24 ?_
        refine zk_i (va_runV (As := []) (rest := [.int (nI kt)]) ⟨hx, hb, hml, hown, hts⟩ (t_Ow_isGivenAway_t l (hZR.2 _ (oe_mem hin))) (zcV 0 hts w_757 w_758 w_759 w_12 w_760 (by decide +kernel) ⟨Nat.le_of_ble_eq_true rfl, Nat.le_of_ble_eq_true rfl⟩) (zc_preV hbase hK hN hQ hG hS ho1 rfl) rfl rfl hl.1 rfl (lv_room (Nat.le_of_ble_eq_true rfl)) d_Zo_chainCount_27 ⟨(by decide), (by decide)⟩) hS (fun r27 G27 H locs hp27 hG hS => ?_)
        have hG : zP E G H := hp27.2 ▸ hG
        refine lv_if_eq (tgt := 37) hx hb d_Zo_chainCount_30 (by decide) (fun c30 => ?_) (fun c30 => ?_)
        · refine lv_iconst (v := 1) hx hb d_Zo_chainCount_37 (by decide) ?_
          refine zi_as (y := nI 1) (by decide) ?_
          refine lv_iadd hx hb d_Zo_chainCount_38 ?_
          refine zi_as (y := nI (kt + 1)) (nI_add kt 1) ?_
          refine lv_istore_n (lv' := [(1, .int (nI (kt + 1))), (0, .ref a), (2, .int (nI i))]) hx hb d_Zo_chainCount_39 rfl hl (by decide) rfl (fun ls hl => ?_)
          refine lv_iinc (v := nI (i + 1)) (lv' := [(2, .int (nI (i + 1))), (1, .int (nI (kt + 1))), (0, .ref a)]) hx hb d_Zo_chainCount_40 hl (k := 2) rfl (nI_add i 1) (by decide) rfl (fun ls hl => ?_)
          refine lv_goto (tgt := 4) hx hb d_Zo_chainCount_43 (by decide) ?_
          exact ih (i + 1) (kt + 1) _ _ (by omega) (by omega) (by rw [hkt]; first | exact (zcc_y hin (hp27.1.nz c30)).symm | exact (zcc_n hin (hp27.1.z c30)).symm) hG hS ls (lv_sub hl [2, 1, 0] rfl)
        · refine lv_iconst (v := 0) hx hb d_Zo_chainCount_33 (by decide) ?_
          refine zi_as (y := nI 0) (by decide) ?_
          refine lv_goto (tgt := 38) hx hb d_Zo_chainCount_34 (by decide) ?_
          refine lv_iadd hx hb d_Zo_chainCount_38 ?_
          refine zi_as (y := nI (kt + 0)) (nI_add kt 0) ?_
          refine lv_istore_n (lv' := [(1, .int (nI (kt + 0))), (0, .ref a), (2, .int (nI i))]) hx hb d_Zo_chainCount_39 rfl hl (by decide) rfl (fun ls hl => ?_)
          refine lv_iinc (v := nI (i + 1)) (lv' := [(2, .int (nI (i + 1))), (1, .int (nI (kt + 0))), (0, .ref a)]) hx hb d_Zo_chainCount_40 hl (k := 2) rfl (nI_add i 1) (by decide) rfl (fun ls hl => ?_)
          refine lv_goto (tgt := 4) hx hb d_Zo_chainCount_43 (by decide) ?_
          exact ih (i + 1) (kt + 0) _ _ (by omega) (by omega) (by rw [hkt]; first | exact (zcc_y hin (hp27.1.nz c30)).symm | exact (zcc_n hin (hp27.1.z c30)).symm) hG hS ls (lv_sub hl [2, 1, 0] rfl)
  exact loop4 _ 0 0 _ _ (Nat.lt_succ_self _) (Nat.zero_le _) (rfl) hG hS ls (lv_sub hl [2, 1, 0] rfl)
abbrev rm_Zo_cutCount : Room := { frames := 4, cells := 0, slots := 0, locals := 110 }
set_option maxHeartbeats 4000000 in
set_option maxRecDepth 100000 in
/-- Zone.cutCount() -/
theorem t_Zo_cutCount (l : Launch) (E : zc_E) (G : zg_G) (a la tn st sd : Nat) (rc : Int32) (ha : G a = some (.inr (9, [.ref la, .ref tn, .ref st, .ref sd, .int rc]))) (ro : zRo) (dd : Nat) (os : List zOt) (hZR : zZR E G ro la dd os) (hne : 0 < os.length) (hol : os.length ≤ 2000) (hse : ∀ o ∈ os, 0 < (oX o).length) : zMi l E y_Zo_cutCount c_Zo_cutCount 3 (some .int) rm_Zo_cutCount [.ref a] G (fun (r : Int32) (G2 : zg_G) => r = nI (zcu os 2 os.length) ∧ G2 = G) := by
  refine zMi.of (by decide) (Nat.le_of_ble_eq_true rfl) ?_
  intro p e s m args below meth c Q hZ hG hret ls hl
  obtain ⟨hx, hb, hr, hts, hown, hlocks, hml, hnm, hbase, hK, hN, hQ⟩ := hZ
  have hl : lv_has ls 3 [(0, .ref a)] := hl
  have hS : zg_S (zc_b E) s.heap s.heap [] := va_S.rf
  obtain ⟨k9, cap9, f9, hla, hd9, h09, hc9, hz9, hf9⟩ := hZR.1.1.un2 (by rw [List.length_map]; exact hne)
  rw [List.length_map] at hla hc9
  refine lv_iconst (v := 0) hx hb d_Zo_cutCount_0 (by decide) ?_
  refine zi_as (y := nI 0) (by decide) ?_
  refine lv_istore_n (lv' := [(1, .int (nI 0)), (0, .ref a)]) hx hb d_Zo_cutCount_1 rfl hl (by decide) rfl (fun ls hl => ?_)
  refine lv_iconst (v := 1) hx hb d_Zo_cutCount_2 (by decide) ?_
  refine zi_as (y := nI 1) (by decide) ?_
  refine lv_istore_n (lv' := [(2, .int (nI 1)), (1, .int (nI 0)), (0, .ref a)]) hx hb d_Zo_cutCount_3 rfl hl (by decide) rfl (fun ls hl => ?_)
  have loop4 : ∀ (N : Nat) (i : Nat) (kt : Nat) (H : Heap) (locs : List Loc), (os.length - i) < N → (i ≤ os.length) → (1 ≤ i) → (kt = zcu os 2 i) → zP E G H → zg_S (zc_b E) s.heap H locs → ∀ (ls : Array Slot), lv_has ls 3 [(0, .ref a), (1, .int (nI kt)), (2, .int (nI i))] → W p l e rm_Zo_cutCount s m args below meth c H locs 0 0 Q (F0 m 4 ls []) := by
    intro N
    induction N with
    | zero =>
      intro i kt H locs hlt
      exact absurd hlt (Nat.not_lt_zero _)
    | succ N ih =>
      intro i kt H locs hlt hi hi1 hkt hG hS ls hl
      refine lv_iload_n hx hb d_Zo_cutCount_4 rfl (lv_at hl 2 rfl) ?_
      refine lv_aload_n hx hb d_Zo_cutCount_5 rfl (lv_at hl 0 rfl) ?_
      refine zg_get (ci := 9) (C := "ZoneAnswers$Zone") (T := T_Zo) (N := 5) hx hb hts zi_Zo hown hK hG ha rfl 0 (by decide) (hts _ w_91) (fun _ h9 => h9) rfl d_Zo_cutCount_6 ?_
      refine zk_i (va_runV (As := []) (rest := [.int (nI i)]) ⟨hx, hb, hml, hown, hts⟩ (t_AL_size l E G la (.ref dd) (nI os.length) k9 hla) (zcV 0 hts w_159 w_160 w_161 w_6 w_162 (by decide +kernel) ⟨Nat.le_of_ble_eq_true rfl, Nat.le_of_ble_eq_true rfl⟩) (zc_preV hbase hK hN hQ hG hS hla rfl) rfl rfl hl.1 rfl (lv_room (Nat.le_of_ble_eq_true rfl)) d_Zo_cutCount_9 ⟨(by decide), (by decide)⟩) hS (fun r9 G9 H locs hp9 hG hS => ?_)
      have hG : zP E G H := hp9.2 ▸ hG
      refine zi_as (y := nI os.length) hp9.1 ?_
      refine lv_icmp_ge (tgt := 47) hx hb d_Zo_cutCount_12 (by decide) (fun c12 => ?_) (fun c12 => ?_)
      · have b12 : os.length ≤ i := (nI_leI (a := os.length) (b := i) (by omega) (by omega)).mp c12
        refine lv_iload_n hx hb d_Zo_cutCount_47 rfl (lv_at hl 1 rfl) ?_
        exact hret _ _ _ _ _ _ _ _ _ hr (rfl) (⟨by rw [hkt, show i = os.length by omega], rfl⟩) hG hS (Nat.le_refl _) (Nat.le_refl _) d_Zo_cutCount_48
      · have b12 : ¬ os.length ≤ i := fun q => c12 ((nI_leI (a := os.length) (b := i) (by omega) (by omega)).mpr q)
        have hin : i < os.length := by omega
        obtain ⟨ho1, ho2, ⟨bt, ft, ho3, ho4, ho5, ho6, ho7, ho8, ho9⟩, ⟨⟨⟨kl9, ho10⟩, -⟩, -⟩, -⟩ := hZR.2 _ (oe_mem hin)
        rw [List.length_map] at ho10
        have hcn := ho6.count
        have hcl9 := zcu_le (os := os) (t := 2) i
        refine lv_iload_n hx hb d_Zo_cutCount_15 rfl (lv_at hl 1 rfl) ?_
        refine lv_aload_n hx hb d_Zo_cutCount_16 rfl (lv_at hl 0 rfl) ?_
        refine zg_get (ci := 9) (C := "ZoneAnswers$Zone") (T := T_Zo) (N := 5) hx hb hts zi_Zo hown hK hG ha rfl 0 (by decide) (hts _ w_91) (fun _ h9 => h9) rfl d_Zo_cutCount_17 ?_
        refine lv_iload_n hx hb d_Zo_cutCount_20 rfl (lv_at hl 2 rfl) ?_
        have hGo21 := hG
        refine zk_q (va_runV (As := [.int (nI i)]) (rest := [.int (nI kt)]) ⟨hx, hb, hml, hown, hts⟩ (t_AL_get l E G la dd os.length cap9 k9 f9 hla hd9 hc9 (by omega) i hin) (zcV 1 hts w_163 w_164 w_165 w_6 w_166 (by decide +kernel) ⟨Nat.le_of_ble_eq_true rfl, Nat.le_of_ble_eq_true rfl⟩) (zc_preV hbase hK hN hQ hG hS hla rfl) rfl rfl hl.1 rfl (lv_room (Nat.le_of_ble_eq_true rfl)) d_Zo_cutCount_21 ⟨(by decide), (by decide)⟩) hS (fun r21 G21 H locs hp21 hG hS => ?_)
        have hG : zP E G H := hp21.2 ▸ hG
        refine zr_some (a := oA (oe os i)) (hp21.1.trans ((hf9 i).trans (oe_m hin))) ?_
        refine zg_castY hx hb hown (hts _ w_177) hK hG ho1 rfl (zN.at hN (w := .castable "ZoneAnswers$Owner" "ZoneAnswers$Owner") (by decide +kernel)) d_Zo_cutCount_24 ?_
        refine lv_iconst (v := 2) hx hb d_Zo_cutCount_27 (by decide) ?_
        have hGo28 := hG
        refine zk_q (va_runV (As := [.int 2]) (rest := [.int (nI kt)]) ⟨hx, hb, hml, hown, hts⟩ (t_Ow_find_t l (hZR.2 _ (oe_mem hin)) (hse _ (oe_mem hin)) 2) (zcV 1 hts w_653 w_654 w_655 w_12 w_656 (by decide +kernel) ⟨Nat.le_of_ble_eq_true rfl, Nat.le_of_ble_eq_true rfl⟩) (zc_preV hbase hK hN hQ hG hS ho1 rfl) rfl rfl hl.1 rfl (lv_room (Nat.le_of_ble_eq_true rfl)) d_Zo_cutCount_28 ⟨(by decide), (by decide)⟩) hS (fun r28 G28 H locs hp28 hG hS => ?_)
        rcases hp28 with ⟨⟨j9, hj1, hj2, hj3, er28⟩ | ⟨hj, er28⟩, eg28⟩
        · have hG : zP E G H := eg28 ▸ hG
          refine zr_some (a := sA (oS (oe os i) j9)) er28 ?_
          have hyn : zcu os 2 (i + 1) = zcu os 2 i + 1 := zcu_y (by omega) ⟨j9, hj1, hj2⟩
          refine lv_ifnull hx hb d_Zo_cutCount_31 ?_
          refine lv_iconst (v := 1) hx hb d_Zo_cutCount_34 (by decide) ?_
          refine zi_as (y := nI 1) (by decide) ?_
          refine lv_goto (tgt := 39) hx hb d_Zo_cutCount_35 (by decide) ?_
          refine lv_iadd hx hb d_Zo_cutCount_39 ?_
          refine zi_as (y := nI (kt + 1)) (nI_add kt 1) ?_
          refine lv_istore_n (lv' := [(1, .int (nI (kt + 1))), (0, .ref a), (2, .int (nI i))]) hx hb d_Zo_cutCount_40 rfl hl (by decide) rfl (fun ls hl => ?_)
          refine lv_iinc (v := nI (i + 1)) (lv' := [(2, .int (nI (i + 1))), (1, .int (nI (kt + 1))), (0, .ref a)]) hx hb d_Zo_cutCount_41 hl (k := 2) rfl (nI_add i 1) (by decide) rfl (fun ls hl => ?_)
          refine lv_goto (tgt := 4) hx hb d_Zo_cutCount_44 (by decide) ?_
          exact ih (i + 1) (kt + 1) _ _ (by omega) (by omega) (by omega) (by rw [hkt]; exact hyn.symm) hG hS ls (lv_sub hl [2, 1, 0] rfl)
        · have hG : zP E G H := eg28 ▸ hG
          refine zr_none er28 ?_
          have hyn : zcu os 2 (i + 1) = zcu os 2 i + 0 := zcu_n (fun ⟨j, q1, q2⟩ => hj j q1 q2)
          refine lv_ifnullN (tgt := 38) hx hb d_Zo_cutCount_31 (by decide) ?_
          refine lv_iconst (v := 0) hx hb d_Zo_cutCount_38 (by decide) ?_
          refine zi_as (y := nI 0) (by decide) ?_
          refine lv_iadd hx hb d_Zo_cutCount_39 ?_
          refine zi_as (y := nI (kt + 0)) (nI_add kt 0) ?_
          refine lv_istore_n (lv' := [(1, .int (nI (kt + 0))), (0, .ref a), (2, .int (nI i))]) hx hb d_Zo_cutCount_40 rfl hl (by decide) rfl (fun ls hl => ?_)
          refine lv_iinc (v := nI (i + 1)) (lv' := [(2, .int (nI (i + 1))), (1, .int (nI (kt + 0))), (0, .ref a)]) hx hb d_Zo_cutCount_41 hl (k := 2) rfl (nI_add i 1) (by decide) rfl (fun ls hl => ?_)
          refine lv_goto (tgt := 4) hx hb d_Zo_cutCount_44 (by decide) ?_
          exact ih (i + 1) (kt + 0) _ _ (by omega) (by omega) (by omega) (by rw [hkt]; exact hyn.symm) hG hS ls (lv_sub hl [2, 1, 0] rfl)
  exact loop4 _ 1 0 _ _ (Nat.lt_succ_self _) (by omega) (Nat.le_refl _) (rfl) hG hS ls (lv_sub hl [2, 1, 0] rfl)
abbrev rm_Zo_thereCount : Room := { frames := 4, cells := 0, slots := 0, locals := 110 }
set_option maxHeartbeats 4000000 in
set_option maxRecDepth 100000 in
/-- Zone.thereCount() -/
theorem t_Zo_thereCount (l : Launch) (E : zc_E) (G : zg_G) (a la tn st sd : Nat) (rc : Int32) (ha : G a = some (.inr (9, [.ref la, .ref tn, .ref st, .ref sd, .int rc]))) (ro : zRo) (dd : Nat) (os : List zOt) (hZR : zZR E G ro la dd os) (hne : 0 < os.length) (hol : os.length ≤ 2000) (hsm : ∀ i, i ≤ os.length → zth os i ≤ 1000000) : zMi l E y_Zo_thereCount c_Zo_thereCount 4 (some .int) rm_Zo_thereCount [.ref a] G (fun (r : Int32) (G2 : zg_G) => r = nI (zth os os.length) ∧ G2 = G) := by
  refine zMi.of (by decide) (Nat.le_of_ble_eq_true rfl) ?_
  intro p e s m args below meth c Q hZ hG hret ls hl
  obtain ⟨hx, hb, hr, hts, hown, hlocks, hml, hnm, hbase, hK, hN, hQ⟩ := hZ
  have hl : lv_has ls 4 [(0, .ref a)] := hl
  have hS : zg_S (zc_b E) s.heap s.heap [] := va_S.rf
  obtain ⟨k9, cap9, f9, hla, hd9, h09, hc9, hz9, hf9⟩ := hZR.1.1.un2 (by rw [List.length_map]; exact hne)
  rw [List.length_map] at hla hc9
  refine lv_iconst (v := 1) hx hb d_Zo_thereCount_0 (by decide) ?_
  refine zi_as (y := nI 1) (by decide) ?_
  refine lv_istore_n (lv' := [(1, .int (nI 1)), (0, .ref a)]) hx hb d_Zo_thereCount_1 rfl hl (by decide) rfl (fun ls hl => ?_)
  refine lv_iconst (v := 1) hx hb d_Zo_thereCount_2 (by decide) ?_
  refine zi_as (y := nI 1) (by decide) ?_
  refine lv_istore_n (lv' := [(2, .int (nI 1)), (1, .int (nI 1)), (0, .ref a)]) hx hb d_Zo_thereCount_3 rfl hl (by decide) rfl (fun ls hl => ?_)
  have loop4 : ∀ (N : Nat) (i : Nat) (kt : Nat) (H : Heap) (locs : List Loc), (os.length - i) < N → (i ≤ os.length) → (1 ≤ i) → (kt = zth os i) → zP E G H → zg_S (zc_b E) s.heap H locs → ∀ (ls : Array Slot), lv_has ls 4 [(0, .ref a), (1, .int (nI kt)), (2, .int (nI i))] → W p l e rm_Zo_thereCount s m args below meth c H locs 0 0 Q (F0 m 4 ls []) := by
    intro N
    induction N with
    | zero =>
      intro i kt H locs hlt
      exact absurd hlt (Nat.not_lt_zero _)
    | succ N ih =>
      intro i kt H locs hlt hi hi1 hkt hG hS ls hl
      refine lv_iload_n hx hb d_Zo_thereCount_4 rfl (lv_at hl 2 rfl) ?_
      refine lv_aload_n hx hb d_Zo_thereCount_5 rfl (lv_at hl 0 rfl) ?_
      refine zg_get (ci := 9) (C := "ZoneAnswers$Zone") (T := T_Zo) (N := 5) hx hb hts zi_Zo hown hK hG ha rfl 0 (by decide) (hts _ w_91) (fun _ h9 => h9) rfl d_Zo_thereCount_6 ?_
      refine zk_i (va_runV (As := []) (rest := [.int (nI i)]) ⟨hx, hb, hml, hown, hts⟩ (t_AL_size l E G la (.ref dd) (nI os.length) k9 hla) (zcV 0 hts w_159 w_160 w_161 w_6 w_162 (by decide +kernel) ⟨Nat.le_of_ble_eq_true rfl, Nat.le_of_ble_eq_true rfl⟩) (zc_preV hbase hK hN hQ hG hS hla rfl) rfl rfl hl.1 rfl (lv_room (Nat.le_of_ble_eq_true rfl)) d_Zo_thereCount_9 ⟨(by decide), (by decide)⟩) hS (fun r9 G9 H locs hp9 hG hS => ?_)
      have hG : zP E G H := hp9.2 ▸ hG
      refine zi_as (y := nI os.length) hp9.1 ?_
      refine lv_icmp_ge (tgt := 64) hx hb d_Zo_thereCount_12 (by decide) (fun c12 => ?_) (fun c12 => ?_)
      · have b12 : os.length ≤ i := (nI_leI (a := os.length) (b := i) (by omega) (by omega)).mp c12
        refine lv_iload_n hx hb d_Zo_thereCount_64 rfl (lv_at hl 1 rfl) ?_
        exact hret _ _ _ _ _ _ _ _ _ hr (rfl) (⟨by rw [hkt, show i = os.length by omega], rfl⟩) hG hS (Nat.le_refl _) (Nat.le_refl _) d_Zo_thereCount_65
      · have b12 : ¬ os.length ≤ i := fun q => c12 ((nI_leI (a := os.length) (b := i) (by omega) (by omega)).mpr q)
        have hin : i < os.length := by omega
        obtain ⟨ho1, ho2, ⟨bt, ft, ho3, ho4, ho5, ho6, ho7, ho8, ho9⟩, ⟨⟨⟨kl9, ho10⟩, -⟩, -⟩, -⟩ := hZR.2 _ (oe_mem hin)
        rw [List.length_map] at ho10
        have hcn := ho6.count
        have hinj : i - 1 < os.length := by omega
        obtain ⟨ho1j, ho2j, ⟨btj, ftj, ho3j, ho4j, ho5j, ho6j, ho7j, ho8j, ho9j⟩, ⟨⟨⟨kl9j, ho10j⟩, -⟩, -⟩, -⟩ := hZR.2 _ (oe_mem hinj)
        rw [List.length_map] at ho10j
        have hcnj := ho6j.count
        have hsm9 := hsm i hi
        have hsh9 := zshr_le (oM (oe os i)) (oM (oe os (i - 1)))
        refine lv_aload_n hx hb d_Zo_thereCount_15 rfl (lv_at hl 0 rfl) ?_
        refine zg_get (ci := 9) (C := "ZoneAnswers$Zone") (T := T_Zo) (N := 5) hx hb hts zi_Zo hown hK hG ha rfl 0 (by decide) (hts _ w_91) (fun _ h9 => h9) rfl d_Zo_thereCount_16 ?_
        refine lv_iload_n hx hb d_Zo_thereCount_19 rfl (lv_at hl 2 rfl) ?_
        have hGo20 := hG
        refine zk_q (va_runV (As := [.int (nI i)]) (rest := []) ⟨hx, hb, hml, hown, hts⟩ (t_AL_get l E G la dd os.length cap9 k9 f9 hla hd9 hc9 (by omega) i hin) (zcV 1 hts w_163 w_164 w_165 w_6 w_166 (by decide +kernel) ⟨Nat.le_of_ble_eq_true rfl, Nat.le_of_ble_eq_true rfl⟩) (zc_preV hbase hK hN hQ hG hS hla rfl) rfl rfl hl.1 rfl (lv_room (Nat.le_of_ble_eq_true rfl)) d_Zo_thereCount_20 ⟨(by decide), (by decide)⟩) hS (fun r20 G20 H locs hp20 hG hS => ?_)
        have hG : zP E G H := hp20.2 ▸ hG
        refine zr_some (a := oA (oe os i)) (hp20.1.trans ((hf9 i).trans (oe_m hin))) ?_
        refine zg_castY hx hb hown (hts _ w_177) hK hG ho1 rfl (zN.at hN (w := .castable "ZoneAnswers$Owner" "ZoneAnswers$Owner") (by decide +kernel)) d_Zo_thereCount_23 ?_
        refine zg_get (ci := 4) (C := "ZoneAnswers$Owner") (T := T_Ow) (N := 3) hx hb hts zi_Ow hown hK hG ho1 rfl 0 (by decide) (hts _ w_206) (fun _ h9 => h9) rfl d_Zo_thereCount_26 ?_
        refine lv_astore_n (lv' := [(3, .ref (oN (oe os i))), (0, .ref a), (1, .int (nI kt)), (2, .int (nI i))]) hx hb d_Zo_thereCount_29 rfl hl (by decide) rfl (fun ls hl => ?_)
        refine lv_iload_n hx hb d_Zo_thereCount_30 rfl (lv_at hl 2 rfl) ?_
        refine lv_aload_n hx hb d_Zo_thereCount_31 rfl (lv_at hl 0 rfl) ?_
        refine zg_get (ci := 3) (C := "ZoneAnswers$Name") (T := T_Na) (N := 2) hx hb hts zi_Na hown hK hG ho3 rfl 1 (by decide) (hts _ w_119) (fun _ h9 => h9) rfl d_Zo_thereCount_32 ?_
        refine lv_aload_n hx hb d_Zo_thereCount_35 rfl (lv_at hl 0 rfl) ?_
        refine lv_aload_n hx hb d_Zo_thereCount_36 rfl (lv_at hl 1 rfl) ?_
        refine zg_get (ci := 9) (C := "ZoneAnswers$Zone") (T := T_Zo) (N := 5) hx hb hts zi_Zo hown hK hG ha rfl 0 (by decide) (hts _ w_91) (fun _ h9 => h9) rfl d_Zo_thereCount_37 ?_
        refine lv_iload_n hx hb d_Zo_thereCount_40 rfl (lv_at hl 3 rfl) ?_
        refine lv_iconst (v := 1) hx hb d_Zo_thereCount_41 (by decide) ?_
        refine lv_isub hx hb d_Zo_thereCount_42 ?_
        refine zi_as (y := nI (i - 1)) (zi_sub (a := i) (b := 1) (by omega)) ?_
        have hGo43 := hG
        refine zk_q (va_runV (As := [.int (nI (i - 1))]) (rest := [.ref (oN (oe os i)), .int (nI ((oM (oe os i)).length)), .int (nI kt)]) ⟨hx, hb, hml, hown, hts⟩ (t_AL_get l E G la dd os.length cap9 k9 f9 hla hd9 hc9 (by omega) (i - 1) hinj) (zcV 1 hts w_163 w_164 w_165 w_6 w_166 (by decide +kernel) ⟨Nat.le_of_ble_eq_true rfl, Nat.le_of_ble_eq_true rfl⟩) (zc_preV hbase hK hN hQ hG hS hla rfl) rfl rfl hl.1 rfl (lv_room (Nat.le_of_ble_eq_true rfl)) d_Zo_thereCount_43 ⟨(by decide), (by decide)⟩) hS (fun r43 G43 H locs hp43 hG hS => ?_)
        have hG : zP E G H := hp43.2 ▸ hG
        refine zr_some (a := oA (oe os (i - 1))) (hp43.1.trans ((hf9 (i - 1)).trans (oe_m hinj))) ?_
        refine zg_castY hx hb hown (hts _ w_177) hK hG ho1j rfl (zN.at hN (w := .castable "ZoneAnswers$Owner" "ZoneAnswers$Owner") (by decide +kernel)) d_Zo_thereCount_46 ?_
        refine zg_get (ci := 4) (C := "ZoneAnswers$Owner") (T := T_Ow) (N := 3) hx hb hts zi_Ow hown hK hG ho1j rfl 0 (by decide) (hts _ w_206) (fun _ h9 => h9) rfl d_Zo_thereCount_49 ?_
        refine zk_i (va_runV (As := [.ref (oN (oe os (i - 1)))]) (rest := [.int (nI ((oM (oe os i)).length)), .int (nI kt)]) ⟨hx, hb, hml, hown, hts⟩ (t_Na_shared l E G (oN (oe os i)) bt (oM (oe os i)) ft ho3 ho4 ho5 ho6 (oN (oe os (i - 1))) btj (oM (oe os (i - 1))) ftj ho3j ho4j ho5j ho6j) (zcV 1 hts w_749 w_750 w_751 w_7 w_752 (by decide +kernel) ⟨Nat.le_of_ble_eq_true rfl, Nat.le_of_ble_eq_true rfl⟩) (zc_preV hbase hK hN hQ hG hS ho3 rfl) rfl rfl hl.1 rfl (lv_room (Nat.le_of_ble_eq_true rfl)) d_Zo_thereCount_52 ⟨(by decide), (by decide)⟩) hS (fun r52 G52 H locs hp52 hG hS => ?_)
        have hG : zP E G H := hp52.2 ▸ hG
        refine zi_as (y := nI (zshr (oM (oe os i)) (oM (oe os (i - 1))))) hp52.1 ?_
        refine lv_isub hx hb d_Zo_thereCount_55 ?_
        refine zi_as (y := nI ((oM (oe os i)).length - (zshr (oM (oe os i)) (oM (oe os (i - 1)))))) (zi_sub (a := (oM (oe os i)).length) (b := zshr (oM (oe os i)) (oM (oe os (i - 1)))) (by omega)) ?_
        refine lv_iadd hx hb d_Zo_thereCount_56 ?_
        refine zi_as (y := nI (kt + ((oM (oe os i)).length - (zshr (oM (oe os i)) (oM (oe os (i - 1))))))) (nI_add kt ((oM (oe os i)).length - (zshr (oM (oe os i)) (oM (oe os (i - 1)))))) ?_
        refine lv_istore_n (lv' := [(1, .int (nI (kt + ((oM (oe os i)).length - (zshr (oM (oe os i)) (oM (oe os (i - 1)))))))), (3, .ref (oN (oe os i))), (0, .ref a), (2, .int (nI i))]) hx hb d_Zo_thereCount_57 rfl hl (by decide) rfl (fun ls hl => ?_)
        refine lv_iinc (v := nI (i + 1)) (lv' := [(2, .int (nI (i + 1))), (1, .int (nI (kt + ((oM (oe os i)).length - (zshr (oM (oe os i)) (oM (oe os (i - 1)))))))), (3, .ref (oN (oe os i))), (0, .ref a)]) hx hb d_Zo_thereCount_58 hl (k := 3) rfl (nI_add i 1) (by decide) rfl (fun ls hl => ?_)
        refine lv_goto (tgt := 4) hx hb d_Zo_thereCount_61 (by decide) ?_
        exact ih (i + 1) (kt + ((oM (oe os i)).length - (zshr (oM (oe os i)) (oM (oe os (i - 1)))))) _ _ (by omega) (by omega) (by omega) (by rw [hkt]; exact (zth_s (by omega)).symm) hG hS ls (lv_sub hl [3, 1, 0] rfl)
  exact loop4 _ 1 1 _ _ (Nat.lt_succ_self _) (by omega) (Nat.le_refl _) (rfl) hG hS ls (lv_sub hl [2, 1, 0] rfl)
