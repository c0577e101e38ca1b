theorem zd_lt {z : Int} (h1 : -1000 < z) (h2 : z < 1000) : zd z < 0 ↔ z < 0 := by
  have e : (zd z).toInt = z := Int32.toInt_ofInt_of_le (by omega) (by omega)
  rw [Int32.lt_iff_toInt_lt, e]
  rfl
theorem nk_d_bd {A : nk_K} : ∀ {B : nk_K}, (∀ a ∈ A, a.length ≤ 63 ∧ ∀ j, a.getD j 0 < 256) → (∀ a ∈ B, a.length ≤ 63 ∧ ∀ j, a.getD j 0 < 256) → A.length ≤ 127 → B.length ≤ 127 → -1000 < nk_d A B ∧ nk_d A B < 1000 := by
  induction A with
  | nil =>
    intro B h1 h2 h3 h4
    cases B with
    | nil => exact ⟨by decide, by decide⟩
    | cons b y => show -1000 < -((b :: y).length : Int) ∧ -((b :: y).length : Int) < 1000; omega
  | cons a A ih =>
    intro B h1 h2 h3 h4
    cases B with
    | nil => show -1000 < ((a :: A).length : Int) ∧ ((a :: A).length : Int) < 1000; omega
    | cons b B =>
      have q1 := h1 a List.mem_cons_self
      have q2 := h2 b List.mem_cons_self
      unfold nk_d
      split
      · exact ih (fun j hj => h1 j (List.mem_cons_of_mem _ hj)) (fun j hj => h2 j (List.mem_cons_of_mem _ hj)) (by simp at h3; omega) (by simp at h4; omega)
      · exact nk_l_bd q1.2 q2.2 q1.1 q2.1
theorem zky_el {x : np_N} (hx : np_g x) : ∀ a ∈ zky x, a.length ≤ 63 ∧ ∀ j, a.getD j 0 < 256 := by
  intro a ha
  obtain ⟨l, hl, rfl⟩ := List.mem_map.mp ha
  refine ⟨by rw [List.length_map]; exact (hx.1 l (List.mem_reverse.mp hl)).2, fun j => ?_⟩
  rw [List.getD_eq_getElem?_getD, List.getElem?_map]
  cases l[j]? with
  | none => decide
  | some v =>
    show (v &&& 255).toNatClampNeg < 256
    rw [pk_and v 8 (by decide), nI_clamp (by omega)]
    omega
theorem zky_bd {x y : np_N} (hx : np_g x) (hy : np_g y) : -1000 < nk_d (zky x) (zky y) ∧ nk_d (zky x) (zky y) < 1000 := nk_d_bd (zky_el hx) (zky_el hy) (by rw [zky_len]; exact hx.count) (by rw [zky_len]; exact hy.count)
theorem w_178 : (.methodLink "ZoneAnswers$Zone" 88 ⟨"ZoneAnswers$Name", "order", "(LZoneAnswers$Name;)I"⟩ : Cond) ∈ zw := zw_at 178 (by decide +kernel) (by decide +kernel)
theorem w_179 : (.instanceMethod ⟨"ZoneAnswers$Name", "order", "(LZoneAnswers$Name;)I"⟩ : Cond) ∈ zw := zw_at 179 (by decide +kernel) (by decide +kernel)
theorem w_180 : (.selects "ZoneAnswers$Name" ⟨"ZoneAnswers$Name", "order", "(LZoneAnswers$Name;)I"⟩ ⟨"ZoneAnswers$Name", "order", "(LZoneAnswers$Name;)I"⟩ : Cond) ∈ zw := zw_at 180 (by decide +kernel) (by decide +kernel)
theorem w_181 : (.code ⟨"ZoneAnswers$Name", "order", "(LZoneAnswers$Name;)I"⟩ prog_4_method_7_code 12 (some .int) : Cond) ∈ zw := zw_at 181 (by decide +kernel) (by decide +kernel)
abbrev c_Zo_place : ByteArray := prog_10_method_8_code
abbrev y_Zo_place : MethodName := ⟨"ZoneAnswers$Zone", "place", "(LZoneAnswers$Name;)I"⟩
theorem d_Zo_place_0 : decode c_Zo_place 0 = .ok (.iconst 0, 1) := by decide +kernel
theorem d_Zo_place_1 : decode c_Zo_place 1 = .ok (.istore_n 2, 1) := by decide +kernel
theorem d_Zo_place_2 : decode c_Zo_place 2 = .ok (.aload_n 0, 1) := by decide +kernel
theorem d_Zo_place_3 : decode c_Zo_place 3 = .ok (.getfield 12, 3) := by decide +kernel
theorem d_Zo_place_6 : decode c_Zo_place 6 = .ok (.invokevirtual 75, 3) := by decide +kernel
theorem d_Zo_place_9 : decode c_Zo_place 9 = .ok (.istore_n 3, 1) := by decide +kernel
theorem d_Zo_place_10 : decode c_Zo_place 10 = .ok (.iload_n 2, 1) := by decide +kernel
theorem d_Zo_place_11 : decode c_Zo_place 11 = .ok (.iload_n 3, 1) := by decide +kernel
theorem d_Zo_place_12 : decode c_Zo_place 12 = .ok (.if_icmp .ge 46, 3) := by decide +kernel
theorem d_Zo_place_15 : decode c_Zo_place 15 = .ok (.iload_n 2, 1) := by decide +kernel
theorem d_Zo_place_16 : decode c_Zo_place 16 = .ok (.iload_n 3, 1) := by decide +kernel
theorem d_Zo_place_17 : decode c_Zo_place 17 = .ok (.iadd, 1) := by decide +kernel
theorem d_Zo_place_18 : decode c_Zo_place 18 = .ok (.iconst 2, 1) := by decide +kernel
theorem d_Zo_place_19 : decode c_Zo_place 19 = .ok (.idiv, 1) := by decide +kernel
theorem d_Zo_place_20 : decode c_Zo_place 20 = .ok (.istore 4, 2) := by decide +kernel
theorem d_Zo_place_22 : decode c_Zo_place 22 = .ok (.aload_n 0, 1) := by decide +kernel
theorem d_Zo_place_23 : decode c_Zo_place 23 = .ok (.getfield 12, 3) := by decide +kernel
theorem d_Zo_place_26 : decode c_Zo_place 26 = .ok (.iload 4, 2) := by decide +kernel
theorem d_Zo_place_28 : decode c_Zo_place 28 = .ok (.invokevirtual 79, 3) := by decide +kernel
theorem d_Zo_place_31 : decode c_Zo_place 31 = .ok (.checkcast 83, 3) := by decide +kernel
theorem d_Zo_place_34 : decode c_Zo_place 34 = .ok (.getfield 85, 3) := by decide +kernel
theorem d_Zo_place_37 : decode c_Zo_place 37 = .ok (.aload_n 1, 1) := by decide +kernel
theorem d_Zo_place_38 : decode c_Zo_place 38 = .ok (.invokevirtual 88, 3) := by decide +kernel
theorem d_Zo_place_41 : decode c_Zo_place 41 = .ok (.ifCond .ge 11, 3) := by decide +kernel
theorem d_Zo_place_44 : decode c_Zo_place 44 = .ok (.iload 4, 2) := by decide +kernel
theorem d_Zo_place_46 : decode c_Zo_place 46 = .ok (.iconst 1, 1) := by decide +kernel
theorem d_Zo_place_47 : decode c_Zo_place 47 = .ok (.iadd, 1) := by decide +kernel
theorem d_Zo_place_48 : decode c_Zo_place 48 = .ok (.istore_n 2, 1) := by decide +kernel
theorem d_Zo_place_49 : decode c_Zo_place 49 = .ok (.goto 6, 3) := by decide +kernel
theorem d_Zo_place_52 : decode c_Zo_place 52 = .ok (.iload 4, 2) := by decide +kernel
theorem d_Zo_place_54 : decode c_Zo_place 54 = .ok (.istore_n 3, 1) := by decide +kernel
theorem d_Zo_place_55 : decode c_Zo_place 55 = .ok (.goto (-45), 3) := by decide +kernel
theorem d_Zo_place_58 : decode c_Zo_place 58 = .ok (.iload_n 2, 1) := by decide +kernel
theorem d_Zo_place_59 : decode c_Zo_place 59 = .ok (.ireturn, 1) := by decide +kernel
abbrev rm_Zo_place : Room := { frames := 3, cells := 0, slots := 0, locals := 100 }
set_option maxHeartbeats 4000000 in
set_option maxRecDepth 100000 in
/-- Zone.place(name) -/
theorem t_Zo_place (l : Launch) (E : zc_E) (G : zg_G) (a la tn st sd : Nat) (rc : Int32) (ha : G a = some (.inr (9, [.ref la, .ref tn, .ref st, .ref sd, .int rc]))) (dd n cap : Nat) (k : Int32) (f : Nat → Option Nat) (hla : G la = some (.inr (0, [.ref dd, .int (nI n), .int k]))) (hd : G dd = some (.inl (E.2.1 3, cap, .inr (.inr (.inr (.inr f)))))) (hc : n ≤ cap) (hz : cap < 2 ^ 24) (ow na se bt : Nat → Nat) (cu : Nat → Option Nat) (nm : Nat → np_N) (nf : Nat → Nat → Int32) (how : ∀ i, i < n → f i = some (ow i) ∧ G (ow i) = some (.inr (4, [.ref (na i), .ref (se i), va_rf (cu i)])) ∧ G (na i) = some (.inr (3, [.ref (bt i), .int (nI (nm i).length)])) ∧ G (bt i) = some (.inl (E.2.1 0, np_len (nm i), .inl (nf i))) ∧ np_f (nm i) (nf i) ∧ np_g (nm i) ∧ sb_Fit (nf i)) (hso : ∀ i j, i < j → j < n → nk_d (zky (nm i)) (zky (nm j)) < 0) (a1 b1 : Nat) (ls1 : np_N) (f1 : Nat → Int32) (ha1 : G a1 = some (.inr (3, [.ref b1, .int (nI ls1.length)]))) (hb1 : G b1 = some (.inl (E.2.1 0, np_len ls1, .inl f1))) (hf1 : np_f ls1 f1) (hg1 : np_g ls1) (hft1 : sb_Fit f1) : zMi l E y_Zo_place c_Zo_place 5 (some .int) rm_Zo_place [.ref a, .ref a1] G (fun (r : Int32) (G2 : zg_G) => (∃ k, r = nI k ∧ k ≤ n ∧ (∀ i, i < k → nk_d (zky (nm i)) (zky ls1) < 0) ∧ ∀ i, k ≤ i → i < n → ¬ nk_d (zky (nm i)) (zky ls1) < 0) ∧ G2 = G) := by
  refine zMi.of (by decide) (Nat.le_of_ble_eq_true rfl) ?_
  intro p e s m args below meth c Q hZ hG hret ls hl
  obtain ⟨hx, hb, hr, hts, hown, hlocks, hml, hnm, hbase, hK, hN, hQ⟩ := hZ
  have hl : lv_has ls 5 [(0, .ref a), (1, .ref a1)] := hl
  have hS : zg_S (zc_b E) s.heap s.heap [] := va_S.rf
  refine lv_iconst (v := 0) hx hb d_Zo_place_0 (by decide) ?_
  refine lv_istore_n (lv' := [(2, .int 0), (0, .ref a), (1, .ref a1)]) hx hb d_Zo_place_1 rfl hl (by decide) rfl (fun ls hl => ?_)
  refine lv_aload_n hx hb d_Zo_place_2 rfl (lv_at hl 1 rfl) ?_
  refine zg_get (ci := 9) (C := "ZoneAnswers$Zone") (T := T_Zo) (N := 5) hx hb hts zi_Zo hown hK hG ha rfl 0 (by decide) (hts _ w_91) (fun _ h9 => h9) rfl d_Zo_place_3 ?_
  refine zk_i (va_runV (As := []) (rest := []) ⟨hx, hb, hml, hown, hts⟩ (t_AL_size l E G la (.ref dd) (nI n) k hla) (zcV 0 hts w_159 w_160 w_161 w_6 w_162 (by decide +kernel) ⟨Nat.le_of_ble_eq_true rfl, Nat.le_of_ble_eq_true rfl⟩) (zc_preV hbase hK hN hQ hG hS hla rfl) rfl rfl hl.1 rfl (lv_room (Nat.le_of_ble_eq_true rfl)) d_Zo_place_6 ⟨(by decide), (by decide)⟩) hS (fun r6 G6 H locs hp6 hG hS => ?_)
  have hG : zP E G H := hp6.2 ▸ hG
  refine zi_as (y := nI n) hp6.1 ?_
  refine lv_istore_n (lv' := [(3, .int (nI n)), (2, .int 0), (0, .ref a), (1, .ref a1)]) hx hb d_Zo_place_9 rfl hl (by decide) rfl (fun ls hl => ?_)
  have loop10 : ∀ (N : Nat) (lo : Nat) (up : Nat) (H : Heap) (locs : List Loc), (up - lo) < N → (lo ≤ up) → (up ≤ n) → (∀ i, i < lo → nk_d (zky (nm i)) (zky ls1) < 0) → (∀ i, up ≤ i → i < n → ¬ nk_d (zky (nm i)) (zky ls1) < 0) → zP E G H → zg_S (zc_b E) s.heap H locs → ∀ (ls : Array Slot), lv_has ls 5 [(0, .ref a), (1, .ref a1), (2, .int (nI lo)), (3, .int (nI up))] → W p l e rm_Zo_place s m args below meth c H locs 0 0 Q (F0 m 10 ls []) := by
    intro N
    induction N with
    | zero =>
      intro lo up H locs hlt
      exact absurd hlt (Nat.not_lt_zero _)
    | succ N ih =>
      intro lo up H locs hlt h1 h2 h3 h4 hG hS ls hl
      refine lv_iload_n hx hb d_Zo_place_10 rfl (lv_at hl 2 rfl) ?_
      refine lv_iload_n hx hb d_Zo_place_11 rfl (lv_at hl 3 rfl) ?_
      refine lv_icmp_ge (tgt := 58) hx hb d_Zo_place_12 (by decide) (fun c12 => ?_) (fun c12 => ?_)
      · have b12 : up ≤ lo := (nI_leI (a := up) (b := lo) (by omega) (by omega)).mp c12
        refine lv_iload_n hx hb d_Zo_place_58 rfl (lv_at hl 2 rfl) ?_
        exact hret _ _ _ _ _ _ _ _ _ hr (rfl) (⟨⟨lo, rfl, by omega, h3, fun i h8 h9 => h4 i (by omega) h9⟩, rfl⟩) hG hS (Nat.le_refl _) (Nat.le_refl _) d_Zo_place_59
      · have b12 : ¬ up ≤ lo := fun q => c12 ((nI_leI (a := up) (b := lo) (by omega) (by omega)).mpr q)
        obtain ⟨md, hmd⟩ : ∃ md, md = (lo + up) / 2 := ⟨_, rfl⟩
        have hmi := how md (by omega)
        have hbd := zky_bd hmi.2.2.2.2.2.1 hg1
        refine lv_iload_n hx hb d_Zo_place_15 rfl (lv_at hl 2 rfl) ?_
        refine lv_iload_n hx hb d_Zo_place_16 rfl (lv_at hl 3 rfl) ?_
        refine lv_iadd hx hb d_Zo_place_17 ?_
        refine zi_as (y := nI (lo + up)) (nI_add lo up) ?_
        refine lv_iconst (v := 2) hx hb d_Zo_place_18 (by decide) ?_
        refine lv_idiv hx hb d_Zo_place_19 (by decide) ?_
        refine zi_as (y := nI md) (by rw [hmd]; exact pk_div (a := lo + up) (d := 2) (by omega) (by omega) (by omega)) ?_
        refine lv_istore (lv' := [(4, .int (nI md)), (0, .ref a), (1, .ref a1), (2, .int (nI lo)), (3, .int (nI up))]) hx hb d_Zo_place_20 hl (by decide) rfl (fun ls hl => ?_)
        refine lv_aload_n hx hb d_Zo_place_22 rfl (lv_at hl 1 rfl) ?_
        refine zg_get (ci := 9) (C := "ZoneAnswers$Zone") (T := T_Zo) (N := 5) hx hb hts zi_Zo hown hK hG ha rfl 0 (by decide) (hts _ w_91) (fun _ h9 => h9) rfl d_Zo_place_23 ?_
        refine lv_iload hx hb d_Zo_place_26 (lv_at hl 0 rfl) ?_
        have hGo28 := hG
        refine zk_q (va_runV (As := [.int (nI md)]) (rest := []) ⟨hx, hb, hml, hown, hts⟩ (t_AL_get l E G la dd n cap k f hla hd hc hz md (by omega)) (zcV 1 hts w_163 w_164 w_165 w_6 w_166 (by decide +kernel) ⟨Nat.le_of_ble_eq_true rfl, Nat.le_of_ble_eq_true rfl⟩) (zc_preV hbase hK hN hQ hG hS hla rfl) rfl rfl hl.1 rfl (lv_room (Nat.le_of_ble_eq_true rfl)) d_Zo_place_28 ⟨(by decide), (by decide)⟩) hS (fun r28 G28 H locs hp28 hG hS => ?_)
        have hG : zP E G H := hp28.2 ▸ hG
        refine zr_some (a := ow md) (hp28.1.trans hmi.1) ?_
        refine zg_castY hx hb hown (hts _ w_177) hK hG hmi.2.1 rfl (zN.at hN (w := .castable "ZoneAnswers$Owner" "ZoneAnswers$Owner") (by decide +kernel)) d_Zo_place_31 ?_
        refine zg_get (ci := 4) (C := "ZoneAnswers$Owner") (T := T_Ow) (N := 3) hx hb hts zi_Ow hown hK hG hmi.2.1 rfl 0 (by decide) (hts _ w_206) (fun _ h9 => h9) rfl d_Zo_place_34 ?_
        refine lv_aload_n hx hb d_Zo_place_37 rfl (lv_at hl 2 rfl) ?_
        refine zk_i (va_runV (As := [.ref a1]) (rest := []) ⟨hx, hb, hml, hown, hts⟩ (t_Na_order l E G (na md) (bt md) (nm md) (nf md) hmi.2.2.1 hmi.2.2.2.1 hmi.2.2.2.2.1 hmi.2.2.2.2.2.1 hmi.2.2.2.2.2.2 a1 b1 ls1 f1 ha1 hb1 hf1 hg1 hft1) (zcV 1 hts w_178 w_179 w_180 w_7 w_181 (by decide +kernel) ⟨Nat.le_of_ble_eq_true rfl, Nat.le_of_ble_eq_true rfl⟩) (zc_preV hbase hK hN hQ hG hS hmi.2.2.1 rfl) rfl rfl hl.1 rfl (lv_room (Nat.le_of_ble_eq_true rfl)) d_Zo_place_38 ⟨(by decide), (by decide)⟩) hS (fun r38 G38 H locs hp38 hG hS => ?_)
        have hG : zP E G H := hp38.2 ▸ hG
        refine zi_as (y := zd (nk_d (zky (nm md)) (zky ls1))) hp38.1 ?_
        refine lv_if_ge (tgt := 52) hx hb d_Zo_place_41 (by decide) (fun c41 => ?_) (fun c41 => ?_)
        · have hge : ¬ nk_d (zky (nm md)) (zky ls1) < 0 := fun q => absurd ((zd_lt hbd.1 hbd.2).mpr q) (Int32.not_lt.mpr c41)
          have h4n : ∀ i, md ≤ i → i < n → ¬ nk_d (zky (nm i)) (zky ls1) < 0 := fun i h8 h9 q => by
            rcases Nat.lt_or_ge md i with z | z
            · exact hge (nk_d_tr (hso md i z h9) q)
            · rw [show i = md by omega] at q; exact hge q
          refine lv_iload hx hb d_Zo_place_52 (lv_at hl 0 rfl) ?_
          refine lv_istore_n (lv' := [(3, .int (nI md)), (4, .int (nI md)), (0, .ref a), (1, .ref a1), (2, .int (nI lo))]) hx hb d_Zo_place_54 rfl hl (by decide) rfl (fun ls hl => ?_)
          refine lv_goto (tgt := 10) hx hb d_Zo_place_55 (by decide) ?_
          exact ih lo md _ _ (by omega) (by omega) (by omega) (by first | exact h3 | exact h3n) (by first | exact h4 | exact h4n) hG hS ls (lv_sub hl [2, 3, 4, 0] rfl)
        · have hlt9 : nk_d (zky (nm md)) (zky ls1) < 0 := (zd_lt hbd.1 hbd.2).mp (Int32.not_le.mp c41)
          have h3n : ∀ i, i < md + 1 → nk_d (zky (nm i)) (zky ls1) < 0 := fun i h8 => by
            rcases Nat.lt_or_ge i md with z | z
            · exact nk_d_tr (hso i md z (by omega)) hlt9
            · rw [show i = md by omega]; exact hlt9
          refine lv_iload hx hb d_Zo_place_44 (lv_at hl 0 rfl) ?_
          refine lv_iconst (v := 1) hx hb d_Zo_place_46 (by decide) ?_
          refine lv_iadd hx hb d_Zo_place_47 ?_
          refine zi_as (y := nI (md + 1)) (nI_add md 1) ?_
          refine lv_istore_n (lv' := [(2, .int (nI (md + 1))), (4, .int (nI md)), (0, .ref a), (1, .ref a1), (3, .int (nI up))]) hx hb d_Zo_place_48 rfl hl (by decide) rfl (fun ls hl => ?_)
          refine lv_goto (tgt := 55) hx hb d_Zo_place_49 (by decide) ?_
          refine lv_goto (tgt := 10) hx hb d_Zo_place_55 (by decide) ?_
          exact ih (md + 1) up _ _ (by omega) (by omega) (by omega) (by first | exact h3 | exact h3n) (by first | exact h4 | exact h4n) hG hS ls (lv_sub hl [2, 3, 0, 4] rfl)
  exact loop10 _ 0 n _ _ (Nat.lt_succ_self _) (Nat.zero_le _) (Nat.le_refl _) (fun i h => absurd h (Nat.not_lt_zero i)) (fun i h8 h9 => absurd h9 (Nat.not_lt.mpr h8)) hG hS ls (lv_sub hl [2, 3, 1, 0] rfl)
