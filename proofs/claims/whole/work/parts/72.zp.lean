/-! the reference's records as a list -/
abbrev zRt : Type := Nat × Nat × Nat × Value × np_N × Int32 × Int32 × List Int32
def rA (e : zRt) : Nat := e.1
def rN (e : zRt) : Nat := e.2.1
def rD (e : zRt) : Nat := e.2.2.1
def rV (e : zRt) : Value := e.2.2.2.1
def rM (e : zRt) : np_N := e.2.2.2.2.1
def rT (e : zRt) : Int32 := e.2.2.2.2.2.1
def rU (e : zRt) : Int32 := e.2.2.2.2.2.2.1
def rB (e : zRt) : List Int32 := e.2.2.2.2.2.2.2
def re (rs : List zRt) (i : Nat) : zRt := rs.getD i (0, 0, 0, .null, [], 0, 0, [])
theorem re_at {rs : List zRt} {i : Nat} (h : i < rs.length) : re rs i = rs[i] := by
  unfold re
  rw [List.getD_eq_getElem?_getD, List.getElem?_eq_getElem h]
  rfl
theorem re_mem {rs : List zRt} {i : Nat} (h : i < rs.length) : re rs i ∈ rs := by rw [re_at h]; exact List.getElem_mem h
/-- a record of the reference -/
def zRR (E : zc_E) (G : zg_G) (e : zRt) : Prop := G (rA e) = some (.inr (12, [.ref (rN e), .ref (rD e), rV e, .int (rT e), .int (rU e)])) ∧ (∃ f, G (rN e) = some (.inl (E.2.1 0, np_len (rM e), .inl f)) ∧ np_f (rM e) f ∧ np_g (rM e) ∧ sb_Fit f) ∧ zBy E G (rD e) (rB e)
/-- the reference's row of records -/
def zRS (E : zc_E) (G : zg_G) (m4 : Nat) (rs : List zRt) : Prop := (∃ f, G m4 = some (.inl (E.2.1 4, 2000, .inr (.inr (.inr (.inr f))))) ∧ ∀ i, i < rs.length → f i = some (rA (re rs i))) ∧ rs.length ≤ 2000 ∧ ∀ e ∈ rs, zRR E G e
theorem zsm_n {x y : np_N} {f g : Nat → Int32} (hx : np_f x f) (hy : np_f y g) (gx : np_g x) (gy : np_g y) : (np_len x = np_len y ∧ ∀ j, j < np_len x → f j = g j) ↔ x = y := by
  constructor
  · rintro ⟨h1, h2⟩
    refine np_f_un gx.1 gy.1 hx (fun j hj => ?_)
    rw [h2 j (by omega)]
    exact hy j hj
  · rintro rfl
    exact ⟨rfl, fun j hj => by rw [hx j hj, hy j hj]⟩
theorem zsm_d {x y : List Int32} {f g : Nat → Int32} (hx : ∀ j, j < x.length → f j = x.getD j 0) (hy : ∀ j, j < y.length → g j = y.getD j 0) : (x.length = y.length ∧ ∀ j, j < x.length → f j = g j) ↔ x = y := by
  constructor
  · rintro ⟨h1, h2⟩
    refine List.ext_getElem h1 fun j j1 j2 => ?_
    have q1 := hx j j1
    have q2 := hy j j2
    rw [List.getD_eq_getElem?_getD, List.getElem?_eq_getElem j1] at q1
    rw [List.getD_eq_getElem?_getD, List.getElem?_eq_getElem j2] at q2
    have := h2 j j1
    rw [q1, q2] at this
    exact this
  · rintro rfl
    exact ⟨rfl, fun j hj => by rw [hx j hj, hy j hj]⟩
theorem zsm_e {x y : np_N} {f g : Nat → Int32} {k : Nat} (hx : np_f x f) (hy : np_f y g) (gx : np_g x) (gy : np_g y) (hk : k ≤ y.length) : (np_len x - 0 = np_len y - np_pos y k ∧ ∀ j, j < np_len y - np_pos y k → f (0 + j) = g (np_pos y k + j)) ↔ x = y.drop k := by
  have e : np_len (y.drop k) = np_len y - np_pos y k := by
    rw [← np_enc_len, ← np_drop y k hk, List.length_drop, np_enc_len]
  have hd : np_f (y.drop k) (fun j => g (np_pos y k + j)) := hy.drop hk
  have gd : np_g (y.drop k) := ⟨fun l hl => gy.1 l (List.mem_of_mem_drop hl), by rw [e]; have := gy.2; omega⟩
  rw [← zsm_n hx hd gx gd, e]
  constructor
  · rintro ⟨h1, h2⟩
    exact ⟨by omega, fun j hj => by have := h2 j (by omega); rw [Nat.zero_add] at this; exact this⟩
  · rintro ⟨h1, h2⟩
    exact ⟨by omega, fun j hj => by rw [Nat.zero_add]; exact h2 j (by omega)⟩
theorem re_ex {rs : List zRt} {P : zRt → Prop} {i : Nat} (h : i = rs.length) (hq : ∀ j, j < i → ¬ P (re rs j)) : ¬ ∃ e ∈ rs, P e := by
  rintro ⟨e, he, hp⟩
  obtain ⟨j, hj, rfl⟩ := List.getElem_of_mem he
  exact hq j (by omega) (by rw [re_at hj]; exact hp)
theorem re_step {rs : List zRt} {P : zRt → Prop} {i : Nat} (h : ∀ j, j < i → ¬ P (re rs j)) (hi : ¬ P (re rs i)) : ∀ j, j < i + 1 → ¬ P (re rs j) := by
  intro j hj
  rcases Nat.lt_or_ge j i with q | q
  · exact h j q
  · rw [show j = i by omega]; exact hi
theorem zsm_e2 {x y : np_N} {f g : Nat → Int32} {k : Nat} (hx : np_f x f) (hy : np_f y g) (gx : np_g x) (gy : np_g y) (hk : k ≤ y.length) : (np_len y - np_pos y k = np_len x - 0 ∧ ∀ j, j < np_len x - 0 → g (np_pos y k + j) = f (0 + j)) ↔ y.drop k = x := by
  have h := zsm_e hx hy gx gy hk
  constructor
  · rintro ⟨h1, h2⟩
    exact (h.mp ⟨h1.symm, fun j hj => (h2 j (by omega)).symm⟩).symm
  · intro e
    obtain ⟨h1, h2⟩ := h.mpr e.symm
    exact ⟨h1.symm, fun j hj => (h2 j (by omega)).symm⟩
/-- how many of the first i records are of that type and name -/
def zct (rs : List zRt) (t : Int32) (x : np_N) (i : Nat) : Nat := ((rs.take i).filter (fun e => decide (rT e = t ∧ rM e = x))).length
theorem zct_y {rs : List zRt} {t : Int32} {x : np_N} {i : Nat} (hi : i < rs.length) (h : rT (re rs i) = t ∧ rM (re rs i) = x) : zct rs t x (i + 1) = zct rs t x i + 1 := by
  unfold zct
  rw [List.take_add_one, List.getElem?_eq_getElem hi, List.filter_append, List.length_append, ← re_at hi]
  simp [h]
theorem zct_n {rs : List zRt} {t : Int32} {x : np_N} {i : Nat} (hi : i < rs.length) (h : ¬ (rT (re rs i) = t ∧ rM (re rs i) = x)) : zct rs t x (i + 1) = zct rs t x i := by
  unfold zct
  rw [List.take_add_one, List.getElem?_eq_getElem hi, List.filter_append, List.length_append, ← re_at hi]
  simp [h]
theorem zct_le {rs : List zRt} {t : Int32} {x : np_N} {i : Nat} : zct rs t x i ≤ rs.length := by
  unfold zct
  refine Nat.le_trans (List.length_filter_le _ _) ?_
  rw [List.length_take]
  omega
/-- a cut -/
def zcut (lo : np_N) (rs : List zRt) (x : np_N) : Prop := ¬ x = lo ∧ ∃ e ∈ rs, rT e = 2 ∧ rM e = x
/-- a name below a cut -/
def zaway (lo : np_N) (rs : List zRt) (x : np_N) : Prop := ∃ k, lo.length < k ∧ k < x.length ∧ zcut lo rs (x.drop (x.length - k))
theorem np_pos_z {x : np_N} {k : Nat} (hk : k ≤ x.length) : np_pos x (x.length - k) = 0 ↔ k = x.length := by
  constructor
  · intro h
    rcases Nat.lt_or_ge k x.length with q | q
    · have h1 := np_pos_succ x (x.length - k - 1) (by omega)
      rw [show x.length - k - 1 + 1 = x.length - k by omega] at h1
      omega
    · omega
  · intro h
    rw [h, Nat.sub_self, np_pos0]
theorem w_1392 : (.methodLink "ZoneAnswersModel" 84 ⟨"ZoneAnswersModel$Names", "below", "([B[B)Z"⟩ : Cond) ∈ zw := zw_at 1392 (by decide +kernel) (by decide +kernel)
theorem w_1393 : (.static ⟨"ZoneAnswersModel$Names", "below", "([B[B)Z"⟩ : Cond) ∈ zw := zw_at 1393 (by decide +kernel) (by decide +kernel)
theorem w_1394 : (.code ⟨"ZoneAnswersModel$Names", "below", "([B[B)Z"⟩ prog_13_method_10_code 2 (some .boolean) : Cond) ∈ zw := zw_at 1394 (by decide +kernel) (by decide +kernel)
theorem w_1405 : (.methodLink "ZoneAnswersModel" 80 ⟨"ZoneAnswersModel$Names", "same", "([B[B)Z"⟩ : Cond) ∈ zw := zw_at 1405 (by decide +kernel) (by decide +kernel)
theorem w_1406 : (.static ⟨"ZoneAnswersModel$Names", "same", "([B[B)Z"⟩ : Cond) ∈ zw := zw_at 1406 (by decide +kernel) (by decide +kernel)
theorem w_1407 : (.code ⟨"ZoneAnswersModel$Names", "same", "([B[B)Z"⟩ prog_13_method_5_code 3 (some .boolean) : Cond) ∈ zw := zw_at 1407 (by decide +kernel) (by decide +kernel)
theorem w_1408 : (.methodLink "ZoneAnswersModel" 90 ⟨"ZoneAnswersModel", "has", "([BII)Z"⟩ : Cond) ∈ zw := zw_at 1408 (by decide +kernel) (by decide +kernel)
theorem w_1410 : (.instanceMethod ⟨"ZoneAnswersModel", "has", "([BII)Z"⟩ : Cond) ∈ zw := zw_at 1410 (by decide +kernel) (by decide +kernel)
theorem w_1411 : (.code ⟨"ZoneAnswersModel", "has", "([BII)Z"⟩ prog_12_method_5_code 5 (some .boolean) : Cond) ∈ zw := zw_at 1411 (by decide +kernel) (by decide +kernel)
theorem w_1413 : (.methodLink "ZoneAnswersModel" 109 ⟨"ZoneAnswersModel", "any", "([B)Z"⟩ : Cond) ∈ zw := zw_at 1413 (by decide +kernel) (by decide +kernel)
theorem w_1415 : (.instanceMethod ⟨"ZoneAnswersModel", "any", "([B)Z"⟩ : Cond) ∈ zw := zw_at 1415 (by decide +kernel) (by decide +kernel)
theorem w_1416 : (.code ⟨"ZoneAnswersModel", "any", "([B)Z"⟩ prog_12_method_6_code 3 (some .boolean) : Cond) ∈ zw := zw_at 1416 (by decide +kernel) (by decide +kernel)
theorem w_1463 : (.methodLink "ZoneAnswersModel" 98 ⟨"ZoneAnswersModel$Names", "place", "([BI)I"⟩ : Cond) ∈ zw := zw_at 1463 (by decide +kernel) (by decide +kernel)
theorem w_1544 : (.methodLink "ZoneAnswersModel" 87 ⟨"ZoneAnswersModel$Names", "below", "([B[BI)Z"⟩ : Cond) ∈ zw := zw_at 1544 (by decide +kernel) (by decide +kernel)
theorem wp_30 : (.selects "ZoneAnswersModel" ⟨"ZoneAnswersModel", "has", "([BII)Z"⟩ ⟨"ZoneAnswersModel", "has", "([BII)Z"⟩ : Cond) ∈ zw := zw_pv 30 (y := ⟨"ZoneAnswersModel", "has", "([BII)Z"⟩) rfl (by decide +kernel)
theorem wp_31 : (.selects "ZoneAnswersModel" ⟨"ZoneAnswersModel", "any", "([B)Z"⟩ ⟨"ZoneAnswersModel", "any", "([B)Z"⟩ : Cond) ∈ zw := zw_pv 31 (y := ⟨"ZoneAnswersModel", "any", "([B)Z"⟩) rfl (by decide +kernel)
abbrev c_Mo_any : ByteArray := prog_12_method_6_code
abbrev y_Mo_any : MethodName := ⟨"ZoneAnswersModel", "any", "([B)Z"⟩
theorem d_Mo_any_0 : decode c_Mo_any 0 = .ok (.iconst 0, 1) := by decide +kernel
theorem d_Mo_any_1 : decode c_Mo_any 1 = .ok (.istore_n 2, 1) := by decide +kernel
theorem d_Mo_any_2 : decode c_Mo_any 2 = .ok (.iload_n 2, 1) := by decide +kernel
theorem d_Mo_any_3 : decode c_Mo_any 3 = .ok (.aload_n 0, 1) := by decide +kernel
theorem d_Mo_any_4 : decode c_Mo_any 4 = .ok (.getfield 61, 3) := by decide +kernel
theorem d_Mo_any_7 : decode c_Mo_any 7 = .ok (.if_icmp .ge 27, 3) := by decide +kernel
theorem d_Mo_any_10 : decode c_Mo_any 10 = .ok (.aload_n 0, 1) := by decide +kernel
theorem d_Mo_any_11 : decode c_Mo_any 11 = .ok (.getfield 19, 3) := by decide +kernel
theorem d_Mo_any_14 : decode c_Mo_any 14 = .ok (.iload_n 2, 1) := by decide +kernel
theorem d_Mo_any_15 : decode c_Mo_any 15 = .ok (.aaload, 1) := by decide +kernel
theorem d_Mo_any_16 : decode c_Mo_any 16 = .ok (.getfield 65, 3) := by decide +kernel
theorem d_Mo_any_19 : decode c_Mo_any 19 = .ok (.aload_n 1, 1) := by decide +kernel
theorem d_Mo_any_20 : decode c_Mo_any 20 = .ok (.invokestatic 80, 3) := by decide +kernel
theorem d_Mo_any_23 : decode c_Mo_any 23 = .ok (.ifCond .eq 5, 3) := by decide +kernel
theorem d_Mo_any_26 : decode c_Mo_any 26 = .ok (.iconst 1, 1) := by decide +kernel
theorem d_Mo_any_27 : decode c_Mo_any 27 = .ok (.ireturn, 1) := by decide +kernel
theorem d_Mo_any_28 : decode c_Mo_any 28 = .ok (.iinc 2 1, 3) := by decide +kernel
theorem d_Mo_any_31 : decode c_Mo_any 31 = .ok (.goto (-29), 3) := by decide +kernel
theorem d_Mo_any_34 : decode c_Mo_any 34 = .ok (.iconst 0, 1) := by decide +kernel
theorem d_Mo_any_35 : decode c_Mo_any 35 = .ok (.ireturn, 1) := by decide +kernel
abbrev c_Mo_has : ByteArray := prog_12_method_5_code
abbrev y_Mo_has : MethodName := ⟨"ZoneAnswersModel", "has", "([BII)Z"⟩
theorem d_Mo_has_0 : decode c_Mo_has 0 = .ok (.iconst 0, 1) := by decide +kernel
theorem d_Mo_has_1 : decode c_Mo_has 1 = .ok (.istore 4, 2) := by decide +kernel
theorem d_Mo_has_3 : decode c_Mo_has 3 = .ok (.iload 4, 2) := by decide +kernel
theorem d_Mo_has_5 : decode c_Mo_has 5 = .ok (.aload_n 0, 1) := by decide +kernel
theorem d_Mo_has_6 : decode c_Mo_has 6 = .ok (.getfield 61, 3) := by decide +kernel
theorem d_Mo_has_9 : decode c_Mo_has 9 = .ok (.if_icmp .ge 44, 3) := by decide +kernel
theorem d_Mo_has_12 : decode c_Mo_has 12 = .ok (.aload_n 0, 1) := by decide +kernel
theorem d_Mo_has_13 : decode c_Mo_has 13 = .ok (.getfield 19, 3) := by decide +kernel
theorem d_Mo_has_16 : decode c_Mo_has 16 = .ok (.iload 4, 2) := by decide +kernel
theorem d_Mo_has_18 : decode c_Mo_has 18 = .ok (.aaload, 1) := by decide +kernel
theorem d_Mo_has_19 : decode c_Mo_has 19 = .ok (.getfield 67, 3) := by decide +kernel
theorem d_Mo_has_22 : decode c_Mo_has 22 = .ok (.iload_n 3, 1) := by decide +kernel
theorem d_Mo_has_23 : decode c_Mo_has 23 = .ok (.if_icmp .ne 24, 3) := by decide +kernel
theorem d_Mo_has_26 : decode c_Mo_has 26 = .ok (.aload_n 0, 1) := by decide +kernel
theorem d_Mo_has_27 : decode c_Mo_has 27 = .ok (.getfield 19, 3) := by decide +kernel
theorem d_Mo_has_30 : decode c_Mo_has 30 = .ok (.iload 4, 2) := by decide +kernel
theorem d_Mo_has_32 : decode c_Mo_has 32 = .ok (.aaload, 1) := by decide +kernel
theorem d_Mo_has_33 : decode c_Mo_has 33 = .ok (.getfield 65, 3) := by decide +kernel
theorem d_Mo_has_36 : decode c_Mo_has 36 = .ok (.iconst 0, 1) := by decide +kernel
theorem d_Mo_has_37 : decode c_Mo_has 37 = .ok (.aload_n 1, 1) := by decide +kernel
theorem d_Mo_has_38 : decode c_Mo_has 38 = .ok (.iload_n 2, 1) := by decide +kernel
theorem d_Mo_has_39 : decode c_Mo_has 39 = .ok (.invokestatic 74, 3) := by decide +kernel
theorem d_Mo_has_42 : decode c_Mo_has 42 = .ok (.ifCond .eq 5, 3) := by decide +kernel
theorem d_Mo_has_45 : decode c_Mo_has 45 = .ok (.iconst 1, 1) := by decide +kernel
theorem d_Mo_has_46 : decode c_Mo_has 46 = .ok (.ireturn, 1) := by decide +kernel
theorem d_Mo_has_47 : decode c_Mo_has 47 = .ok (.iinc 4 1, 3) := by decide +kernel
theorem d_Mo_has_50 : decode c_Mo_has 50 = .ok (.goto (-47), 3) := by decide +kernel
theorem d_Mo_has_53 : decode c_Mo_has 53 = .ok (.iconst 0, 1) := by decide +kernel
theorem d_Mo_has_54 : decode c_Mo_has 54 = .ok (.ireturn, 1) := by decide +kernel
abbrev c_Mo_find : ByteArray := prog_12_method_40_code
abbrev y_Mo_find : MethodName := ⟨"ZoneAnswersModel", "find", "([BI[B)I"⟩
theorem d_Mo_find_0 : decode c_Mo_find 0 = .ok (.iconst 0, 1) := by decide +kernel
theorem d_Mo_find_1 : decode c_Mo_find 1 = .ok (.istore 4, 2) := by decide +kernel
theorem d_Mo_find_3 : decode c_Mo_find 3 = .ok (.iload 4, 2) := by decide +kernel
theorem d_Mo_find_5 : decode c_Mo_find 5 = .ok (.aload_n 0, 1) := by decide +kernel
theorem d_Mo_find_6 : decode c_Mo_find 6 = .ok (.getfield 61, 3) := by decide +kernel
theorem d_Mo_find_9 : decode c_Mo_find 9 = .ok (.if_icmp .ge 60, 3) := by decide +kernel
theorem d_Mo_find_12 : decode c_Mo_find 12 = .ok (.aload_n 0, 1) := by decide +kernel
theorem d_Mo_find_13 : decode c_Mo_find 13 = .ok (.getfield 19, 3) := by decide +kernel
theorem d_Mo_find_16 : decode c_Mo_find 16 = .ok (.iload 4, 2) := by decide +kernel
theorem d_Mo_find_18 : decode c_Mo_find 18 = .ok (.aaload, 1) := by decide +kernel
theorem d_Mo_find_19 : decode c_Mo_find 19 = .ok (.getfield 67, 3) := by decide +kernel
theorem d_Mo_find_22 : decode c_Mo_find 22 = .ok (.iload_n 2, 1) := by decide +kernel
theorem d_Mo_find_23 : decode c_Mo_find 23 = .ok (.if_icmp .ne 40, 3) := by decide +kernel
theorem d_Mo_find_26 : decode c_Mo_find 26 = .ok (.aload_n 0, 1) := by decide +kernel
theorem d_Mo_find_27 : decode c_Mo_find 27 = .ok (.getfield 19, 3) := by decide +kernel
theorem d_Mo_find_30 : decode c_Mo_find 30 = .ok (.iload 4, 2) := by decide +kernel
theorem d_Mo_find_32 : decode c_Mo_find 32 = .ok (.aaload, 1) := by decide +kernel
theorem d_Mo_find_33 : decode c_Mo_find 33 = .ok (.getfield 65, 3) := by decide +kernel
theorem d_Mo_find_36 : decode c_Mo_find 36 = .ok (.aload_n 1, 1) := by decide +kernel
theorem d_Mo_find_37 : decode c_Mo_find 37 = .ok (.invokestatic 80, 3) := by decide +kernel
theorem d_Mo_find_40 : decode c_Mo_find 40 = .ok (.ifCond .eq 23, 3) := by decide +kernel
theorem d_Mo_find_43 : decode c_Mo_find 43 = .ok (.aload_n 0, 1) := by decide +kernel
theorem d_Mo_find_44 : decode c_Mo_find 44 = .ok (.getfield 19, 3) := by decide +kernel
theorem d_Mo_find_47 : decode c_Mo_find 47 = .ok (.iload 4, 2) := by decide +kernel
theorem d_Mo_find_49 : decode c_Mo_find 49 = .ok (.aaload, 1) := by decide +kernel
theorem d_Mo_find_50 : decode c_Mo_find 50 = .ok (.getfield 71, 3) := by decide +kernel
theorem d_Mo_find_53 : decode c_Mo_find 53 = .ok (.aload_n 3, 1) := by decide +kernel
theorem d_Mo_find_54 : decode c_Mo_find 54 = .ok (.invokestatic 80, 3) := by decide +kernel
theorem d_Mo_find_57 : decode c_Mo_find 57 = .ok (.ifCond .eq 6, 3) := by decide +kernel
theorem d_Mo_find_60 : decode c_Mo_find 60 = .ok (.iload 4, 2) := by decide +kernel
theorem d_Mo_find_62 : decode c_Mo_find 62 = .ok (.ireturn, 1) := by decide +kernel
theorem d_Mo_find_63 : decode c_Mo_find 63 = .ok (.iinc 4 1, 3) := by decide +kernel
theorem d_Mo_find_66 : decode c_Mo_find 66 = .ok (.goto (-63), 3) := by decide +kernel
theorem d_Mo_find_69 : decode c_Mo_find 69 = .ok (.iconst (-1), 1) := by decide +kernel
theorem d_Mo_find_70 : decode c_Mo_find 70 = .ok (.ireturn, 1) := by decide +kernel
abbrev c_Mo_size : ByteArray := prog_12_method_41_code
abbrev y_Mo_size : MethodName := ⟨"ZoneAnswersModel", "size", "([BI)I"⟩
theorem d_Mo_size_0 : decode c_Mo_size 0 = .ok (.iconst 0, 1) := by decide +kernel
theorem d_Mo_size_1 : decode c_Mo_size 1 = .ok (.istore_n 3, 1) := by decide +kernel
theorem d_Mo_size_2 : decode c_Mo_size 2 = .ok (.iconst 0, 1) := by decide +kernel
theorem d_Mo_size_3 : decode c_Mo_size 3 = .ok (.istore 4, 2) := by decide +kernel
theorem d_Mo_size_5 : decode c_Mo_size 5 = .ok (.iload 4, 2) := by decide +kernel
theorem d_Mo_size_7 : decode c_Mo_size 7 = .ok (.aload_n 0, 1) := by decide +kernel
theorem d_Mo_size_8 : decode c_Mo_size 8 = .ok (.getfield 61, 3) := by decide +kernel
theorem d_Mo_size_11 : decode c_Mo_size 11 = .ok (.if_icmp .ge 43, 3) := by decide +kernel
theorem d_Mo_size_14 : decode c_Mo_size 14 = .ok (.aload_n 0, 1) := by decide +kernel
theorem d_Mo_size_15 : decode c_Mo_size 15 = .ok (.getfield 19, 3) := by decide +kernel
theorem d_Mo_size_18 : decode c_Mo_size 18 = .ok (.iload 4, 2) := by decide +kernel
theorem d_Mo_size_20 : decode c_Mo_size 20 = .ok (.aaload, 1) := by decide +kernel
theorem d_Mo_size_21 : decode c_Mo_size 21 = .ok (.getfield 67, 3) := by decide +kernel
theorem d_Mo_size_24 : decode c_Mo_size 24 = .ok (.iload_n 2, 1) := by decide +kernel
theorem d_Mo_size_25 : decode c_Mo_size 25 = .ok (.if_icmp .ne 23, 3) := by decide +kernel
theorem d_Mo_size_28 : decode c_Mo_size 28 = .ok (.aload_n 0, 1) := by decide +kernel
theorem d_Mo_size_29 : decode c_Mo_size 29 = .ok (.getfield 19, 3) := by decide +kernel
theorem d_Mo_size_32 : decode c_Mo_size 32 = .ok (.iload 4, 2) := by decide +kernel
theorem d_Mo_size_34 : decode c_Mo_size 34 = .ok (.aaload, 1) := by decide +kernel
theorem d_Mo_size_35 : decode c_Mo_size 35 = .ok (.getfield 65, 3) := by decide +kernel
theorem d_Mo_size_38 : decode c_Mo_size 38 = .ok (.aload_n 1, 1) := by decide +kernel
theorem d_Mo_size_39 : decode c_Mo_size 39 = .ok (.invokestatic 80, 3) := by decide +kernel
theorem d_Mo_size_42 : decode c_Mo_size 42 = .ok (.ifCond .eq 6, 3) := by decide +kernel
theorem d_Mo_size_45 : decode c_Mo_size 45 = .ok (.iinc 3 1, 3) := by decide +kernel
theorem d_Mo_size_48 : decode c_Mo_size 48 = .ok (.iinc 4 1, 3) := by decide +kernel
theorem d_Mo_size_51 : decode c_Mo_size 51 = .ok (.goto (-46), 3) := by decide +kernel
theorem d_Mo_size_54 : decode c_Mo_size 54 = .ok (.iload_n 3, 1) := by decide +kernel
theorem d_Mo_size_55 : decode c_Mo_size 55 = .ok (.ireturn, 1) := by decide +kernel
abbrev c_Mo_there : ByteArray := prog_12_method_7_code
abbrev y_Mo_there : MethodName := ⟨"ZoneAnswersModel", "there", "([BI)Z"⟩
theorem d_Mo_there_0 : decode c_Mo_there 0 = .ok (.aload_n 1, 1) := by decide +kernel
theorem d_Mo_there_1 : decode c_Mo_there 1 = .ok (.aload_n 0, 1) := by decide +kernel
theorem d_Mo_there_2 : decode c_Mo_there 2 = .ok (.getfield 14, 3) := by decide +kernel
theorem d_Mo_there_5 : decode c_Mo_there 5 = .ok (.invokestatic 84, 3) := by decide +kernel
theorem d_Mo_there_8 : decode c_Mo_there 8 = .ok (.ifCond .eq 15, 3) := by decide +kernel
theorem d_Mo_there_11 : decode c_Mo_there 11 = .ok (.aload_n 1, 1) := by decide +kernel
theorem d_Mo_there_12 : decode c_Mo_there 12 = .ok (.arraylength, 1) := by decide +kernel
theorem d_Mo_there_13 : decode c_Mo_there 13 = .ok (.iload_n 2, 1) := by decide +kernel
theorem d_Mo_there_14 : decode c_Mo_there 14 = .ok (.isub, 1) := by decide +kernel
theorem d_Mo_there_15 : decode c_Mo_there 15 = .ok (.aload_n 0, 1) := by decide +kernel
theorem d_Mo_there_16 : decode c_Mo_there 16 = .ok (.getfield 14, 3) := by decide +kernel
theorem d_Mo_there_19 : decode c_Mo_there 19 = .ok (.arraylength, 1) := by decide +kernel
theorem d_Mo_there_20 : decode c_Mo_there 20 = .ok (.if_icmp .ge 5, 3) := by decide +kernel
theorem d_Mo_there_23 : decode c_Mo_there 23 = .ok (.iconst 0, 1) := by decide +kernel
theorem d_Mo_there_24 : decode c_Mo_there 24 = .ok (.ireturn, 1) := by decide +kernel
theorem d_Mo_there_25 : decode c_Mo_there 25 = .ok (.iconst 0, 1) := by decide +kernel
theorem d_Mo_there_26 : decode c_Mo_there 26 = .ok (.istore_n 3, 1) := by decide +kernel
theorem d_Mo_there_27 : decode c_Mo_there 27 = .ok (.iload_n 3, 1) := by decide +kernel
theorem d_Mo_there_28 : decode c_Mo_there 28 = .ok (.aload_n 0, 1) := by decide +kernel
theorem d_Mo_there_29 : decode c_Mo_there 29 = .ok (.getfield 61, 3) := by decide +kernel
theorem d_Mo_there_32 : decode c_Mo_there 32 = .ok (.if_icmp .ge 28, 3) := by decide +kernel
theorem d_Mo_there_35 : decode c_Mo_there 35 = .ok (.aload_n 0, 1) := by decide +kernel
theorem d_Mo_there_36 : decode c_Mo_there 36 = .ok (.getfield 19, 3) := by decide +kernel
theorem d_Mo_there_39 : decode c_Mo_there 39 = .ok (.iload_n 3, 1) := by decide +kernel
theorem d_Mo_there_40 : decode c_Mo_there 40 = .ok (.aaload, 1) := by decide +kernel
theorem d_Mo_there_41 : decode c_Mo_there 41 = .ok (.getfield 65, 3) := by decide +kernel
theorem d_Mo_there_44 : decode c_Mo_there 44 = .ok (.aload_n 1, 1) := by decide +kernel
theorem d_Mo_there_45 : decode c_Mo_there 45 = .ok (.iload_n 2, 1) := by decide +kernel
theorem d_Mo_there_46 : decode c_Mo_there 46 = .ok (.invokestatic 87, 3) := by decide +kernel
theorem d_Mo_there_49 : decode c_Mo_there 49 = .ok (.ifCond .eq 5, 3) := by decide +kernel
theorem d_Mo_there_52 : decode c_Mo_there 52 = .ok (.iconst 1, 1) := by decide +kernel
theorem d_Mo_there_53 : decode c_Mo_there 53 = .ok (.ireturn, 1) := by decide +kernel
theorem d_Mo_there_54 : decode c_Mo_there 54 = .ok (.iinc 3 1, 3) := by decide +kernel
theorem d_Mo_there_57 : decode c_Mo_there 57 = .ok (.goto (-30), 3) := by decide +kernel
theorem d_Mo_there_60 : decode c_Mo_there 60 = .ok (.iconst 0, 1) := by decide +kernel
theorem d_Mo_there_61 : decode c_Mo_there 61 = .ok (.ireturn, 1) := by decide +kernel
abbrev c_Mo_inChain : ByteArray := prog_12_method_11_code
abbrev y_Mo_inChain : MethodName := ⟨"ZoneAnswersModel", "inChain", "([B)Z"⟩
theorem d_Mo_inChain_0 : decode c_Mo_inChain 0 = .ok (.aload_n 0, 1) := by decide +kernel
theorem d_Mo_inChain_1 : decode c_Mo_inChain 1 = .ok (.aload_n 1, 1) := by decide +kernel
theorem d_Mo_inChain_2 : decode c_Mo_inChain 2 = .ok (.invokevirtual 109, 3) := by decide +kernel
theorem d_Mo_inChain_5 : decode c_Mo_inChain 5 = .ok (.ifCond .eq 15, 3) := by decide +kernel
theorem d_Mo_inChain_8 : decode c_Mo_inChain 8 = .ok (.aload_n 0, 1) := by decide +kernel
theorem d_Mo_inChain_9 : decode c_Mo_inChain 9 = .ok (.aload_n 1, 1) := by decide +kernel
theorem d_Mo_inChain_10 : decode c_Mo_inChain 10 = .ok (.invokevirtual 113, 3) := by decide +kernel
theorem d_Mo_inChain_13 : decode c_Mo_inChain 13 = .ok (.ifCond .ne 7, 3) := by decide +kernel
theorem d_Mo_inChain_16 : decode c_Mo_inChain 16 = .ok (.iconst 1, 1) := by decide +kernel
theorem d_Mo_inChain_17 : decode c_Mo_inChain 17 = .ok (.goto 4, 3) := by decide +kernel
theorem d_Mo_inChain_20 : decode c_Mo_inChain 20 = .ok (.iconst 0, 1) := by decide +kernel
theorem d_Mo_inChain_21 : decode c_Mo_inChain 21 = .ok (.ireturn, 1) := by decide +kernel
abbrev rm_Mo_any : Room := { frames := 2, cells := 0, slots := 0, locals := 40 }
set_option maxHeartbeats 4000000 in
set_option maxRecDepth 100000 in
/-- any(x), of the reference -/
theorem t_Mo_any (l : Launch) (E : zc_E) (G : zg_G) (rs : List zRt) (a m1 m3 m4 m6 m7 m8 m9 m10 m11 m12 m15 m18 : Nat) (th tn m13 m14 m16 m17 : Int32) (m19 m20 : Value) (ha : G a = some (.inr (11, [.int th, .ref m1, .int tn, .ref m3, .ref m4, .int (nI rs.length), .ref m6, .ref m7, .ref m8, .ref m9, .ref m10, .ref m11, .ref m12, .int m13, .int m14, .ref m15, .int m16, .int m17, .ref m18, m19, m20]))) (hRS : zRS E G m4 rs) (b1 : Nat) (ls1 : np_N) (f1 : Nat → Int32) (hb1 : G b1 = some (.inl (E.2.1 0, np_len ls1, .inl f1))) (hf1 : np_f ls1 f1) (hg1 : np_g ls1) : zMi l E y_Mo_any c_Mo_any 3 (some .boolean) rm_Mo_any [.ref a, .ref b1] G (fun (r : Int32) (G2 : zg_G) => zb r (∃ e ∈ rs, rM e = ls1) ∧ G2 = G) := by
  refine zMi.of (by decide) (Nat.le_of_ble_eq_true rfl) ?_
  intro p e s m args below meth c Q hZ hG hret ls hl
  obtain ⟨hx, hb, hr, hts, hown, hlocks, hml, hnm, hbase, hK, hN, hQ⟩ := hZ
  have hl : lv_has ls 3 [(0, .ref a), (1, .ref b1)] := hl
  have hS : zg_S (zc_b E) s.heap s.heap [] := va_S.rf
  obtain ⟨⟨fr, hm4, hfr⟩, hn2, hRs⟩ := id hRS
  have sm1 := hg1.2
  refine lv_iconst (v := 0) hx hb d_Mo_any_0 (by decide) ?_
  refine zi_as (y := nI 0) (nI_0.symm) ?_
  refine lv_istore_n (lv' := [(2, .int (nI 0)), (0, .ref a), (1, .ref b1)]) hx hb d_Mo_any_1 rfl hl (by decide) rfl (fun ls hl => ?_)
  have loop2 : ∀ (N : Nat) (i : Nat) (H : Heap) (locs : List Loc), (rs.length - i) < N → (i ≤ rs.length) → (∀ j, j < i → ¬ (fun e => rM e = ls1) (re rs j)) → zP E G H → zg_S (zc_b E) s.heap H locs → ∀ (ls : Array Slot), lv_has ls 3 [(0, .ref a), (1, .ref b1), (2, .int (nI i))] → W p l e rm_Mo_any s m args below meth c H locs 0 0 Q (F0 m 2 ls []) := by
    intro N
    induction N with
    | zero =>
      intro i H locs hlt
      exact absurd hlt (Nat.not_lt_zero _)
    | succ N ih =>
      intro i H locs hlt hi hq hG hS ls hl
      refine lv_iload_n hx hb d_Mo_any_2 rfl (lv_at hl 2 rfl) ?_
      refine lv_aload_n hx hb d_Mo_any_3 rfl (lv_at hl 0 rfl) ?_
      refine zg_get (ci := 11) (C := "ZoneAnswersModel") (T := T_Mo) (N := 21) hx hb hts zi_Mo hown hK hG ha rfl 5 (by decide) (hts _ w_1286) (fun _ h9 => h9) rfl d_Mo_any_4 ?_
      refine lv_icmp_ge (tgt := 34) hx hb d_Mo_any_7 (by decide) (fun c7 => ?_) (fun c7 => ?_)
      · have b7 : rs.length ≤ i := (nI_leI (a := rs.length) (b := i) (by omega) (by omega)).mp c7
        refine lv_iconst (v := 0) hx hb d_Mo_any_34 (by decide) ?_
        exact hret _ _ _ _ _ _ _ _ _ hr (rfl) (⟨zb.f (re_ex (P := fun e => rM e = ls1) (by omega) hq), rfl⟩) hG hS (Nat.le_refl _) (Nat.le_refl _) d_Mo_any_35
      · have b7 : ¬ rs.length ≤ i := fun q => c7 ((nI_leI (a := rs.length) (b := i) (by omega) (by omega)).mpr q)
        have hin : i < rs.length := by omega
        obtain ⟨hr1, ⟨nf, hr2, hr3, hr4, hr5⟩, df, hr6, hr7, hr8⟩ := hRs _ (re_mem hin)
        have sm := hr4.2
        refine lv_aload_n hx hb d_Mo_any_10 rfl (lv_at hl 0 rfl) ?_
        refine zg_get (ci := 11) (C := "ZoneAnswersModel") (T := T_Mo) (N := 21) hx hb hts zi_Mo hown hK hG ha rfl 4 (by decide) (hts _ w_1285) (fun _ h9 => h9) rfl d_Mo_any_11 ?_
        refine lv_iload_n hx hb d_Mo_any_14 rfl (lv_at hl 2 rfl) ?_
        refine zg_aldq hx hb hK hG 4 hm4 rfl (vp_in_nI (by omega) (by omega)) d_Mo_any_15 ?_
        refine zr_as (y := fr i) (by rw [zi_n _ (by omega)]) ?_
        refine zr_some (a := rA (re rs i)) (hfr i hin) ?_
        refine zg_get (ci := 12) (C := "ZoneAnswersModel$Rec") (T := T_Re) (N := 5) hx hb hts zi_Re hown hK hG hr1 rfl 0 (by decide) (hts _ w_1265) (fun _ h9 => h9) rfl d_Mo_any_16 ?_
        refine lv_aload_n hx hb d_Mo_any_19 rfl (lv_at hl 1 rfl) ?_
        refine zk_i (va_runS (As := [.ref (rN (re rs i)), .ref b1]) (rest := []) ⟨hx, hb, hml, hown, hts⟩ (t_Ns_same l E G (rN (re rs i)) (np_len (rM (re rs i))) nf hr2 b1 (np_len ls1) f1 hb1 (by omega) (by omega)) (zcS 2 hts w_1405 w_1406 w_33 w_1407 (by decide +kernel) ⟨Nat.le_of_ble_eq_true rfl, Nat.le_of_ble_eq_true rfl⟩) (zc_pre hbase hK hN hQ hG hS) rfl rfl hl.1 rfl (lv_room (Nat.le_of_ble_eq_true rfl)) d_Mo_any_20 ⟨(by decide), (by decide)⟩) hS (fun r20 G20 H locs hp20 hG hS => ?_)
        have hG : zP E G H := hp20.2 ▸ hG
        refine lv_if_eq (tgt := 28) hx hb d_Mo_any_23 (by decide) (fun c23 => ?_) (fun c23 => ?_)
        · refine lv_iinc (v := nI (i + 1)) (lv' := [(2, .int (nI (i + 1))), (0, .ref a), (1, .ref b1)]) hx hb d_Mo_any_28 hl (k := 2) rfl (nI_add i 1) (by decide) rfl (fun ls hl => ?_)
          refine lv_goto (tgt := 2) hx hb d_Mo_any_31 (by decide) ?_
          exact ih (i + 1) _ _ (by omega) (by omega) (re_step (P := fun e => rM e = ls1) hq (fun z => hp20.1.z c23 ((zsm_n hr3 hf1 hr4 hg1).mpr z))) hG hS ls (lv_sub hl [1, 2, 0] rfl)
        · refine lv_iconst (v := 1) hx hb d_Mo_any_26 (by decide) ?_
          exact hret _ _ _ _ _ _ _ _ _ hr (rfl) (⟨zb.t ⟨_, re_mem hin, (zsm_n hr3 hf1 hr4 hg1).mp (hp20.1.nz c23)⟩, rfl⟩) hG hS (Nat.le_refl _) (Nat.le_refl _) d_Mo_any_27
  exact loop2 _ 0 _ _ (Nat.lt_succ_self _) (Nat.zero_le _) (fun j h => absurd h (Nat.not_lt_zero j)) hG hS ls (lv_sub hl [1, 2, 0] rfl)
abbrev rm_Mo_has : Room := { frames := 2, cells := 0, slots := 0, locals := 40 }
set_option maxHeartbeats 4000000 in
set_option maxRecDepth 100000 in
/-- has(x, at, t), of the reference -/
theorem t_Mo_has (l : Launch) (E : zc_E) (G : zg_G) (rs : List zRt) (a m1 m3 m4 m6 m7 m8 m9 m10 m11 m12 m15 m18 : Nat) (th tn m13 m14 m16 m17 : Int32) (m19 m20 : Value) (ha : G a = some (.inr (11, [.int th, .ref m1, .int tn, .ref m3, .ref m4, .int (nI rs.length), .ref m6, .ref m7, .ref m8, .ref m9, .ref m10, .ref m11, .ref m12, .int m13, .int m14, .ref m15, .int m16, .int m17, .ref m18, m19, m20]))) (hRS : zRS E G m4 rs) (b1 : Nat) (ls1 : np_N) (f1 : Nat → Int32) (hb1 : G b1 = some (.inl (E.2.1 0, np_len ls1, .inl f1))) (hf1 : np_f ls1 f1) (hg1 : np_g ls1) (kk : Nat) (hkk : kk ≤ ls1.length) (t : Int32) : zMi l E y_Mo_has c_Mo_has 5 (some .boolean) rm_Mo_has [.ref a, .ref b1, .int (nI (np_pos ls1 kk)), .int t] G (fun (r : Int32) (G2 : zg_G) => zb r (∃ e ∈ rs, rT e = t ∧ rM e = ls1.drop kk) ∧ G2 = G) := by
  refine zMi.of (by decide) (Nat.le_of_ble_eq_true rfl) ?_
  intro p e s m args below meth c Q hZ hG hret ls hl
  obtain ⟨hx, hb, hr, hts, hown, hlocks, hml, hnm, hbase, hK, hN, hQ⟩ := hZ
  have hl : lv_has ls 5 [(0, .ref a), (1, .ref b1), (2, .int (nI (np_pos ls1 kk))), (3, .int t)] := hl
  have hS : zg_S (zc_b E) s.heap s.heap [] := va_S.rf
  obtain ⟨⟨fr, hm4, hfr⟩, hn2, hRs⟩ := id hRS
  have sm1 := hg1.2
  have zp1 := np_pos_le ls1 kk hkk
  refine lv_iconst (v := 0) hx hb d_Mo_has_0 (by decide) ?_
  refine zi_as (y := nI 0) (nI_0.symm) ?_
  refine lv_istore (lv' := [(4, .int (nI 0)), (0, .ref a), (1, .ref b1), (2, .int (nI (np_pos ls1 kk))), (3, .int t)]) hx hb d_Mo_has_1 hl (by decide) rfl (fun ls hl => ?_)
  have loop3 : ∀ (N : Nat) (i : Nat) (H : Heap) (locs : List Loc), (rs.length - i) < N → (i ≤ rs.length) → (∀ j, j < i → ¬ (fun e => rT e = t ∧ rM e = ls1.drop kk) (re rs j)) → zP E G H → zg_S (zc_b E) s.heap H locs → ∀ (ls : Array Slot), lv_has ls 5 [(0, .ref a), (1, .ref b1), (2, .int (nI (np_pos ls1 kk))), (3, .int t), (4, .int (nI i))] → W p l e rm_Mo_has s m args below meth c H locs 0 0 Q (F0 m 3 ls []) := by
    intro N
    induction N with
    | zero =>
      intro i H locs hlt
      exact absurd hlt (Nat.not_lt_zero _)
    | succ N ih =>
      intro i H locs hlt hi hq hG hS ls hl
      refine lv_iload hx hb d_Mo_has_3 (lv_at hl 4 rfl) ?_
      refine lv_aload_n hx hb d_Mo_has_5 rfl (lv_at hl 0 rfl) ?_
      refine zg_get (ci := 11) (C := "ZoneAnswersModel") (T := T_Mo) (N := 21) hx hb hts zi_Mo hown hK hG ha rfl 5 (by decide) (hts _ w_1286) (fun _ h9 => h9) rfl d_Mo_has_6 ?_
      refine lv_icmp_ge (tgt := 53) hx hb d_Mo_has_9 (by decide) (fun c9 => ?_) (fun c9 => ?_)
      · have b9 : rs.length ≤ i := (nI_leI (a := rs.length) (b := i) (by omega) (by omega)).mp c9
        refine lv_iconst (v := 0) hx hb d_Mo_has_53 (by decide) ?_
        exact hret _ _ _ _ _ _ _ _ _ hr (rfl) (⟨zb.f (re_ex (P := (fun e => rT e = t ∧ rM e = ls1.drop kk)) (by omega) hq), rfl⟩) hG hS (Nat.le_refl _) (Nat.le_refl _) d_Mo_has_54
      · have b9 : ¬ rs.length ≤ i := fun q => c9 ((nI_leI (a := rs.length) (b := i) (by omega) (by omega)).mpr q)
        have hin : i < rs.length := by omega
        obtain ⟨hr1, ⟨nf, hr2, hr3, hr4, hr5⟩, df, hr6, hr7, hr8⟩ := hRs _ (re_mem hin)
        have sm := hr4.2
        refine lv_aload_n hx hb d_Mo_has_12 rfl (lv_at hl 0 rfl) ?_
        refine zg_get (ci := 11) (C := "ZoneAnswersModel") (T := T_Mo) (N := 21) hx hb hts zi_Mo hown hK hG ha rfl 4 (by decide) (hts _ w_1285) (fun _ h9 => h9) rfl d_Mo_has_13 ?_
        refine lv_iload hx hb d_Mo_has_16 (lv_at hl 4 rfl) ?_
        refine zg_aldq hx hb hK hG 4 hm4 rfl (vp_in_nI (by omega) (by omega)) d_Mo_has_18 ?_
        refine zr_as (y := fr i) (by rw [zi_n _ (by omega)]) ?_
        refine zr_some (a := rA (re rs i)) (hfr i hin) ?_
        refine zg_get (ci := 12) (C := "ZoneAnswersModel$Rec") (T := T_Re) (N := 5) hx hb hts zi_Re hown hK hG hr1 rfl 3 (by decide) (hts _ w_1268) (fun _ h9 => h9) rfl d_Mo_has_19 ?_
        refine lv_iload_n hx hb d_Mo_has_22 rfl (lv_at hl 3 rfl) ?_
        refine lv_icmp_ne (tgt := 47) hx hb d_Mo_has_23 (by decide) (fun c23 => ?_) (fun c23 => ?_)
        · refine lv_iinc (v := nI (i + 1)) (lv' := [(4, .int (nI (i + 1))), (0, .ref a), (1, .ref b1), (2, .int (nI (np_pos ls1 kk))), (3, .int t)]) hx hb d_Mo_has_47 hl (k := 4) rfl (nI_add i 1) (by decide) rfl (fun ls hl => ?_)
          refine lv_goto (tgt := 3) hx hb d_Mo_has_50 (by decide) ?_
          exact ih (i + 1) _ _ (by omega) (by omega) (re_step (P := (fun e => rT e = t ∧ rM e = ls1.drop kk)) hq (by first | exact fun z => c23 z.1 | exact fun z => hp39.1.z c42 ((zsm_e hr3 hf1 hr4 hg1 hkk).mpr z.2))) hG hS ls (lv_sub hl [1, 2, 3, 4, 0] rfl)
        · refine lv_aload_n hx hb d_Mo_has_26 rfl (lv_at hl 0 rfl) ?_
          refine zg_get (ci := 11) (C := "ZoneAnswersModel") (T := T_Mo) (N := 21) hx hb hts zi_Mo hown hK hG ha rfl 4 (by decide) (hts _ w_1285) (fun _ h9 => h9) rfl d_Mo_has_27 ?_
          refine lv_iload hx hb d_Mo_has_30 (lv_at hl 4 rfl) ?_
          refine zg_aldq hx hb hK hG 4 hm4 rfl (vp_in_nI (by omega) (by omega)) d_Mo_has_32 ?_
          refine zr_as (y := fr i) (by rw [zi_n _ (by omega)]) ?_
          refine zr_some (a := rA (re rs i)) (hfr i hin) ?_
          refine zg_get (ci := 12) (C := "ZoneAnswersModel$Rec") (T := T_Re) (N := 5) hx hb hts zi_Re hown hK hG hr1 rfl 0 (by decide) (hts _ w_1265) (fun _ h9 => h9) rfl d_Mo_has_33 ?_
          refine lv_iconst (v := 0) hx hb d_Mo_has_36 (by decide) ?_
          refine zi_as (y := nI 0) (nI_0.symm) ?_
          refine lv_aload_n hx hb d_Mo_has_37 rfl (lv_at hl 1 rfl) ?_
          refine lv_iload_n hx hb d_Mo_has_38 rfl (lv_at hl 2 rfl) ?_
          refine zk_i (va_runS (As := [.ref (rN (re rs i)), .int (nI 0), .ref b1, .int (nI (np_pos ls1 kk))]) (rest := []) ⟨hx, hb, hml, hown, hts⟩ (t_Ns_ends l E G (rN (re rs i)) (np_len (rM (re rs i))) nf hr2 b1 (np_len ls1) f1 hb1 0 (np_pos ls1 kk) (by omega) (by omega) (by omega) (by omega)) (zcS 4 hts w_1412 w_1399 w_33 w_1400 (by decide +kernel) ⟨Nat.le_of_ble_eq_true rfl, Nat.le_of_ble_eq_true rfl⟩) (zc_pre hbase hK hN hQ hG hS) rfl rfl hl.1 rfl (lv_room (Nat.le_of_ble_eq_true rfl)) d_Mo_has_39 ⟨(by decide), (by decide)⟩) hS (fun r39 G39 H locs hp39 hG hS => ?_)
          have hG : zP E G H := hp39.2 ▸ hG
          refine lv_if_eq (tgt := 47) hx hb d_Mo_has_42 (by decide) (fun c42 => ?_) (fun c42 => ?_)
          · refine lv_iinc (v := nI (i + 1)) (lv' := [(4, .int (nI (i + 1))), (0, .ref a), (1, .ref b1), (2, .int (nI (np_pos ls1 kk))), (3, .int t)]) hx hb d_Mo_has_47 hl (k := 4) rfl (nI_add i 1) (by decide) rfl (fun ls hl => ?_)
            refine lv_goto (tgt := 3) hx hb d_Mo_has_50 (by decide) ?_
            exact ih (i + 1) _ _ (by omega) (by omega) (re_step (P := (fun e => rT e = t ∧ rM e = ls1.drop kk)) hq (by first | exact fun z => c23 z.1 | exact fun z => hp39.1.z c42 ((zsm_e hr3 hf1 hr4 hg1 hkk).mpr z.2))) hG hS ls (lv_sub hl [1, 2, 3, 4, 0] rfl)
          · refine lv_iconst (v := 1) hx hb d_Mo_has_45 (by decide) ?_
            exact hret _ _ _ _ _ _ _ _ _ hr (rfl) (⟨zb.t ⟨_, re_mem hin, c23, (zsm_e hr3 hf1 hr4 hg1 hkk).mp (hp39.1.nz c42)⟩, rfl⟩) hG hS (Nat.le_refl _) (Nat.le_refl _) d_Mo_has_46
  exact loop3 _ 0 _ _ (Nat.lt_succ_self _) (Nat.zero_le _) (fun j h => absurd h (Nat.not_lt_zero j)) hG hS ls (lv_sub hl [1, 2, 3, 4, 0] rfl)
abbrev rm_Mo_find : Room := { frames := 2, cells := 0, slots := 0, locals := 40 }
set_option maxHeartbeats 4000000 in
set_option maxRecDepth 100000 in
/-- find(x, t, d), of the reference -/
theorem t_Mo_find (l : Launch) (E : zc_E) (G : zg_G) (rs : List zRt) (a m1 m3 m4 m6 m7 m8 m9 m10 m11 m12 m15 m18 : Nat) (th tn m13 m14 m16 m17 : Int32) (m19 m20 : Value) (ha : G a = some (.inr (11, [.int th, .ref m1, .int tn, .ref m3, .ref m4, .int (nI rs.length), .ref m6, .ref m7, .ref m8, .ref m9, .ref m10, .ref m11, .ref m12, .int m13, .int m14, .ref m15, .int m16, .int m17, .ref m18, m19, m20]))) (hRS : zRS E G m4 rs) (b1 : Nat) (ls1 : np_N) (f1 : Nat → Int32) (hb1 : G b1 = some (.inl (E.2.1 0, np_len ls1, .inl f1))) (hf1 : np_f ls1 f1) (hg1 : np_g ls1) (b2 : Nat) (dt : List Int32) (f2 : Nat → Int32) (hb2 : G b2 = some (.inl (E.2.1 0, dt.length, .inl f2))) (hf2 : ∀ j, j < dt.length → f2 j = dt.getD j 0) (hdl : dt.length < 2 ^ 24) (hbl : ∀ e ∈ rs, (rB e).length < 2 ^ 24) (t : Int32) : zMi l E y_Mo_find c_Mo_find 5 (some .int) rm_Mo_find [.ref a, .ref b1, .int t, .ref b2] G (fun (r : Int32) (G2 : zg_G) => ((∃ i, i < rs.length ∧ (fun e => rT e = t ∧ rM e = ls1 ∧ rB e = dt) (re rs i) ∧ (∀ j, j < i → ¬ (fun e => rT e = t ∧ rM e = ls1 ∧ rB e = dt) (re rs j)) ∧ r = nI i) ∨ ((¬ ∃ e ∈ rs, rT e = t ∧ rM e = ls1 ∧ rB e = dt) ∧ r = -1)) ∧ G2 = G) := by
  refine zMi.of (by decide) (Nat.le_of_ble_eq_true rfl) ?_
  intro p e s m args below meth c Q hZ hG hret ls hl
  obtain ⟨hx, hb, hr, hts, hown, hlocks, hml, hnm, hbase, hK, hN, hQ⟩ := hZ
  have hl : lv_has ls 5 [(0, .ref a), (1, .ref b1), (2, .int t), (3, .ref b2)] := hl
  have hS : zg_S (zc_b E) s.heap s.heap [] := va_S.rf
  obtain ⟨⟨fr, hm4, hfr⟩, hn2, hRs⟩ := id hRS
  have sm1 := hg1.2
  refine lv_iconst (v := 0) hx hb d_Mo_find_0 (by decide) ?_
  refine zi_as (y := nI 0) (nI_0.symm) ?_
  refine lv_istore (lv' := [(4, .int (nI 0)), (0, .ref a), (1, .ref b1), (2, .int t), (3, .ref b2)]) hx hb d_Mo_find_1 hl (by decide) rfl (fun ls hl => ?_)
  have loop3 : ∀ (N : Nat) (i : Nat) (H : Heap) (locs : List Loc), (rs.length - i) < N → (i ≤ rs.length) → (∀ j, j < i → ¬ (fun e => rT e = t ∧ rM e = ls1 ∧ rB e = dt) (re rs j)) → zP E G H → zg_S (zc_b E) s.heap H locs → ∀ (ls : Array Slot), lv_has ls 5 [(0, .ref a), (1, .ref b1), (2, .int t), (3, .ref b2), (4, .int (nI i))] → W p l e rm_Mo_find s m args below meth c H locs 0 0 Q (F0 m 3 ls []) := by
    intro N
    induction N with
    | zero =>
      intro i H locs hlt
      exact absurd hlt (Nat.not_lt_zero _)
    | succ N ih =>
      intro i H locs hlt hi hq hG hS ls hl
      refine lv_iload hx hb d_Mo_find_3 (lv_at hl 4 rfl) ?_
      refine lv_aload_n hx hb d_Mo_find_5 rfl (lv_at hl 0 rfl) ?_
      refine zg_get (ci := 11) (C := "ZoneAnswersModel") (T := T_Mo) (N := 21) hx hb hts zi_Mo hown hK hG ha rfl 5 (by decide) (hts _ w_1286) (fun _ h9 => h9) rfl d_Mo_find_6 ?_
      refine lv_icmp_ge (tgt := 69) hx hb d_Mo_find_9 (by decide) (fun c9 => ?_) (fun c9 => ?_)
      · have b9 : rs.length ≤ i := (nI_leI (a := rs.length) (b := i) (by omega) (by omega)).mp c9
        refine lv_iconst (v := -1) hx hb d_Mo_find_69 (by decide) ?_
        exact hret _ _ _ _ _ _ _ _ _ hr (rfl) (⟨Or.inr ⟨re_ex (P := (fun e => rT e = t ∧ rM e = ls1 ∧ rB e = dt)) (by omega) hq, rfl⟩, rfl⟩) hG hS (Nat.le_refl _) (Nat.le_refl _) d_Mo_find_70
      · have b9 : ¬ rs.length ≤ i := fun q => c9 ((nI_leI (a := rs.length) (b := i) (by omega) (by omega)).mpr q)
        have hin : i < rs.length := by omega
        obtain ⟨hr1, ⟨nf, hr2, hr3, hr4, hr5⟩, df, hr6, hr7, hr8⟩ := hRs _ (re_mem hin)
        have sm := hr4.2
        have hbl9 := hbl _ (re_mem hin)
        refine lv_aload_n hx hb d_Mo_find_12 rfl (lv_at hl 0 rfl) ?_
        refine zg_get (ci := 11) (C := "ZoneAnswersModel") (T := T_Mo) (N := 21) hx hb hts zi_Mo hown hK hG ha rfl 4 (by decide) (hts _ w_1285) (fun _ h9 => h9) rfl d_Mo_find_13 ?_
        refine lv_iload hx hb d_Mo_find_16 (lv_at hl 4 rfl) ?_
        refine zg_aldq hx hb hK hG 4 hm4 rfl (vp_in_nI (by omega) (by omega)) d_Mo_find_18 ?_
        refine zr_as (y := fr i) (by rw [zi_n _ (by omega)]) ?_
        refine zr_some (a := rA (re rs i)) (hfr i hin) ?_
        refine zg_get (ci := 12) (C := "ZoneAnswersModel$Rec") (T := T_Re) (N := 5) hx hb hts zi_Re hown hK hG hr1 rfl 3 (by decide) (hts _ w_1268) (fun _ h9 => h9) rfl d_Mo_find_19 ?_
        refine lv_iload_n hx hb d_Mo_find_22 rfl (lv_at hl 2 rfl) ?_
        refine lv_icmp_ne (tgt := 63) hx hb d_Mo_find_23 (by decide) (fun c23 => ?_) (fun c23 => ?_)
        · refine lv_iinc (v := nI (i + 1)) (lv' := [(4, .int (nI (i + 1))), (0, .ref a), (1, .ref b1), (2, .int t), (3, .ref b2)]) hx hb d_Mo_find_63 hl (k := 4) rfl (nI_add i 1) (by decide) rfl (fun ls hl => ?_)
          refine lv_goto (tgt := 3) hx hb d_Mo_find_66 (by decide) ?_
          exact ih (i + 1) _ _ (by omega) (by omega) (re_step (P := (fun e => rT e = t ∧ rM e = ls1 ∧ rB e = dt)) hq (by first | exact fun z => c23 z.1 | exact fun z => hp37.1.z c40 ((zsm_n hr3 hf1 hr4 hg1).mpr z.2.1) | exact fun z => hp54.1.z c57 ((zsm_d hr7 hf2).mpr z.2.2))) hG hS ls (lv_sub hl [1, 2, 3, 4, 0] rfl)
        · refine lv_aload_n hx hb d_Mo_find_26 rfl (lv_at hl 0 rfl) ?_
          refine zg_get (ci := 11) (C := "ZoneAnswersModel") (T := T_Mo) (N := 21) hx hb hts zi_Mo hown hK hG ha rfl 4 (by decide) (hts _ w_1285) (fun _ h9 => h9) rfl d_Mo_find_27 ?_
          refine lv_iload hx hb d_Mo_find_30 (lv_at hl 4 rfl) ?_
          refine zg_aldq hx hb hK hG 4 hm4 rfl (vp_in_nI (by omega) (by omega)) d_Mo_find_32 ?_
          refine zr_as (y := fr i) (by rw [zi_n _ (by omega)]) ?_
          refine zr_some (a := rA (re rs i)) (hfr i hin) ?_
          refine zg_get (ci := 12) (C := "ZoneAnswersModel$Rec") (T := T_Re) (N := 5) hx hb hts zi_Re hown hK hG hr1 rfl 0 (by decide) (hts _ w_1265) (fun _ h9 => h9) rfl d_Mo_find_33 ?_
          refine lv_aload_n hx hb d_Mo_find_36 rfl (lv_at hl 1 rfl) ?_
          refine zk_i (va_runS (As := [.ref (rN (re rs i)), .ref b1]) (rest := []) ⟨hx, hb, hml, hown, hts⟩ (t_Ns_same l E G (rN (re rs i)) (np_len (rM (re rs i))) nf hr2 b1 (np_len ls1) f1 hb1 (by omega) (by omega)) (zcS 2 hts w_1405 w_1406 w_33 w_1407 (by decide +kernel) ⟨Nat.le_of_ble_eq_true rfl, Nat.le_of_ble_eq_true rfl⟩) (zc_pre hbase hK hN hQ hG hS) rfl rfl hl.1 rfl (lv_room (Nat.le_of_ble_eq_true rfl)) d_Mo_find_37 ⟨(by decide), (by decide)⟩) hS (fun r37 G37 H locs hp37 hG hS => ?_)
          have hG : zP E G H := hp37.2 ▸ hG
          refine lv_if_eq (tgt := 63) hx hb d_Mo_find_40 (by decide) (fun c40 => ?_) (fun c40 => ?_)
          · refine lv_iinc (v := nI (i + 1)) (lv' := [(4, .int (nI (i + 1))), (0, .ref a), (1, .ref b1), (2, .int t), (3, .ref b2)]) hx hb d_Mo_find_63 hl (k := 4) rfl (nI_add i 1) (by decide) rfl (fun ls hl => ?_)
            refine lv_goto (tgt := 3) hx hb d_Mo_find_66 (by decide) ?_
            exact ih (i + 1) _ _ (by omega) (by omega) (re_step (P := (fun e => rT e = t ∧ rM e = ls1 ∧ rB e = dt)) hq (by first | exact fun z => c23 z.1 | exact fun z => hp37.1.z c40 ((zsm_n hr3 hf1 hr4 hg1).mpr z.2.1) | exact fun z => hp54.1.z c57 ((zsm_d hr7 hf2).mpr z.2.2))) hG hS ls (lv_sub hl [1, 2, 3, 4, 0] rfl)
          · refine lv_aload_n hx hb d_Mo_find_43 rfl (lv_at hl 0 rfl) ?_
            refine zg_get (ci := 11) (C := "ZoneAnswersModel") (T := T_Mo) (N := 21) hx hb hts zi_Mo hown hK hG ha rfl 4 (by decide) (hts _ w_1285) (fun _ h9 => h9) rfl d_Mo_find_44 ?_
            refine lv_iload hx hb d_Mo_find_47 (lv_at hl 4 rfl) ?_
            refine zg_aldq hx hb hK hG 4 hm4 rfl (vp_in_nI (by omega) (by omega)) d_Mo_find_49 ?_
            refine zr_as (y := fr i) (by rw [zi_n _ (by omega)]) ?_
            refine zr_some (a := rA (re rs i)) (hfr i hin) ?_
            refine zg_get (ci := 12) (C := "ZoneAnswersModel$Rec") (T := T_Re) (N := 5) hx hb hts zi_Re hown hK hG hr1 rfl 1 (by decide) (hts _ w_1266) (fun _ h9 => h9) rfl d_Mo_find_50 ?_
            refine lv_aload_n hx hb d_Mo_find_53 rfl (lv_at hl 3 rfl) ?_
            refine zk_i (va_runS (As := [.ref (rD (re rs i)), .ref b2]) (rest := []) ⟨hx, hb, hml, hown, hts⟩ (t_Ns_same l E G (rD (re rs i)) (rB (re rs i)).length df hr6 b2 dt.length f2 hb2 (by omega) (by omega)) (zcS 2 hts w_1405 w_1406 w_33 w_1407 (by decide +kernel) ⟨Nat.le_of_ble_eq_true rfl, Nat.le_of_ble_eq_true rfl⟩) (zc_pre hbase hK hN hQ hG hS) rfl rfl hl.1 rfl (lv_room (Nat.le_of_ble_eq_true rfl)) d_Mo_find_54 ⟨(by decide), (by decide)⟩) hS (fun r54 G54 H locs hp54 hG hS => ?_)
            have hG : zP E G H := hp54.2 ▸ hG
            refine lv_if_eq (tgt := 63) hx hb d_Mo_find_57 (by decide) (fun c57 => ?_) (fun c57 => ?_)
            · refine lv_iinc (v := nI (i + 1)) (lv' := [(4, .int (nI (i + 1))), (0, .ref a), (1, .ref b1), (2, .int t), (3, .ref b2)]) hx hb d_Mo_find_63 hl (k := 4) rfl (nI_add i 1) (by decide) rfl (fun ls hl => ?_)
              refine lv_goto (tgt := 3) hx hb d_Mo_find_66 (by decide) ?_
              exact ih (i + 1) _ _ (by omega) (by omega) (re_step (P := (fun e => rT e = t ∧ rM e = ls1 ∧ rB e = dt)) hq (by first | exact fun z => c23 z.1 | exact fun z => hp37.1.z c40 ((zsm_n hr3 hf1 hr4 hg1).mpr z.2.1) | exact fun z => hp54.1.z c57 ((zsm_d hr7 hf2).mpr z.2.2))) hG hS ls (lv_sub hl [1, 2, 3, 4, 0] rfl)
            · refine lv_iload hx hb d_Mo_find_60 (lv_at hl 4 rfl) ?_
              exact hret _ _ _ _ _ _ _ _ _ hr (rfl) (⟨Or.inl ⟨i, hin, ⟨c23, (zsm_n hr3 hf1 hr4 hg1).mp (hp37.1.nz c40), (zsm_d hr7 hf2).mp (hp54.1.nz c57)⟩, hq, rfl⟩, rfl⟩) hG hS (Nat.le_refl _) (Nat.le_refl _) d_Mo_find_62
  exact loop3 _ 0 _ _ (Nat.lt_succ_self _) (Nat.zero_le _) (fun j h => absurd h (Nat.not_lt_zero j)) hG hS ls (lv_sub hl [1, 2, 3, 4, 0] rfl)
abbrev rm_Mo_size : Room := { frames := 2, cells := 0, slots := 0, locals := 40 }
set_option maxHeartbeats 4000000 in
set_option maxRecDepth 100000 in
/-- size(x, t), of the reference -/
theorem t_Mo_size (l : Launch) (E : zc_E) (G : zg_G) (rs : List zRt) (a m1 m3 m4 m6 m7 m8 m9 m10 m11 m12 m15 m18 : Nat) (th tn m13 m14 m16 m17 : Int32) (m19 m20 : Value) (ha : G a = some (.inr (11, [.int th, .ref m1, .int tn, .ref m3, .ref m4, .int (nI rs.length), .ref m6, .ref m7, .ref m8, .ref m9, .ref m10, .ref m11, .ref m12, .int m13, .int m14, .ref m15, .int m16, .int m17, .ref m18, m19, m20]))) (hRS : zRS E G m4 rs) (b1 : Nat) (ls1 : np_N) (f1 : Nat → Int32) (hb1 : G b1 = some (.inl (E.2.1 0, np_len ls1, .inl f1))) (hf1 : np_f ls1 f1) (hg1 : np_g ls1) (t : Int32) : zMi l E y_Mo_size c_Mo_size 5 (some .int) rm_Mo_size [.ref a, .ref b1, .int t] G (fun (r : Int32) (G2 : zg_G) => r = nI (zct rs t ls1 rs.length) ∧ G2 = G) := by
  refine zMi.of (by decide) (Nat.le_of_ble_eq_true rfl) ?_
  intro p e s m args below meth c Q hZ hG hret ls hl
  obtain ⟨hx, hb, hr, hts, hown, hlocks, hml, hnm, hbase, hK, hN, hQ⟩ := hZ
  have hl : lv_has ls 5 [(0, .ref a), (1, .ref b1), (2, .int t)] := hl
  have hS : zg_S (zc_b E) s.heap s.heap [] := va_S.rf
  obtain ⟨⟨fr, hm4, hfr⟩, hn2, hRs⟩ := id hRS
  have sm1 := hg1.2
  refine lv_iconst (v := 0) hx hb d_Mo_size_0 (by decide) ?_
  refine zi_as (y := nI 0) (nI_0.symm) ?_
  refine lv_istore_n (lv' := [(3, .int (nI 0)), (0, .ref a), (1, .ref b1), (2, .int t)]) hx hb d_Mo_size_1 rfl hl (by decide) rfl (fun ls hl => ?_)
  refine lv_iconst (v := 0) hx hb d_Mo_size_2 (by decide) ?_
  refine zi_as (y := nI 0) (nI_0.symm) ?_
  refine lv_istore (lv' := [(4, .int (nI 0)), (3, .int (nI 0)), (0, .ref a), (1, .ref b1), (2, .int t)]) hx hb d_Mo_size_3 hl (by decide) rfl (fun ls hl => ?_)
  have loop5 : ∀ (N : Nat) (i : Nat) (kt : Nat) (H : Heap) (locs : List Loc), (rs.length - i) < N → (i ≤ rs.length) → (kt = zct rs t ls1 i) → zP E G H → zg_S (zc_b E) s.heap H locs → ∀ (ls : Array Slot), lv_has ls 5 [(0, .ref a), (1, .ref b1), (2, .int t), (3, .int (nI kt)), (4, .int (nI i))] → W p l e rm_Mo_size s m args below meth c H locs 0 0 Q (F0 m 5 ls []) := by
    intro N
    induction N with
    | zero =>
      intro i kt H locs hlt
      exact absurd hlt (Nat.not_lt_zero _)
    | succ N ih =>
      intro i kt H locs hlt hi hkt hG hS ls hl
      refine lv_iload hx hb d_Mo_size_5 (lv_at hl 4 rfl) ?_
      refine lv_aload_n hx hb d_Mo_size_7 rfl (lv_at hl 0 rfl) ?_
      refine zg_get (ci := 11) (C := "ZoneAnswersModel") (T := T_Mo) (N := 21) hx hb hts zi_Mo hown hK hG ha rfl 5 (by decide) (hts _ w_1286) (fun _ h9 => h9) rfl d_Mo_size_8 ?_
      refine lv_icmp_ge (tgt := 54) hx hb d_Mo_size_11 (by decide) (fun c11 => ?_) (fun c11 => ?_)
      · have b11 : rs.length ≤ i := (nI_leI (a := rs.length) (b := i) (by omega) (by omega)).mp c11
        refine lv_iload_n hx hb d_Mo_size_54 rfl (lv_at hl 3 rfl) ?_
        exact hret _ _ _ _ _ _ _ _ _ hr (rfl) (⟨by rw [hkt, show i = rs.length by omega], rfl⟩) hG hS (Nat.le_refl _) (Nat.le_refl _) d_Mo_size_55
      · have b11 : ¬ rs.length ≤ i := fun q => c11 ((nI_leI (a := rs.length) (b := i) (by omega) (by omega)).mpr q)
        have hin : i < rs.length := by omega
        obtain ⟨hr1, ⟨nf, hr2, hr3, hr4, hr5⟩, df, hr6, hr7, hr8⟩ := hRs _ (re_mem hin)
        have sm := hr4.2
        refine lv_aload_n hx hb d_Mo_size_14 rfl (lv_at hl 0 rfl) ?_
        refine zg_get (ci := 11) (C := "ZoneAnswersModel") (T := T_Mo) (N := 21) hx hb hts zi_Mo hown hK hG ha rfl 4 (by decide) (hts _ w_1285) (fun _ h9 => h9) rfl d_Mo_size_15 ?_
        refine lv_iload hx hb d_Mo_size_18 (lv_at hl 4 rfl) ?_
        refine zg_aldq hx hb hK hG 4 hm4 rfl (vp_in_nI (by omega) (by omega)) d_Mo_size_20 ?_
        refine zr_as (y := fr i) (by rw [zi_n _ (by omega)]) ?_
        refine zr_some (a := rA (re rs i)) (hfr i hin) ?_
        refine zg_get (ci := 12) (C := "ZoneAnswersModel$Rec") (T := T_Re) (N := 5) hx hb hts zi_Re hown hK hG hr1 rfl 3 (by decide) (hts _ w_1268) (fun _ h9 => h9) rfl d_Mo_size_21 ?_
        refine lv_iload_n hx hb d_Mo_size_24 rfl (lv_at hl 2 rfl) ?_
        refine lv_icmp_ne (tgt := 48) hx hb d_Mo_size_25 (by decide) (fun c25 => ?_) (fun c25 => ?_)
        · refine lv_iinc (v := nI (i + 1)) (lv' := [(4, .int (nI (i + 1))), (0, .ref a), (1, .ref b1), (2, .int t), (3, .int (nI kt))]) hx hb d_Mo_size_48 hl (k := 4) rfl (nI_add i 1) (by decide) rfl (fun ls hl => ?_)
          refine lv_goto (tgt := 5) hx hb d_Mo_size_51 (by decide) ?_
          exact ih (i + 1) kt _ _ (by omega) (by omega) (by first | (rw [hkt]; exact (zct_n hin (fun z => c25 z.1)).symm) | (rw [hkt]; exact (zct_n hin (fun z => hp39.1.z c42 ((zsm_n hr3 hf1 hr4 hg1).mpr z.2))).symm) | (rw [hkt]; exact (zct_y hin ⟨c25, (zsm_n hr3 hf1 hr4 hg1).mp (hp39.1.nz c42)⟩).symm)) hG hS ls (lv_sub hl [1, 2, 3, 4, 0] rfl)
        · refine lv_aload_n hx hb d_Mo_size_28 rfl (lv_at hl 0 rfl) ?_
          refine zg_get (ci := 11) (C := "ZoneAnswersModel") (T := T_Mo) (N := 21) hx hb hts zi_Mo hown hK hG ha rfl 4 (by decide) (hts _ w_1285) (fun _ h9 => h9) rfl d_Mo_size_29 ?_
          refine lv_iload hx hb d_Mo_size_32 (lv_at hl 4 rfl) ?_
          refine zg_aldq hx hb hK hG 4 hm4 rfl (vp_in_nI (by omega) (by omega)) d_Mo_size_34 ?_
          refine zr_as (y := fr i) (by rw [zi_n _ (by omega)]) ?_
          refine zr_some (a := rA (re rs i)) (hfr i hin) ?_
          refine zg_get (ci := 12) (C := "ZoneAnswersModel$Rec") (T := T_Re) (N := 5) hx hb hts zi_Re hown hK hG hr1 rfl 0 (by decide) (hts _ w_1265) (fun _ h9 => h9) rfl d_Mo_size_35 ?_
          refine lv_aload_n hx hb d_Mo_size_38 rfl (lv_at hl 1 rfl) ?_
          refine zk_i (va_runS (As := [.ref (rN (re rs i)), .ref b1]) (rest := []) ⟨hx, hb, hml, hown, hts⟩ (t_Ns_same l E G (rN (re rs i)) (np_len (rM (re rs i))) nf hr2 b1 (np_len ls1) f1 hb1 (by omega) (by omega)) (zcS 2 hts w_1405 w_1406 w_33 w_1407 (by decide +kernel) ⟨Nat.le_of_ble_eq_true rfl, Nat.le_of_ble_eq_true rfl⟩) (zc_pre hbase hK hN hQ hG hS) rfl rfl hl.1 rfl (lv_room (Nat.le_of_ble_eq_true rfl)) d_Mo_size_39 ⟨(by decide), (by decide)⟩) hS (fun r39 G39 H locs hp39 hG hS => ?_)
          have hG : zP E G H := hp39.2 ▸ hG
          refine lv_if_eq (tgt := 48) hx hb d_Mo_size_42 (by decide) (fun c42 => ?_) (fun c42 => ?_)
          · refine lv_iinc (v := nI (i + 1)) (lv' := [(4, .int (nI (i + 1))), (0, .ref a), (1, .ref b1), (2, .int t), (3, .int (nI kt))]) hx hb d_Mo_size_48 hl (k := 4) rfl (nI_add i 1) (by decide) rfl (fun ls hl => ?_)
            refine lv_goto (tgt := 5) hx hb d_Mo_size_51 (by decide) ?_
            exact ih (i + 1) kt _ _ (by omega) (by omega) (by first | (rw [hkt]; exact (zct_n hin (fun z => c25 z.1)).symm) | (rw [hkt]; exact (zct_n hin (fun z => hp39.1.z c42 ((zsm_n hr3 hf1 hr4 hg1).mpr z.2))).symm) | (rw [hkt]; exact (zct_y hin ⟨c25, (zsm_n hr3 hf1 hr4 hg1).mp (hp39.1.nz c42)⟩).symm)) hG hS ls (lv_sub hl [1, 2, 3, 4, 0] rfl)
          · refine lv_iinc (v := nI (kt + 1)) (lv' := [(3, .int (nI (kt + 1))), (0, .ref a), (1, .ref b1), (2, .int t), (4, .int (nI i))]) hx hb d_Mo_size_45 hl (k := 3) rfl (nI_add kt 1) (by decide) rfl (fun ls hl => ?_)
            refine lv_iinc (v := nI (i + 1)) (lv' := [(4, .int (nI (i + 1))), (3, .int (nI (kt + 1))), (0, .ref a), (1, .ref b1), (2, .int t)]) hx hb d_Mo_size_48 hl (k := 4) rfl (nI_add i 1) (by decide) rfl (fun ls hl => ?_)
            refine lv_goto (tgt := 5) hx hb d_Mo_size_51 (by decide) ?_
            exact ih (i + 1) (kt + 1) _ _ (by omega) (by omega) (by first | (rw [hkt]; exact (zct_n hin (fun z => c25 z.1)).symm) | (rw [hkt]; exact (zct_n hin (fun z => hp39.1.z c42 ((zsm_n hr3 hf1 hr4 hg1).mpr z.2))).symm) | (rw [hkt]; exact (zct_y hin ⟨c25, (zsm_n hr3 hf1 hr4 hg1).mp (hp39.1.nz c42)⟩).symm)) hG hS ls (lv_sub hl [2, 3, 4, 1, 0] rfl)
  exact loop5 _ 0 0 _ _ (Nat.lt_succ_self _) (Nat.zero_le _) (rfl) hG hS ls (lv_sub hl [2, 3, 4, 1, 0] rfl)
abbrev rm_Mo_there : Room := { frames := 4, cells := 0, slots := 0, locals := 140 }
set_option maxHeartbeats 4000000 in
set_option maxRecDepth 100000 in
/-- there(x, at), of the reference -/
theorem t_Mo_there (l : Launch) (E : zc_E) (G : zg_G) (rs : List zRt) (a m1 m3 m4 m6 m7 m8 m9 m10 m11 m12 m15 m18 : Nat) (th tn m13 m14 m16 m17 : Int32) (m19 m20 : Value) (ha : G a = some (.inr (11, [.int th, .ref m1, .int tn, .ref m3, .ref m4, .int (nI rs.length), .ref m6, .ref m7, .ref m8, .ref m9, .ref m10, .ref m11, .ref m12, .int m13, .int m14, .ref m15, .int m16, .int m17, .ref m18, m19, m20]))) (hRS : zRS E G m4 rs) (lo : np_N) (fo : Nat → Int32) (hm3 : G m3 = some (.inl (E.2.1 0, np_len lo, .inl fo))) (hfo : np_f lo fo) (hgo : np_g lo) (b1 : Nat) (ls1 : np_N) (f1 : Nat → Int32) (hb1 : G b1 = some (.inl (E.2.1 0, np_len ls1, .inl f1))) (hf1 : np_f ls1 f1) (hg1 : np_g ls1) (kk : Nat) (hkk : kk ≤ ls1.length) : zMi l E y_Mo_there c_Mo_there 4 (some .boolean) rm_Mo_there [.ref a, .ref b1, .int (nI (np_pos ls1 kk))] G (fun (r : Int32) (G2 : zg_G) => zb r (lo <:+ ls1 ∧ np_len lo ≤ np_len (ls1.drop kk) ∧ ∃ e ∈ rs, ls1.drop kk <:+ rM e) ∧ G2 = G) := by
  refine zMi.of (by decide) (Nat.le_of_ble_eq_true rfl) ?_
  intro p e s m args below meth c Q hZ hG hret ls hl
  obtain ⟨hx, hb, hr, hts, hown, hlocks, hml, hnm, hbase, hK, hN, hQ⟩ := hZ
  have hl : lv_has ls 4 [(0, .ref a), (1, .ref b1), (2, .int (nI (np_pos ls1 kk)))] := hl
  have hS : zg_S (zc_b E) s.heap s.heap [] := va_S.rf
  obtain ⟨⟨fr, hm4, hfr⟩, hn2, hRs⟩ := id hRS
  have sm1 := hg1.2
  have smo := hgo.2
  have zp1 := np_pos_le ls1 kk hkk
  have zp2 := np_len_drop ls1 kk hkk
  refine lv_aload_n hx hb d_Mo_there_0 rfl (lv_at hl 1 rfl) ?_
  refine lv_aload_n hx hb d_Mo_there_1 rfl (lv_at hl 0 rfl) ?_
  refine zg_get (ci := 11) (C := "ZoneAnswersModel") (T := T_Mo) (N := 21) hx hb hts zi_Mo hown hK hG ha rfl 3 (by decide) (hts _ w_1284) (fun _ h9 => h9) rfl d_Mo_there_2 ?_
  refine zk_i (va_runS (As := [.ref b1, .ref m3]) (rest := []) ⟨hx, hb, hml, hown, hts⟩ (t_Ns_below l E G b1 ls1 f1 hb1 hf1 hg1 m3 lo fo hm3 hfo hgo) (zcS 2 hts w_1392 w_1393 w_33 w_1394 (by decide +kernel) ⟨Nat.le_of_ble_eq_true rfl, Nat.le_of_ble_eq_true rfl⟩) (zc_pre hbase hK hN hQ hG hS) rfl rfl hl.1 rfl (lv_room (Nat.le_of_ble_eq_true rfl)) d_Mo_there_5 ⟨(by decide), (by decide)⟩) hS (fun r5 G5 H locs hp5 hG hS => ?_)
  have hG : zP E G H := hp5.2 ▸ hG
  refine lv_if_eq (tgt := 23) hx hb d_Mo_there_8 (by decide) (fun c8 => ?_) (fun c8 => ?_)
  · refine lv_iconst (v := 0) hx hb d_Mo_there_23 (by decide) ?_
    exact hret _ _ _ _ _ _ _ _ _ hr (rfl) (⟨zb.f (by first | exact fun z => hp5.1.z c8 z.1 | exact fun z => absurd z.2.1 (by omega)), rfl⟩) hG hS (Nat.le_refl _) (Nat.le_refl _) d_Mo_there_24
  · refine lv_aload_n hx hb d_Mo_there_11 rfl (lv_at hl 1 rfl) ?_
    refine zg_alen hx hb hK hG 0 hb1 rfl (v := nI (np_len ls1)) rfl d_Mo_there_12 ?_
    refine lv_iload_n hx hb d_Mo_there_13 rfl (lv_at hl 2 rfl) ?_
    refine lv_isub hx hb d_Mo_there_14 ?_
    refine zi_as (y := nI (np_len ls1 - (np_pos ls1 kk))) (zi_sub (a := np_len ls1) (b := np_pos ls1 kk) (by omega)) ?_
    refine lv_aload_n hx hb d_Mo_there_15 rfl (lv_at hl 0 rfl) ?_
    refine zg_get (ci := 11) (C := "ZoneAnswersModel") (T := T_Mo) (N := 21) hx hb hts zi_Mo hown hK hG ha rfl 3 (by decide) (hts _ w_1284) (fun _ h9 => h9) rfl d_Mo_there_16 ?_
    refine zg_alen hx hb hK hG 0 hm3 rfl (v := nI (np_len lo)) rfl d_Mo_there_19 ?_
    refine lv_icmp_ge (tgt := 25) hx hb d_Mo_there_20 (by decide) (fun c20 => ?_) (fun c20 => ?_)
    · have b20 : (np_len lo) ≤ (np_len ls1 - (np_pos ls1 kk)) := (nI_leI (a := (np_len lo)) (b := (np_len ls1 - (np_pos ls1 kk))) (by omega) (by omega)).mp c20
      refine lv_iconst (v := 0) hx hb d_Mo_there_25 (by decide) ?_
      refine zi_as (y := nI 0) (nI_0.symm) ?_
      refine lv_istore_n (lv' := [(3, .int (nI 0)), (0, .ref a), (1, .ref b1), (2, .int (nI (np_pos ls1 kk)))]) hx hb d_Mo_there_26 rfl hl (by decide) rfl (fun ls hl => ?_)
      have loop27 : ∀ (N : Nat) (i : Nat) (H : Heap) (locs : List Loc), (rs.length - i) < N → (i ≤ rs.length) → (∀ j, j < i → ¬ (fun e => ls1.drop kk <:+ rM e) (re rs j)) → zP E G H → zg_S (zc_b E) s.heap H locs → ∀ (ls : Array Slot), lv_has ls 4 [(0, .ref a), (1, .ref b1), (2, .int (nI (np_pos ls1 kk))), (3, .int (nI i))] → W p l e rm_Mo_there s m args below meth c H locs 0 0 Q (F0 m 27 ls []) := by
        intro N
        induction N with
        | zero =>
          intro i H locs hlt
          exact absurd hlt (Nat.not_lt_zero _)
        | succ N ih =>
          intro i H locs hlt hi hq hG hS ls hl
          refine lv_iload_n hx hb d_Mo_there_27 rfl (lv_at hl 3 rfl) ?_
          refine lv_aload_n hx hb d_Mo_there_28 rfl (lv_at hl 0 rfl) ?_
          refine zg_get (ci := 11) (C := "ZoneAnswersModel") (T := T_Mo) (N := 21) hx hb hts zi_Mo hown hK hG ha rfl 5 (by decide) (hts _ w_1286) (fun _ h9 => h9) rfl d_Mo_there_29 ?_
          refine lv_icmp_ge (tgt := 60) hx hb d_Mo_there_32 (by decide) (fun c32 => ?_) (fun c32 => ?_)
          · have b32 : rs.length ≤ i := (nI_leI (a := rs.length) (b := i) (by omega) (by omega)).mp c32
            refine lv_iconst (v := 0) hx hb d_Mo_there_60 (by decide) ?_
            exact hret _ _ _ _ _ _ _ _ _ hr (rfl) (⟨zb.f (fun z => re_ex (P := (fun e => ls1.drop kk <:+ rM e)) (by omega) hq z.2.2), rfl⟩) hG hS (Nat.le_refl _) (Nat.le_refl _) d_Mo_there_61
          · have b32 : ¬ rs.length ≤ i := fun q => c32 ((nI_leI (a := rs.length) (b := i) (by omega) (by omega)).mpr q)
            have hin : i < rs.length := by omega
            obtain ⟨hr1, ⟨nf, hr2, hr3, hr4, hr5⟩, df, hr6, hr7, hr8⟩ := hRs _ (re_mem hin)
            have sm := hr4.2
            refine lv_aload_n hx hb d_Mo_there_35 rfl (lv_at hl 0 rfl) ?_
            refine zg_get (ci := 11) (C := "ZoneAnswersModel") (T := T_Mo) (N := 21) hx hb hts zi_Mo hown hK hG ha rfl 4 (by decide) (hts _ w_1285) (fun _ h9 => h9) rfl d_Mo_there_36 ?_
            refine lv_iload_n hx hb d_Mo_there_39 rfl (lv_at hl 3 rfl) ?_
            refine zg_aldq hx hb hK hG 4 hm4 rfl (vp_in_nI (by omega) (by omega)) d_Mo_there_40 ?_
            refine zr_as (y := fr i) (by rw [zi_n _ (by omega)]) ?_
            refine zr_some (a := rA (re rs i)) (hfr i hin) ?_
            refine zg_get (ci := 12) (C := "ZoneAnswersModel$Rec") (T := T_Re) (N := 5) hx hb hts zi_Re hown hK hG hr1 rfl 0 (by decide) (hts _ w_1265) (fun _ h9 => h9) rfl d_Mo_there_41 ?_
            refine lv_aload_n hx hb d_Mo_there_44 rfl (lv_at hl 1 rfl) ?_
            refine lv_iload_n hx hb d_Mo_there_45 rfl (lv_at hl 2 rfl) ?_
            refine zk_i (va_runS (As := [.ref (rN (re rs i)), .ref b1, .int (nI (np_pos ls1 kk))]) (rest := []) ⟨hx, hb, hml, hown, hts⟩ (t_Ns_below_2 l E G (rN (re rs i)) (rM (re rs i)) nf hr2 hr3 hr4 b1 ls1 f1 hb1 hf1 hg1 kk hkk) (zcS 3 hts w_1544 w_1396 w_33 w_1397 (by decide +kernel) ⟨Nat.le_of_ble_eq_true rfl, Nat.le_of_ble_eq_true rfl⟩) (zc_pre hbase hK hN hQ hG hS) rfl rfl hl.1 rfl (lv_room (Nat.le_of_ble_eq_true rfl)) d_Mo_there_46 ⟨(by decide), (by decide)⟩) hS (fun r46 G46 H locs hp46 hG hS => ?_)
            have hG : zP E G H := hp46.2 ▸ hG
            refine lv_if_eq (tgt := 54) hx hb d_Mo_there_49 (by decide) (fun c49 => ?_) (fun c49 => ?_)
            · refine lv_iinc (v := nI (i + 1)) (lv' := [(3, .int (nI (i + 1))), (0, .ref a), (1, .ref b1), (2, .int (nI (np_pos ls1 kk)))]) hx hb d_Mo_there_54 hl (k := 3) rfl (nI_add i 1) (by decide) rfl (fun ls hl => ?_)
              refine lv_goto (tgt := 27) hx hb d_Mo_there_57 (by decide) ?_
              exact ih (i + 1) _ _ (by omega) (by omega) (re_step (P := (fun e => ls1.drop kk <:+ rM e)) hq (fun z => hp46.1.z c49 z)) hG hS ls (lv_sub hl [1, 2, 3, 0] rfl)
            · refine lv_iconst (v := 1) hx hb d_Mo_there_52 (by decide) ?_
              exact hret _ _ _ _ _ _ _ _ _ hr (rfl) (⟨zb.t ⟨hp5.1.nz c8, by omega, _, re_mem hin, hp46.1.nz c49⟩, rfl⟩) hG hS (Nat.le_refl _) (Nat.le_refl _) d_Mo_there_53
      exact loop27 _ 0 _ _ (Nat.lt_succ_self _) (Nat.zero_le _) (fun j h => absurd h (Nat.not_lt_zero j)) hG hS ls (lv_sub hl [1, 2, 3, 0] rfl)
    · have b20 : ¬ (np_len lo) ≤ (np_len ls1 - (np_pos ls1 kk)) := fun q => c20 ((nI_leI (a := (np_len lo)) (b := (np_len ls1 - (np_pos ls1 kk))) (by omega) (by omega)).mpr q)
      refine lv_iconst (v := 0) hx hb d_Mo_there_23 (by decide) ?_
      exact hret _ _ _ _ _ _ _ _ _ hr (rfl) (⟨zb.f (by first | exact fun z => hp5.1.z c8 z.1 | exact fun z => absurd z.2.1 (by omega)), rfl⟩) hG hS (Nat.le_refl _) (Nat.le_refl _) d_Mo_there_24
abbrev rm_Mo_cut : Room := { frames := 3, cells := 0, slots := 0, locals := 70 }
set_option maxHeartbeats 4000000 in
set_option maxRecDepth 100000 in
/-- cut(x, at), of the reference -/
theorem t_Mo_cut (l : Launch) (E : zc_E) (G : zg_G) (rs : List zRt) (a m1 m3 m4 m6 m7 m8 m9 m10 m11 m12 m15 m18 : Nat) (th tn m13 m14 m16 m17 : Int32) (m19 m20 : Value) (ha : G a = some (.inr (11, [.int th, .ref m1, .int tn, .ref m3, .ref m4, .int (nI rs.length), .ref m6, .ref m7, .ref m8, .ref m9, .ref m10, .ref m11, .ref m12, .int m13, .int m14, .ref m15, .int m16, .int m17, .ref m18, m19, m20]))) (hRS : zRS E G m4 rs) (lo : np_N) (fo : Nat → Int32) (hm3 : G m3 = some (.inl (E.2.1 0, np_len lo, .inl fo))) (hfo : np_f lo fo) (hgo : np_g lo) (b1 : Nat) (ls1 : np_N) (f1 : Nat → Int32) (hb1 : G b1 = some (.inl (E.2.1 0, np_len ls1, .inl f1))) (hf1 : np_f ls1 f1) (hg1 : np_g ls1) (kk : Nat) (hkk : kk ≤ ls1.length) : zMi l E y_Mo_cut c_Mo_cut 3 (some .boolean) rm_Mo_cut [.ref a, .ref b1, .int (nI (np_pos ls1 kk))] G (fun (r : Int32) (G2 : zg_G) => zb r (zcut lo rs (ls1.drop kk)) ∧ G2 = G) := by
  refine zMi.of (by decide) (Nat.le_of_ble_eq_true rfl) ?_
  intro p e s m args below meth c Q hZ hG hret ls hl
  obtain ⟨hx, hb, hr, hts, hown, hlocks, hml, hnm, hbase, hK, hN, hQ⟩ := hZ
  have hl : lv_has ls 3 [(0, .ref a), (1, .ref b1), (2, .int (nI (np_pos ls1 kk)))] := hl
  have hS : zg_S (zc_b E) s.heap s.heap [] := va_S.rf
  obtain ⟨⟨fr, hm4, hfr⟩, hn2, hRs⟩ := id hRS
  have sm1 := hg1.2
  have smo := hgo.2
  have zp1 := np_pos_le ls1 kk hkk
  refine lv_aload_n hx hb d_Mo_cut_0 rfl (lv_at hl 1 rfl) ?_
  refine lv_iload_n hx hb d_Mo_cut_1 rfl (lv_at hl 2 rfl) ?_
  refine lv_aload_n hx hb d_Mo_cut_2 rfl (lv_at hl 0 rfl) ?_
  refine zg_get (ci := 11) (C := "ZoneAnswersModel") (T := T_Mo) (N := 21) hx hb hts zi_Mo hown hK hG ha rfl 3 (by decide) (hts _ w_1284) (fun _ h9 => h9) rfl d_Mo_cut_3 ?_
  refine lv_iconst (v := 0) hx hb d_Mo_cut_6 (by decide) ?_
  refine zi_as (y := nI 0) (nI_0.symm) ?_
  refine zk_i (va_runS (As := [.ref b1, .int (nI (np_pos ls1 kk)), .ref m3, .int (nI 0)]) (rest := []) ⟨hx, hb, hml, hown, hts⟩ (t_Ns_ends l E G b1 (np_len ls1) f1 hb1 m3 (np_len lo) fo hm3 (np_pos ls1 kk) 0 (by omega) (by omega) (by omega) (by omega)) (zcS 4 hts w_1412 w_1399 w_33 w_1400 (by decide +kernel) ⟨Nat.le_of_ble_eq_true rfl, Nat.le_of_ble_eq_true rfl⟩) (zc_pre hbase hK hN hQ hG hS) rfl rfl hl.1 rfl (lv_room (Nat.le_of_ble_eq_true rfl)) d_Mo_cut_7 ⟨(by decide), (by decide)⟩) hS (fun r7 G7 H locs hp7 hG hS => ?_)
  have hG : zP E G H := hp7.2 ▸ hG
  refine lv_if_ne (tgt := 27) hx hb d_Mo_cut_10 (by decide) (fun c10 => ?_) (fun c10 => ?_)
  · refine lv_iconst (v := 0) hx hb d_Mo_cut_27 (by decide) ?_
    exact hret _ _ _ _ _ _ _ _ _ hr (rfl) (⟨by first | exact zb.t ⟨fun z => hp7.1.z c10 ((zsm_e2 hfo hf1 hgo hg1 hkk).mpr z), hp17.1.nz c20⟩ | exact zb.f (fun z => z.1 ((zsm_e2 hfo hf1 hgo hg1 hkk).mp (hp7.1.nz c10))) | exact zb.f (fun z => hp17.1.z c20 z.2), rfl⟩) hG hS (Nat.le_refl _) (Nat.le_refl _) d_Mo_cut_28
  · refine lv_aload_n hx hb d_Mo_cut_13 rfl (lv_at hl 0 rfl) ?_
    refine lv_aload_n hx hb d_Mo_cut_14 rfl (lv_at hl 1 rfl) ?_
    refine lv_iload_n hx hb d_Mo_cut_15 rfl (lv_at hl 2 rfl) ?_
    refine lv_iconst (v := 2) hx hb d_Mo_cut_16 (by decide) ?_
    refine zk_i (va_runV (As := [.ref b1, .int (nI (np_pos ls1 kk)), .int 2]) (rest := []) ⟨hx, hb, hml, hown, hts⟩ (t_Mo_has l E G rs a m1 m3 m4 m6 m7 m8 m9 m10 m11 m12 m15 m18 th tn m13 m14 m16 m17 m19 m20 ha hRS b1 ls1 f1 hb1 hf1 hg1 kk hkk 2) (zcV 3 hts w_1408 w_1410 wp_30 w_30 w_1411 (by decide +kernel) ⟨Nat.le_of_ble_eq_true rfl, Nat.le_of_ble_eq_true rfl⟩) (zc_preV hbase hK hN hQ hG hS ha rfl) rfl rfl hl.1 rfl (lv_room (Nat.le_of_ble_eq_true rfl)) d_Mo_cut_17 ⟨(by decide), (by decide)⟩) hS (fun r17 G17 H locs hp17 hG hS => ?_)
    have hG : zP E G H := hp17.2 ▸ hG
    refine lv_if_eq (tgt := 27) hx hb d_Mo_cut_20 (by decide) (fun c20 => ?_) (fun c20 => ?_)
    · refine lv_iconst (v := 0) hx hb d_Mo_cut_27 (by decide) ?_
      exact hret _ _ _ _ _ _ _ _ _ hr (rfl) (⟨by first | exact zb.t ⟨fun z => hp7.1.z c10 ((zsm_e2 hfo hf1 hgo hg1 hkk).mpr z), hp17.1.nz c20⟩ | exact zb.f (fun z => z.1 ((zsm_e2 hfo hf1 hgo hg1 hkk).mp (hp7.1.nz c10))) | exact zb.f (fun z => hp17.1.z c20 z.2), rfl⟩) hG hS (Nat.le_refl _) (Nat.le_refl _) d_Mo_cut_28
    · refine lv_iconst (v := 1) hx hb d_Mo_cut_23 (by decide) ?_
      refine lv_goto (tgt := 28) hx hb d_Mo_cut_24 (by decide) ?_
      exact hret _ _ _ _ _ _ _ _ _ hr (rfl) (⟨by first | exact zb.t ⟨fun z => hp7.1.z c10 ((zsm_e2 hfo hf1 hgo hg1 hkk).mpr z), hp17.1.nz c20⟩ | exact zb.f (fun z => z.1 ((zsm_e2 hfo hf1 hgo hg1 hkk).mp (hp7.1.nz c10))) | exact zb.f (fun z => hp17.1.z c20 z.2), rfl⟩) hG hS (Nat.le_refl _) (Nat.le_refl _) d_Mo_cut_28
abbrev rm_Mo_cutOver : Room := { frames := 4, cells := 0, slots := 0, locals := 100 }
set_option maxHeartbeats 4000000 in
set_option maxRecDepth 100000 in
/-- cutOver(x), of the reference -/
theorem t_Mo_cutOver (l : Launch) (E : zc_E) (G : zg_G) (rs : List zRt) (a m1 m3 m4 m6 m7 m8 m9 m10 m11 m12 m15 m18 : Nat) (th tn m13 m14 m16 m17 : Int32) (m19 m20 : Value) (ha : G a = some (.inr (11, [.int th, .ref m1, .int tn, .ref m3, .ref m4, .int (nI rs.length), .ref m6, .ref m7, .ref m8, .ref m9, .ref m10, .ref m11, .ref m12, .int m13, .int m14, .ref m15, .int m16, .int m17, .ref m18, m19, m20]))) (hRS : zRS E G m4 rs) (lo : np_N) (fo : Nat → Int32) (hm3 : G m3 = some (.inl (E.2.1 0, np_len lo, .inl fo))) (hfo : np_f lo fo) (hgo : np_g lo) (b1 : Nat) (ls1 : np_N) (f1 : Nat → Int32) (hb1 : G b1 = some (.inl (E.2.1 0, np_len ls1, .inl f1))) (hf1 : np_f ls1 f1) (hg1 : np_g ls1) : zMi l E y_Mo_cutOver c_Mo_cutOver 4 (some .int) rm_Mo_cutOver [.ref a, .ref b1] G (fun (r : Int32) (G2 : zg_G) => ((∃ k, lo.length < k ∧ k ≤ ls1.length ∧ zcut lo rs (ls1.drop (ls1.length - k)) ∧ (∀ j, lo.length < j → j < k → ¬ zcut lo rs (ls1.drop (ls1.length - j))) ∧ r = nI (np_pos ls1 (ls1.length - k))) ∨ ((∀ k, lo.length < k → k ≤ ls1.length → ¬ zcut lo rs (ls1.drop (ls1.length - k))) ∧ r = -1)) ∧ G2 = G) := by
  refine zMi.of (by decide) (Nat.le_of_ble_eq_true rfl) ?_
  intro p e s m args below meth c Q hZ hG hret ls hl
  obtain ⟨hx, hb, hr, hts, hown, hlocks, hml, hnm, hbase, hK, hN, hQ⟩ := hZ
  have hl : lv_has ls 4 [(0, .ref a), (1, .ref b1)] := hl
  have hS : zg_S (zc_b E) s.heap s.heap [] := va_S.rf
  obtain ⟨⟨fr, hm4, hfr⟩, hn2, hRs⟩ := id hRS
  have cn1 := hg1.count
  have cno := hgo.count
  refine lv_aload_n hx hb d_Mo_cutOver_0 rfl (lv_at hl 0 rfl) ?_
  refine zg_get (ci := 11) (C := "ZoneAnswersModel") (T := T_Mo) (N := 21) hx hb hts zi_Mo hown hK hG ha rfl 3 (by decide) (hts _ w_1284) (fun _ h9 => h9) rfl d_Mo_cutOver_1 ?_
  refine zk_i (va_runS (As := [.ref m3]) (rest := []) ⟨hx, hb, hml, hown, hts⟩ (t_Ns_labels l E G m3 lo fo hm3 hfo hgo) (zcS 1 hts w_1460 w_1461 w_33 w_1462 (by decide +kernel) ⟨Nat.le_of_ble_eq_true rfl, Nat.le_of_ble_eq_true rfl⟩) (zc_pre hbase hK hN hQ hG hS) rfl rfl hl.1 rfl (lv_room (Nat.le_of_ble_eq_true rfl)) d_Mo_cutOver_4 ⟨(by decide), (by decide)⟩) hS (fun r4 G4 H locs hp4 hG hS => ?_)
  have hG : zP E G H := hp4.2 ▸ hG
  refine zi_as (y := nI lo.length) hp4.1 ?_
  refine lv_iconst (v := 1) hx hb d_Mo_cutOver_7 (by decide) ?_
  refine lv_iadd hx hb d_Mo_cutOver_8 ?_
  refine zi_as (y := nI (lo.length + 1)) (nI_add lo.length 1) ?_
  refine lv_istore_n (lv' := [(2, .int (nI (lo.length + 1))), (0, .ref a), (1, .ref b1)]) hx hb d_Mo_cutOver_9 rfl hl (by decide) rfl (fun ls hl => ?_)
  have loop10 : ∀ (N : Nat) (k : Nat) (H : Heap) (locs : List Loc), (ls1.length + 1 - k) < N → (lo.length < k) → (k ≤ 400) → (∀ j, lo.length < j → j < k → ¬ zcut lo rs (ls1.drop (ls1.length - j))) → zP E G H → zg_S (zc_b E) s.heap H locs → ∀ (ls : Array Slot), lv_has ls 4 [(0, .ref a), (1, .ref b1), (2, .int (nI k))] → W p l e rm_Mo_cutOver s m args below meth c H locs 0 0 Q (F0 m 10 ls []) := by
    intro N
    induction N with
    | zero =>
      intro k H locs hlt
      exact absurd hlt (Nat.not_lt_zero _)
    | succ N ih =>
      intro k H locs hlt hk1 hk2 hq hG hS ls hl
      refine lv_iload_n hx hb d_Mo_cutOver_10 rfl (lv_at hl 2 rfl) ?_
      refine lv_aload_n hx hb d_Mo_cutOver_11 rfl (lv_at hl 1 rfl) ?_
      refine zk_i (va_runS (As := [.ref b1]) (rest := [.int (nI k)]) ⟨hx, hb, hml, hown, hts⟩ (t_Ns_labels l E G b1 ls1 f1 hb1 hf1 hg1) (zcS 1 hts w_1460 w_1461 w_33 w_1462 (by decide +kernel) ⟨Nat.le_of_ble_eq_true rfl, Nat.le_of_ble_eq_true rfl⟩) (zc_pre hbase hK hN hQ hG hS) rfl rfl hl.1 rfl (lv_room (Nat.le_of_ble_eq_true rfl)) d_Mo_cutOver_12 ⟨(by decide), (by decide)⟩) hS (fun r12 G12 H locs hp12 hG hS => ?_)
      have hG : zP E G H := hp12.2 ▸ hG
      refine zi_as (y := nI ls1.length) hp12.1 ?_
      refine lv_icmp_gt (tgt := 41) hx hb d_Mo_cutOver_15 (by decide) (fun c15 => ?_) (fun c15 => ?_)
      · have b15 : ls1.length < k := (nI_ltI (a := ls1.length) (b := k) (by omega) (by omega)).mp c15
        refine lv_iconst (v := -1) hx hb d_Mo_cutOver_41 (by decide) ?_
        exact hret _ _ _ _ _ _ _ _ _ hr (rfl) (⟨Or.inr ⟨fun j h1 h2 => hq j h1 (by omega), rfl⟩, rfl⟩) hG hS (Nat.le_refl _) (Nat.le_refl _) d_Mo_cutOver_42
      · have b15 : ¬ ls1.length < k := fun q => c15 ((nI_ltI (a := ls1.length) (b := k) (by omega) (by omega)).mpr q)
        refine lv_aload_n hx hb d_Mo_cutOver_18 rfl (lv_at hl 1 rfl) ?_
        refine lv_iload_n hx hb d_Mo_cutOver_19 rfl (lv_at hl 2 rfl) ?_
        refine zk_i (va_runS (As := [.ref b1, .int (nI k)]) (rest := []) ⟨hx, hb, hml, hown, hts⟩ (t_Ns_place l E G b1 ls1 f1 hb1 hf1 hg1 k (by omega)) (zcS 2 hts w_1463 w_1464 w_33 w_1465 (by decide +kernel) ⟨Nat.le_of_ble_eq_true rfl, Nat.le_of_ble_eq_true rfl⟩) (zc_pre hbase hK hN hQ hG hS) rfl rfl hl.1 rfl (lv_room (Nat.le_of_ble_eq_true rfl)) d_Mo_cutOver_20 ⟨(by decide), (by decide)⟩) hS (fun r20 G20 H locs hp20 hG hS => ?_)
        have hG : zP E G H := hp20.2 ▸ hG
        refine zi_as (y := nI (np_pos ls1 (ls1.length - k))) hp20.1 ?_
        refine lv_istore_n (lv' := [(3, .int (nI (np_pos ls1 (ls1.length - k)))), (0, .ref a), (1, .ref b1), (2, .int (nI k))]) hx hb d_Mo_cutOver_23 rfl hl (by decide) rfl (fun ls hl => ?_)
        refine lv_aload_n hx hb d_Mo_cutOver_24 rfl (lv_at hl 1 rfl) ?_
        refine lv_aload_n hx hb d_Mo_cutOver_25 rfl (lv_at hl 2 rfl) ?_
        refine lv_iload_n hx hb d_Mo_cutOver_26 rfl (lv_at hl 0 rfl) ?_
        refine zk_i (va_runV (As := [.ref b1, .int (nI (np_pos ls1 (ls1.length - k)))]) (rest := []) ⟨hx, hb, hml, hown, hts⟩ (t_Mo_cut l E G rs a m1 m3 m4 m6 m7 m8 m9 m10 m11 m12 m15 m18 th tn m13 m14 m16 m17 m19 m20 ha hRS lo fo hm3 hfo hgo b1 ls1 f1 hb1 hf1 hg1 (ls1.length - k) (by omega)) (zcV 2 hts w_1467 w_1469 wp_38 w_30 w_1470 (by decide +kernel) ⟨Nat.le_of_ble_eq_true rfl, Nat.le_of_ble_eq_true rfl⟩) (zc_preV hbase hK hN hQ hG hS ha rfl) rfl rfl hl.1 rfl (lv_room (Nat.le_of_ble_eq_true rfl)) d_Mo_cutOver_27 ⟨(by decide), (by decide)⟩) hS (fun r27 G27 H locs hp27 hG hS => ?_)
        have hG : zP E G H := hp27.2 ▸ hG
        refine lv_if_eq (tgt := 35) hx hb d_Mo_cutOver_30 (by decide) (fun c30 => ?_) (fun c30 => ?_)
        · refine lv_iinc (v := nI (k + 1)) (lv' := [(2, .int (nI (k + 1))), (3, .int (nI (np_pos ls1 (ls1.length - k)))), (0, .ref a), (1, .ref b1)]) hx hb d_Mo_cutOver_35 hl (k := 3) rfl (nI_add k 1) (by decide) rfl (fun ls hl => ?_)
          refine lv_goto (tgt := 10) hx hb d_Mo_cutOver_38 (by decide) ?_
          exact ih (k + 1) _ _ (by omega) (by omega) (by omega) (fun j h1 h2 => by rcases Nat.lt_or_ge j k with q | q; exact hq j h1 q; rw [show j = k by omega]; exact hp27.1.z c30) hG hS ls (lv_sub hl [2, 3, 0] rfl)
        · refine lv_iload_n hx hb d_Mo_cutOver_33 rfl (lv_at hl 0 rfl) ?_
          exact hret _ _ _ _ _ _ _ _ _ hr (rfl) (⟨Or.inl ⟨k, hk1, by omega, hp27.1.nz c30, hq, rfl⟩, rfl⟩) hG hS (Nat.le_refl _) (Nat.le_refl _) d_Mo_cutOver_34
  exact loop10 _ (lo.length + 1) _ _ (Nat.lt_succ_self _) (Nat.lt_succ_self _) (by omega) (fun j h1 h2 => absurd h1 (by omega)) hG hS ls (lv_sub hl [1, 2, 0] rfl)
abbrev rm_Mo_away : Room := { frames := 5, cells := 0, slots := 0, locals := 130 }
set_option maxHeartbeats 4000000 in
set_option maxRecDepth 100000 in
/-- away(x), of the reference -/
theorem t_Mo_away (l : Launch) (E : zc_E) (G : zg_G) (rs : List zRt) (a m1 m3 m4 m6 m7 m8 m9 m10 m11 m12 m15 m18 : Nat) (th tn m13 m14 m16 m17 : Int32) (m19 m20 : Value) (ha : G a = some (.inr (11, [.int th, .ref m1, .int tn, .ref m3, .ref m4, .int (nI rs.length), .ref m6, .ref m7, .ref m8, .ref m9, .ref m10, .ref m11, .ref m12, .int m13, .int m14, .ref m15, .int m16, .int m17, .ref m18, m19, m20]))) (hRS : zRS E G m4 rs) (lo : np_N) (fo : Nat → Int32) (hm3 : G m3 = some (.inl (E.2.1 0, np_len lo, .inl fo))) (hfo : np_f lo fo) (hgo : np_g lo) (b1 : Nat) (ls1 : np_N) (f1 : Nat → Int32) (hb1 : G b1 = some (.inl (E.2.1 0, np_len ls1, .inl f1))) (hf1 : np_f ls1 f1) (hg1 : np_g ls1) : zMi l E y_Mo_away c_Mo_away 2 (some .boolean) rm_Mo_away [.ref a, .ref b1] G (fun (r : Int32) (G2 : zg_G) => zb r (zaway lo rs ls1) ∧ G2 = G) := by
  refine zMi.of (by decide) (Nat.le_of_ble_eq_true rfl) ?_
  intro p e s m args below meth c Q hZ hG hret ls hl
  obtain ⟨hx, hb, hr, hts, hown, hlocks, hml, hnm, hbase, hK, hN, hQ⟩ := hZ
  have hl : lv_has ls 2 [(0, .ref a), (1, .ref b1)] := hl
  have hS : zg_S (zc_b E) s.heap s.heap [] := va_S.rf
  obtain ⟨⟨fr, hm4, hfr⟩, hn2, hRs⟩ := id hRS
  refine lv_aload_n hx hb d_Mo_away_0 rfl (lv_at hl 0 rfl) ?_
  refine lv_aload_n hx hb d_Mo_away_1 rfl (lv_at hl 1 rfl) ?_
  have hGo2 := hG
  refine zk_i (va_runV (As := [.ref b1]) (rest := []) ⟨hx, hb, hml, hown, hts⟩ (t_Mo_cutOver l E G rs a m1 m3 m4 m6 m7 m8 m9 m10 m11 m12 m15 m18 th tn m13 m14 m16 m17 m19 m20 ha hRS lo fo hm3 hfo hgo b1 ls1 f1 hb1 hf1 hg1) (zcV 1 hts w_1456 w_1458 wp_37 w_30 w_1459 (by decide +kernel) ⟨Nat.le_of_ble_eq_true rfl, Nat.le_of_ble_eq_true rfl⟩) (zc_preV hbase hK hN hQ hG hS ha rfl) rfl rfl hl.1 rfl (lv_room (Nat.le_of_ble_eq_true rfl)) d_Mo_away_2 ⟨(by decide), (by decide)⟩) hS (fun r2 G2 H locs hp2 hG hS => ?_)
  have hG : zP E G H := hp2.2 ▸ hG
  have hz9 : (0 < r2 ↔ zaway lo rs ls1) := by
    rcases hp2.1 with ⟨k, q1, q2, q3, q4, q5⟩ | ⟨q1, q2⟩
    · have sm := np_pos_le ls1 (ls1.length - k) (by omega)
      have sm1 := hg1.2
      rw [q5]
      have e0 : (0 : Int32) < nI (np_pos ls1 (ls1.length - k)) ↔ 0 < np_pos ls1 (ls1.length - k) := nI_ltI (a := 0) (by omega) (by omega)
      rw [e0]
      constructor
      · intro z
        exact ⟨k, q1, by rcases Nat.lt_or_ge k ls1.length with y | y; exact y; have := (np_pos_z q2).mpr (by omega); omega, q3⟩
      · rintro ⟨j, j1, j2, j3⟩
        rcases Nat.lt_or_ge j k with y | y
        · exact absurd j3 (q4 j j1 y)
        · rcases Nat.eq_zero_or_pos (np_pos ls1 (ls1.length - k)) with y2 | y2
          · have := (np_pos_z q2).mp y2; omega
          · exact y2
    · rw [q2]
      constructor
      · intro z; exact absurd z (by decide)
      · rintro ⟨j, j1, j2, j3⟩; exact absurd j3 (q1 j j1 (by omega))
  refine lv_if_le (tgt := 12) hx hb d_Mo_away_5 (by decide) (fun c5 => ?_) (fun c5 => ?_)
  · refine lv_iconst (v := 0) hx hb d_Mo_away_12 (by decide) ?_
    exact hret _ _ _ _ _ _ _ _ _ hr (rfl) (⟨by first | exact zb.t (hz9.mp (Int32.not_le.mp c5)) | exact zb.f (fun z => absurd (hz9.mpr z) (Int32.not_lt.mpr c5)), rfl⟩) hG hS (Nat.le_refl _) (Nat.le_refl _) d_Mo_away_13
  · refine lv_iconst (v := 1) hx hb d_Mo_away_8 (by decide) ?_
    refine lv_goto (tgt := 13) hx hb d_Mo_away_9 (by decide) ?_
    exact hret _ _ _ _ _ _ _ _ _ hr (rfl) (⟨by first | exact zb.t (hz9.mp (Int32.not_le.mp c5)) | exact zb.f (fun z => absurd (hz9.mpr z) (Int32.not_lt.mpr c5)), rfl⟩) hG hS (Nat.le_refl _) (Nat.le_refl _) d_Mo_away_13
abbrev rm_Mo_inChain : Room := { frames := 6, cells := 0, slots := 0, locals := 160 }
set_option maxHeartbeats 4000000 in
set_option maxRecDepth 100000 in
/-- inChain(x), of the reference -/
theorem t_Mo_inChain (l : Launch) (E : zc_E) (G : zg_G) (rs : List zRt) (a m1 m3 m4 m6 m7 m8 m9 m10 m11 m12 m15 m18 : Nat) (th tn m13 m14 m16 m17 : Int32) (m19 m20 : Value) (ha : G a = some (.inr (11, [.int th, .ref m1, .int tn, .ref m3, .ref m4, .int (nI rs.length), .ref m6, .ref m7, .ref m8, .ref m9, .ref m10, .ref m11, .ref m12, .int m13, .int m14, .ref m15, .int m16, .int m17, .ref m18, m19, m20]))) (hRS : zRS E G m4 rs) (lo : np_N) (fo : Nat → Int32) (hm3 : G m3 = some (.inl (E.2.1 0, np_len lo, .inl fo))) (hfo : np_f lo fo) (hgo : np_g lo) (b1 : Nat) (ls1 : np_N) (f1 : Nat → Int32) (hb1 : G b1 = some (.inl (E.2.1 0, np_len ls1, .inl f1))) (hf1 : np_f ls1 f1) (hg1 : np_g ls1) : zMi l E y_Mo_inChain c_Mo_inChain 2 (some .boolean) rm_Mo_inChain [.ref a, .ref b1] G (fun (r : Int32) (G2 : zg_G) => zb r ((∃ e ∈ rs, rM e = ls1) ∧ ¬ zaway lo rs ls1) ∧ G2 = G) := by
  refine zMi.of (by decide) (Nat.le_of_ble_eq_true rfl) ?_
  intro p e s m args below meth c Q hZ hG hret ls hl
  obtain ⟨hx, hb, hr, hts, hown, hlocks, hml, hnm, hbase, hK, hN, hQ⟩ := hZ
  have hl : lv_has ls 2 [(0, .ref a), (1, .ref b1)] := hl
  have hS : zg_S (zc_b E) s.heap s.heap [] := va_S.rf
  obtain ⟨⟨fr, hm4, hfr⟩, hn2, hRs⟩ := id hRS
  refine lv_aload_n hx hb d_Mo_inChain_0 rfl (lv_at hl 0 rfl) ?_
  refine lv_aload_n hx hb d_Mo_inChain_1 rfl (lv_at hl 1 rfl) ?_
  refine zk_i (va_runV (As := [.ref b1]) (rest := []) ⟨hx, hb, hml, hown, hts⟩ (t_Mo_any l E G rs a m1 m3 m4 m6 m7 m8 m9 m10 m11 m12 m15 m18 th tn m13 m14 m16 m17 m19 m20 ha hRS b1 ls1 f1 hb1 hf1 hg1) (zcV 1 hts w_1413 w_1415 wp_31 w_30 w_1416 (by decide +kernel) ⟨Nat.le_of_ble_eq_true rfl, Nat.le_of_ble_eq_true rfl⟩) (zc_preV hbase hK hN hQ hG hS ha rfl) rfl rfl hl.1 rfl (lv_room (Nat.le_of_ble_eq_true rfl)) d_Mo_inChain_2 ⟨(by decide), (by decide)⟩) hS (fun r2 G2 H locs hp2 hG hS => ?_)
  have hG : zP E G H := hp2.2 ▸ hG
  refine lv_if_eq (tgt := 20) hx hb d_Mo_inChain_5 (by decide) (fun c5 => ?_) (fun c5 => ?_)
  · refine lv_iconst (v := 0) hx hb d_Mo_inChain_20 (by decide) ?_
    exact hret _ _ _ _ _ _ _ _ _ hr (rfl) (⟨by first | exact zb.t ⟨hp2.1.nz c5, hp10.1.z c13⟩ | exact zb.f (fun z => hp2.1.z c5 z.1) | exact zb.f (fun z => z.2 (hp10.1.nz c13)), rfl⟩) hG hS (Nat.le_refl _) (Nat.le_refl _) d_Mo_inChain_21
  · refine lv_aload_n hx hb d_Mo_inChain_8 rfl (lv_at hl 0 rfl) ?_
    refine lv_aload_n hx hb d_Mo_inChain_9 rfl (lv_at hl 1 rfl) ?_
    refine zk_i (va_runV (As := [.ref b1]) (rest := []) ⟨hx, hb, hml, hown, hts⟩ (t_Mo_away l E G rs a m1 m3 m4 m6 m7 m8 m9 m10 m11 m12 m15 m18 th tn m13 m14 m16 m17 m19 m20 ha hRS lo fo hm3 hfo hgo b1 ls1 f1 hb1 hf1 hg1) (zcV 1 hts w_1512 w_1514 wp_46 w_30 w_1515 (by decide +kernel) ⟨Nat.le_of_ble_eq_true rfl, Nat.le_of_ble_eq_true rfl⟩) (zc_preV hbase hK hN hQ hG hS ha rfl) rfl rfl hl.1 rfl (lv_room (Nat.le_of_ble_eq_true rfl)) d_Mo_inChain_10 ⟨(by decide), (by decide)⟩) hS (fun r10 G10 H locs hp10 hG hS => ?_)
    have hG : zP E G H := hp10.2 ▸ hG
    refine lv_if_ne (tgt := 20) hx hb d_Mo_inChain_13 (by decide) (fun c13 => ?_) (fun c13 => ?_)
    · refine lv_iconst (v := 0) hx hb d_Mo_inChain_20 (by decide) ?_
      exact hret _ _ _ _ _ _ _ _ _ hr (rfl) (⟨by first | exact zb.t ⟨hp2.1.nz c5, hp10.1.z c13⟩ | exact zb.f (fun z => hp2.1.z c5 z.1) | exact zb.f (fun z => z.2 (hp10.1.nz c13)), rfl⟩) hG hS (Nat.le_refl _) (Nat.le_refl _) d_Mo_inChain_21
    · refine lv_iconst (v := 1) hx hb d_Mo_inChain_16 (by decide) ?_
      refine lv_goto (tgt := 21) hx hb d_Mo_inChain_17 (by decide) ?_
      exact hret _ _ _ _ _ _ _ _ _ hr (rfl) (⟨by first | exact zb.t ⟨hp2.1.nz c5, hp10.1.z c13⟩ | exact zb.f (fun z => hp2.1.z c5 z.1) | exact zb.f (fun z => z.2 (hp10.1.nz c13)), rfl⟩) hG hS (Nat.le_refl _) (Nat.le_refl _) d_Mo_inChain_21
