theorem rPi_1 {c1 c2 : Nat} {W : zW} {n : Nat} {y : Int32} {e : aV} (he : e.2.1 ≠ 47) (hc : 0 < c1) : rPi c1 c2 (wad y W [e]) n = rPi c1 c2 W n + 14 * (rcp c1 (wln W + 1) - rcp c1 (wln W)) := by
  have h := rcp_mono hc (wln W)
  unfold rPi
  rw [wln_ad, rPw_ad, wl47_0 (L := [e]) (fun x hx => by rw [List.mem_singleton.mp hx]; exact he)]
  show 14 * rcp c1 (wln W + 1) + 2 * rcp c2 (rPw W + n) = _
  omega
theorem vrw_ty {V : zVt} {x f : np_N} {t : Int32} : ∀ e ∈ vrw V x f t, e.2.1 = t := fun e he => by
  obtain ⟨p, -, rfl⟩ := List.mem_map.mp he; rfl
theorem rPw_vrw {V : zVt} {x f : np_N} {t y : Int32} {W : zW} (ht : t ≠ 47) : rPw (wad y W (vrw V x f t)) = rPw W := by
  rw [rPw_ad, wl47_0 (fun e he => by rw [vrw_ty e he]; exact ht)]; rfl
theorem wad_1 (W : zW) (L : List aV) : wad 1 W L = w1 W L := rfl
theorem wad_2 (W : zW) (L : List aV) : wad 2 W L = w2 W L := rfl
theorem wad_3 (W : zW) (L : List aV) : wad 3 W L = w3 W L := rfl
theorem rao_out {lo : np_N} {rs : List zRt} {x : np_N} (h : rGd lo rs) (hx : ¬ lo <:+ x) (t : Int32) : rVf rs x t = [] := by
  apply Classical.byContradiction
  intro z
  exact hx (h.below ⟨t, z⟩)
theorem vad_e {V : zVt} {W : zW} {x : np_N} {t : Int32} (h : V x t = []) : vad V W x t = W := by
  unfold vad
  by_cases z : aHas W.2.2 x t ∨ aHas W.1 x t
  · rw [zif_y z]
  · rw [zif_n z]
    unfold vrw
    rw [h]; exact w3_nil W
theorem vad_g {V : zVt} {W : zW} {x : np_N} {t : Int32} (h1 : ¬ aHas W.2.2 x t) (h2 : aHas W.1 x t → ¬ vD V x) : vad V W x t = wad 3 W (vrw V x x t) := by
  by_cases z : aHas W.1 x t
  · have e : V x t = [] := by
      apply Classical.byContradiction
      intro w
      exact h2 z ⟨t, w⟩
    rw [vad_e e]
    unfold vrw
    rw [e]; exact (w3_nil W).symm
  · unfold vad
    rw [zif_n (fun w => w.elim h1 z)]; rfl
noncomputable def rMr (V : zVt) (W : zW) (x : np_N) : Nat → zW
  | 0 => W
  | 1 => vad V W x 1
  | _ => vao V W x
theorem vao_out {lo : np_N} {rs : List zRt} {x : np_N} {W : zW} (h : rGd lo rs) (hx : ¬ lo <:+ x) : vao (rVf rs) W x = W := by
  unfold vao
  rw [vad_e (rao_out h hx 1), vad_e (rao_out h hx 28)]
theorem w_1475 : (.methodLink "ZoneAnswersModel" 181 ⟨"ZoneAnswersModel", "give", "(I[B[BII)V"⟩ : Cond) ∈ zw := zw_at 1475 (by decide +kernel) (by decide +kernel)
theorem w_1477 : (.instanceMethod ⟨"ZoneAnswersModel", "give", "(I[B[BII)V"⟩ : Cond) ∈ zw := zw_at 1477 (by decide +kernel) (by decide +kernel)
theorem w_1478 : (.code ⟨"ZoneAnswersModel", "give", "(I[B[BII)V"⟩ prog_12_method_22_code 8 none : Cond) ∈ zw := zw_at 1478 (by decide +kernel) (by decide +kernel)
theorem w_1479 : (.methodLink "ZoneAnswersModel" 153 ⟨"ZoneAnswersModel", "add", "(I[BII[BII)V"⟩ : Cond) ∈ zw := zw_at 1479 (by decide +kernel) (by decide +kernel)
theorem w_1481 : (.instanceMethod ⟨"ZoneAnswersModel", "add", "(I[BII[BII)V"⟩ : Cond) ∈ zw := zw_at 1481 (by decide +kernel) (by decide +kernel)
theorem w_1482 : (.code ⟨"ZoneAnswersModel", "add", "(I[BII[BII)V"⟩ prog_12_method_17_code 8 none : Cond) ∈ zw := zw_at 1482 (by decide +kernel) (by decide +kernel)
theorem w_1497 : (.methodLink "ZoneAnswersModel" 160 ⟨"ZoneAnswersModel", "shown", "(I[BI)Z"⟩ : Cond) ∈ zw := zw_at 1497 (by decide +kernel) (by decide +kernel)
theorem w_1499 : (.instanceMethod ⟨"ZoneAnswersModel", "shown", "(I[BI)Z"⟩ : Cond) ∈ zw := zw_at 1499 (by decide +kernel) (by decide +kernel)
theorem w_1500 : (.code ⟨"ZoneAnswersModel", "shown", "(I[BI)Z"⟩ prog_12_method_21_code 5 (some .boolean) : Cond) ∈ zw := zw_at 1500 (by decide +kernel) (by decide +kernel)
theorem w_1524 : (.methodLink "ZoneAnswersModel" 175 ⟨"ZoneAnswersModel", "linkTime", "()I"⟩ : Cond) ∈ zw := zw_at 1524 (by decide +kernel) (by decide +kernel)
theorem w_1526 : (.instanceMethod ⟨"ZoneAnswersModel", "linkTime", "()I"⟩ : Cond) ∈ zw := zw_at 1526 (by decide +kernel) (by decide +kernel)
theorem w_1527 : (.code ⟨"ZoneAnswersModel", "linkTime", "()I"⟩ prog_12_method_16_code 1 (some .int) : Cond) ∈ zw := zw_at 1527 (by decide +kernel) (by decide +kernel)
theorem w_1536 : (.methodLink "ZoneAnswersModel" 178 ⟨"ZoneAnswersModel", "own", "([BI)Z"⟩ : Cond) ∈ zw := zw_at 1536 (by decide +kernel) (by decide +kernel)
theorem w_1538 : (.instanceMethod ⟨"ZoneAnswersModel", "own", "([BI)Z"⟩ : Cond) ∈ zw := zw_at 1538 (by decide +kernel) (by decide +kernel)
theorem w_1539 : (.code ⟨"ZoneAnswersModel", "own", "([BI)Z"⟩ prog_12_method_28_code 4 (some .boolean) : Cond) ∈ zw := zw_at 1539 (by decide +kernel) (by decide +kernel)
theorem wp_40 : (.selects "ZoneAnswersModel" ⟨"ZoneAnswersModel", "give", "(I[B[BII)V"⟩ ⟨"ZoneAnswersModel", "give", "(I[B[BII)V"⟩ : Cond) ∈ zw := zw_pv 40 (y := ⟨"ZoneAnswersModel", "give", "(I[B[BII)V"⟩) rfl (by decide +kernel)
theorem wp_41 : (.selects "ZoneAnswersModel" ⟨"ZoneAnswersModel", "add", "(I[BII[BII)V"⟩ ⟨"ZoneAnswersModel", "add", "(I[BII[BII)V"⟩ : Cond) ∈ zw := zw_pv 41 (y := ⟨"ZoneAnswersModel", "add", "(I[BII[BII)V"⟩) rfl (by decide +kernel)
theorem wp_44 : (.selects "ZoneAnswersModel" ⟨"ZoneAnswersModel", "shown", "(I[BI)Z"⟩ ⟨"ZoneAnswersModel", "shown", "(I[BI)Z"⟩ : Cond) ∈ zw := zw_pv 44 (y := ⟨"ZoneAnswersModel", "shown", "(I[BI)Z"⟩) rfl (by decide +kernel)
theorem wp_49 : (.selects "ZoneAnswersModel" ⟨"ZoneAnswersModel", "linkTime", "()I"⟩ ⟨"ZoneAnswersModel", "linkTime", "()I"⟩ : Cond) ∈ zw := zw_pv 49 (y := ⟨"ZoneAnswersModel", "linkTime", "()I"⟩) rfl (by decide +kernel)
theorem wp_51 : (.selects "ZoneAnswersModel" ⟨"ZoneAnswersModel", "own", "([BI)Z"⟩ ⟨"ZoneAnswersModel", "own", "([BI)Z"⟩ : Cond) ∈ zw := zw_pv 51 (y := ⟨"ZoneAnswersModel", "own", "([BI)Z"⟩) rfl (by decide +kernel)
abbrev c_Mo_give : ByteArray := prog_12_method_22_code
abbrev y_Mo_give : MethodName := ⟨"ZoneAnswersModel", "give", "(I[B[BII)V"⟩
theorem d_Mo_give_0 : decode c_Mo_give 0 = .ok (.iconst 0, 1) := by decide +kernel
theorem d_Mo_give_1 : decode c_Mo_give 1 = .ok (.istore 6, 2) := by decide +kernel
theorem d_Mo_give_3 : decode c_Mo_give 3 = .ok (.iload 6, 2) := by decide +kernel
theorem d_Mo_give_5 : decode c_Mo_give 5 = .ok (.aload_n 0, 1) := by decide +kernel
theorem d_Mo_give_6 : decode c_Mo_give 6 = .ok (.getfield 61, 3) := by decide +kernel
theorem d_Mo_give_9 : decode c_Mo_give 9 = .ok (.if_icmp .ge 75, 3) := by decide +kernel
theorem d_Mo_give_12 : decode c_Mo_give 12 = .ok (.aload_n 0, 1) := by decide +kernel
theorem d_Mo_give_13 : decode c_Mo_give 13 = .ok (.getfield 19, 3) := by decide +kernel
theorem d_Mo_give_16 : decode c_Mo_give 16 = .ok (.iload 6, 2) := by decide +kernel
theorem d_Mo_give_18 : decode c_Mo_give 18 = .ok (.aaload, 1) := by decide +kernel
theorem d_Mo_give_19 : decode c_Mo_give 19 = .ok (.astore 7, 2) := by decide +kernel
theorem d_Mo_give_21 : decode c_Mo_give 21 = .ok (.aload 7, 2) := by decide +kernel
theorem d_Mo_give_23 : decode c_Mo_give 23 = .ok (.getfield 67, 3) := by decide +kernel
theorem d_Mo_give_26 : decode c_Mo_give 26 = .ok (.iload 4, 2) := by decide +kernel
theorem d_Mo_give_28 : decode c_Mo_give 28 = .ok (.if_icmp .ne 50, 3) := by decide +kernel
theorem d_Mo_give_31 : decode c_Mo_give 31 = .ok (.aload 7, 2) := by decide +kernel
theorem d_Mo_give_33 : decode c_Mo_give 33 = .ok (.getfield 65, 3) := by decide +kernel
theorem d_Mo_give_36 : decode c_Mo_give 36 = .ok (.aload_n 3, 1) := by decide +kernel
theorem d_Mo_give_37 : decode c_Mo_give 37 = .ok (.invokestatic 80, 3) := by decide +kernel
theorem d_Mo_give_40 : decode c_Mo_give 40 = .ok (.ifCond .eq 38, 3) := by decide +kernel
theorem d_Mo_give_43 : decode c_Mo_give 43 = .ok (.aload_n 0, 1) := by decide +kernel
theorem d_Mo_give_44 : decode c_Mo_give 44 = .ok (.iload_n 1, 1) := by decide +kernel
theorem d_Mo_give_45 : decode c_Mo_give 45 = .ok (.aload_n 2, 1) := by decide +kernel
theorem d_Mo_give_46 : decode c_Mo_give 46 = .ok (.iload 4, 2) := by decide +kernel
theorem d_Mo_give_48 : decode c_Mo_give 48 = .ok (.iload 5, 2) := by decide +kernel
theorem d_Mo_give_50 : decode c_Mo_give 50 = .ok (.ifCond .ge 11, 3) := by decide +kernel
theorem d_Mo_give_53 : decode c_Mo_give 53 = .ok (.aload 7, 2) := by decide +kernel
theorem d_Mo_give_55 : decode c_Mo_give 55 = .ok (.getfield 69, 3) := by decide +kernel
theorem d_Mo_give_58 : decode c_Mo_give 58 = .ok (.goto 5, 3) := by decide +kernel
theorem d_Mo_give_61 : decode c_Mo_give 61 = .ok (.iload 5, 2) := by decide +kernel
theorem d_Mo_give_63 : decode c_Mo_give 63 = .ok (.aload 7, 2) := by decide +kernel
theorem d_Mo_give_65 : decode c_Mo_give 65 = .ok (.getfield 71, 3) := by decide +kernel
theorem d_Mo_give_68 : decode c_Mo_give 68 = .ok (.iconst 0, 1) := by decide +kernel
theorem d_Mo_give_69 : decode c_Mo_give 69 = .ok (.aload 7, 2) := by decide +kernel
theorem d_Mo_give_71 : decode c_Mo_give 71 = .ok (.getfield 71, 3) := by decide +kernel
theorem d_Mo_give_74 : decode c_Mo_give 74 = .ok (.arraylength, 1) := by decide +kernel
theorem d_Mo_give_75 : decode c_Mo_give 75 = .ok (.invokevirtual 153, 3) := by decide +kernel
theorem d_Mo_give_78 : decode c_Mo_give 78 = .ok (.iinc 6 1, 3) := by decide +kernel
theorem d_Mo_give_81 : decode c_Mo_give 81 = .ok (.goto (-78), 3) := by decide +kernel
theorem d_Mo_give_84 : decode c_Mo_give 84 = .ok (.return_, 1) := by decide +kernel
abbrev c_Mo_nothing : ByteArray := prog_12_method_26_code
abbrev y_Mo_nothing : MethodName := ⟨"ZoneAnswersModel", "nothing", "()V"⟩
theorem d_Mo_nothing_0 : decode c_Mo_nothing 0 = .ok (.aload_n 0, 1) := by decide +kernel
theorem d_Mo_nothing_1 : decode c_Mo_nothing 1 = .ok (.invokevirtual 175, 3) := by decide +kernel
theorem d_Mo_nothing_4 : decode c_Mo_nothing 4 = .ok (.istore_n 1, 1) := by decide +kernel
theorem d_Mo_nothing_5 : decode c_Mo_nothing 5 = .ok (.aload_n 0, 1) := by decide +kernel
theorem d_Mo_nothing_6 : decode c_Mo_nothing 6 = .ok (.iconst 2, 1) := by decide +kernel
theorem d_Mo_nothing_7 : decode c_Mo_nothing 7 = .ok (.aload_n 0, 1) := by decide +kernel
theorem d_Mo_nothing_8 : decode c_Mo_nothing 8 = .ok (.getfield 14, 3) := by decide +kernel
theorem d_Mo_nothing_11 : decode c_Mo_nothing 11 = .ok (.bipush 6, 2) := by decide +kernel
theorem d_Mo_nothing_13 : decode c_Mo_nothing 13 = .ok (.iload_n 1, 1) := by decide +kernel
theorem d_Mo_nothing_14 : decode c_Mo_nothing 14 = .ok (.aload_n 0, 1) := by decide +kernel
theorem d_Mo_nothing_15 : decode c_Mo_nothing 15 = .ok (.getfield 19, 3) := by decide +kernel
theorem d_Mo_nothing_18 : decode c_Mo_nothing 18 = .ok (.iconst 0, 1) := by decide +kernel
theorem d_Mo_nothing_19 : decode c_Mo_nothing 19 = .ok (.aaload, 1) := by decide +kernel
theorem d_Mo_nothing_20 : decode c_Mo_nothing 20 = .ok (.getfield 71, 3) := by decide +kernel
theorem d_Mo_nothing_23 : decode c_Mo_nothing 23 = .ok (.iconst 0, 1) := by decide +kernel
theorem d_Mo_nothing_24 : decode c_Mo_nothing 24 = .ok (.aload_n 0, 1) := by decide +kernel
theorem d_Mo_nothing_25 : decode c_Mo_nothing 25 = .ok (.getfield 19, 3) := by decide +kernel
theorem d_Mo_nothing_28 : decode c_Mo_nothing 28 = .ok (.iconst 0, 1) := by decide +kernel
theorem d_Mo_nothing_29 : decode c_Mo_nothing 29 = .ok (.aaload, 1) := by decide +kernel
theorem d_Mo_nothing_30 : decode c_Mo_nothing 30 = .ok (.getfield 71, 3) := by decide +kernel
theorem d_Mo_nothing_33 : decode c_Mo_nothing 33 = .ok (.arraylength, 1) := by decide +kernel
theorem d_Mo_nothing_34 : decode c_Mo_nothing 34 = .ok (.invokevirtual 153, 3) := by decide +kernel
theorem d_Mo_nothing_37 : decode c_Mo_nothing 37 = .ok (.return_, 1) := by decide +kernel
abbrev c_Mo_first : ByteArray := prog_12_method_29_code
abbrev y_Mo_first : MethodName := ⟨"ZoneAnswersModel", "first", "([B[BI)V"⟩
theorem d_Mo_first_0 : decode c_Mo_first 0 = .ok (.aload_n 0, 1) := by decide +kernel
theorem d_Mo_first_1 : decode c_Mo_first 1 = .ok (.getfield 140, 3) := by decide +kernel
theorem d_Mo_first_4 : decode c_Mo_first 4 = .ok (.istore 4, 2) := by decide +kernel
theorem d_Mo_first_6 : decode c_Mo_first 6 = .ok (.aload_n 0, 1) := by decide +kernel
theorem d_Mo_first_7 : decode c_Mo_first 7 = .ok (.iconst 1, 1) := by decide +kernel
theorem d_Mo_first_8 : decode c_Mo_first 8 = .ok (.aload_n 1, 1) := by decide +kernel
theorem d_Mo_first_9 : decode c_Mo_first 9 = .ok (.aload_n 2, 1) := by decide +kernel
theorem d_Mo_first_10 : decode c_Mo_first 10 = .ok (.iload_n 3, 1) := by decide +kernel
theorem d_Mo_first_11 : decode c_Mo_first 11 = .ok (.iconst (-1), 1) := by decide +kernel
theorem d_Mo_first_12 : decode c_Mo_first 12 = .ok (.invokevirtual 181, 3) := by decide +kernel
theorem d_Mo_first_15 : decode c_Mo_first 15 = .ok (.iload 4, 2) := by decide +kernel
theorem d_Mo_first_17 : decode c_Mo_first 17 = .ok (.aload_n 0, 1) := by decide +kernel
theorem d_Mo_first_18 : decode c_Mo_first 18 = .ok (.getfield 140, 3) := by decide +kernel
theorem d_Mo_first_21 : decode c_Mo_first 21 = .ok (.if_icmp .ge 34, 3) := by decide +kernel
theorem d_Mo_first_24 : decode c_Mo_first 24 = .ok (.aload_n 0, 1) := by decide +kernel
theorem d_Mo_first_25 : decode c_Mo_first 25 = .ok (.getfield 50, 3) := by decide +kernel
theorem d_Mo_first_28 : decode c_Mo_first 28 = .ok (.iload 4, 2) := by decide +kernel
theorem d_Mo_first_30 : decode c_Mo_first 30 = .ok (.sipush 4095, 3) := by decide +kernel
theorem d_Mo_first_33 : decode c_Mo_first 33 = .ok (.iand, 1) := by decide +kernel
theorem d_Mo_first_34 : decode c_Mo_first 34 = .ok (.aload_n 1, 1) := by decide +kernel
theorem d_Mo_first_35 : decode c_Mo_first 35 = .ok (.aload_n 2, 1) := by decide +kernel
theorem d_Mo_first_36 : decode c_Mo_first 36 = .ok (.invokestatic 80, 3) := by decide +kernel
theorem d_Mo_first_39 : decode c_Mo_first 39 = .ok (.ifCond .eq 7, 3) := by decide +kernel
theorem d_Mo_first_42 : decode c_Mo_first 42 = .ok (.iconst 1, 1) := by decide +kernel
theorem d_Mo_first_43 : decode c_Mo_first 43 = .ok (.goto 4, 3) := by decide +kernel
theorem d_Mo_first_46 : decode c_Mo_first 46 = .ok (.iconst 0, 1) := by decide +kernel
theorem d_Mo_first_47 : decode c_Mo_first 47 = .ok (.i2b, 1) := by decide +kernel
theorem d_Mo_first_48 : decode c_Mo_first 48 = .ok (.bastore, 1) := by decide +kernel
theorem d_Mo_first_49 : decode c_Mo_first 49 = .ok (.iinc 4 1, 3) := by decide +kernel
theorem d_Mo_first_52 : decode c_Mo_first 52 = .ok (.goto (-37), 3) := by decide +kernel
theorem d_Mo_first_55 : decode c_Mo_first 55 = .ok (.return_, 1) := by decide +kernel
abbrev c_Mo_more : ByteArray := prog_12_method_27_code
abbrev y_Mo_more : MethodName := ⟨"ZoneAnswersModel", "more", "([B)V"⟩
theorem d_Mo_more_0 : decode c_Mo_more 0 = .ok (.aload_n 1, 1) := by decide +kernel
theorem d_Mo_more_1 : decode c_Mo_more 1 = .ok (.aload_n 0, 1) := by decide +kernel
theorem d_Mo_more_2 : decode c_Mo_more 2 = .ok (.getfield 14, 3) := by decide +kernel
theorem d_Mo_more_5 : decode c_Mo_more 5 = .ok (.invokestatic 84, 3) := by decide +kernel
theorem d_Mo_more_8 : decode c_Mo_more 8 = .ok (.ifCond .ne 4, 3) := by decide +kernel
theorem d_Mo_more_11 : decode c_Mo_more 11 = .ok (.return_, 1) := by decide +kernel
theorem d_Mo_more_12 : decode c_Mo_more 12 = .ok (.iconst 0, 1) := by decide +kernel
theorem d_Mo_more_13 : decode c_Mo_more 13 = .ok (.istore_n 2, 1) := by decide +kernel
theorem d_Mo_more_14 : decode c_Mo_more 14 = .ok (.iload_n 2, 1) := by decide +kernel
theorem d_Mo_more_15 : decode c_Mo_more 15 = .ok (.iconst 2, 1) := by decide +kernel
theorem d_Mo_more_16 : decode c_Mo_more 16 = .ok (.if_icmp .ge 48, 3) := by decide +kernel
theorem d_Mo_more_19 : decode c_Mo_more 19 = .ok (.iload_n 2, 1) := by decide +kernel
theorem d_Mo_more_20 : decode c_Mo_more 20 = .ok (.ifCond .ne 7, 3) := by decide +kernel
theorem d_Mo_more_23 : decode c_Mo_more 23 = .ok (.iconst 1, 1) := by decide +kernel
theorem d_Mo_more_24 : decode c_Mo_more 24 = .ok (.goto 5, 3) := by decide +kernel
theorem d_Mo_more_27 : decode c_Mo_more 27 = .ok (.bipush 28, 2) := by decide +kernel
theorem d_Mo_more_29 : decode c_Mo_more 29 = .ok (.istore_n 3, 1) := by decide +kernel
theorem d_Mo_more_30 : decode c_Mo_more 30 = .ok (.aload_n 0, 1) := by decide +kernel
theorem d_Mo_more_31 : decode c_Mo_more 31 = .ok (.iconst 3, 1) := by decide +kernel
theorem d_Mo_more_32 : decode c_Mo_more 32 = .ok (.aload_n 1, 1) := by decide +kernel
theorem d_Mo_more_33 : decode c_Mo_more 33 = .ok (.iload_n 3, 1) := by decide +kernel
theorem d_Mo_more_34 : decode c_Mo_more 34 = .ok (.invokevirtual 160, 3) := by decide +kernel
theorem d_Mo_more_37 : decode c_Mo_more 37 = .ok (.ifCond .ne 21, 3) := by decide +kernel
theorem d_Mo_more_40 : decode c_Mo_more 40 = .ok (.aload_n 0, 1) := by decide +kernel
theorem d_Mo_more_41 : decode c_Mo_more 41 = .ok (.aload_n 1, 1) := by decide +kernel
theorem d_Mo_more_42 : decode c_Mo_more 42 = .ok (.iload_n 3, 1) := by decide +kernel
theorem d_Mo_more_43 : decode c_Mo_more 43 = .ok (.invokevirtual 178, 3) := by decide +kernel
theorem d_Mo_more_46 : decode c_Mo_more 46 = .ok (.ifCond .ne 12, 3) := by decide +kernel
theorem d_Mo_more_49 : decode c_Mo_more 49 = .ok (.aload_n 0, 1) := by decide +kernel
theorem d_Mo_more_50 : decode c_Mo_more 50 = .ok (.iconst 3, 1) := by decide +kernel
theorem d_Mo_more_51 : decode c_Mo_more 51 = .ok (.aload_n 1, 1) := by decide +kernel
theorem d_Mo_more_52 : decode c_Mo_more 52 = .ok (.aload_n 1, 1) := by decide +kernel
theorem d_Mo_more_53 : decode c_Mo_more 53 = .ok (.iload_n 3, 1) := by decide +kernel
theorem d_Mo_more_54 : decode c_Mo_more 54 = .ok (.iconst (-1), 1) := by decide +kernel
theorem d_Mo_more_55 : decode c_Mo_more 55 = .ok (.invokevirtual 181, 3) := by decide +kernel
theorem d_Mo_more_58 : decode c_Mo_more 58 = .ok (.iinc 2 1, 3) := by decide +kernel
theorem d_Mo_more_61 : decode c_Mo_more 61 = .ok (.goto (-47), 3) := by decide +kernel
theorem d_Mo_more_64 : decode c_Mo_more 64 = .ok (.return_, 1) := by decide +kernel
abbrev rm_Mo_give (c9 s9 : Nat) : Room := { frames := 5, cells := c9, slots := s9, locals := 110 }
set_option maxHeartbeats 4000000 in
set_option maxRecDepth 100000 in
/-- give(s, x, f, t, -1), of the reference -/
theorem t_Mo_give (l : Launch) (E : zc_E) (G : zg_G) (a c1 c2 : Nat) (ro : zRo) (lo : np_N) (rs : List zRt) (Wz : zW) (px : List Int32) (qp : Prop) (nq : Nat × Int32 × np_N × zWs) (th co se : Int32) (tp : List Int32) (v19 v20 : Value) (hst : rSt E G ro a c1 c2 lo rs Wz px qp nq th tp co se v19 v20) (sx : Int32) (hsx : sx = 1 ∨ sx = 2 ∨ sx = 3) (b1 : Nat) (ls1 : np_N) (hn1 : rNm E G ro b1 ls1) (b3 : Nat) (ls3 : np_N) (hn3 : rNm E G ro b3 ls3) (t : Int32) (ht47 : t ≠ 47) (hB : wln (wad sx Wz (vrw (rVf rs) ls1 ls3 t)) < 2 ^ 16) (hq2 : qp → nq.2.1 = sx ∧ nq.2.2.1 = ls1) : zMv l E y_Mo_give c_Mo_give 8 (rm_Mo_give (rPi c1 c2 (wad sx Wz (vrw (rVf rs) ls1 ls3 t)) px.length - rPi c1 c2 Wz px.length) (rPi c1 c2 (wad sx Wz (vrw (rVf rs) ls1 ls3 t)) px.length - rPi c1 c2 Wz px.length)) [.ref a, .int sx, .ref b1, .ref b3, .int t, .int (-1)] G (fun (G2 : zg_G) => ∃ r2, rSt E G2 r2 a c1 c2 lo rs (wad sx Wz (vrw (rVf rs) ls1 ls3 t)) px qp nq th tp co se v19 v20 ∧ zfr ro zKr G r2 G2) := by
  refine zMv.of (by decide) (Nat.le_of_ble_eq_true rfl) ?_
  intro p e s m args below meth c Q hZ hG hret ls hl
  obtain ⟨hx, hb, hr, hts, hown, hlocks, hml, hnm, hbase, hK, hN, hQ⟩ := hZ
  have hl : lv_has ls 8 [(0, .ref a), (1, .int sx), (2, .ref b1), (3, .ref b3), (4, .int t), (5, .int (-1))] := hl
  have hS : zg_S (zc_b E) s.heap s.heap [] := va_S.rf
  have hc1 : 0 < c1 := by have := hst.cs.1; omega
  have hc2 : 0 < c2 := by have := hst.cs.2.1; omega
  refine lv_iconst (v := 0) hx hb d_Mo_give_0 (by decide) ?_
  refine zi_as (y := nI 0) (nI_0.symm) ?_
  refine lv_istore (lv' := [(6, .int (nI 0)), (0, .ref a), (1, .int sx), (2, .ref b1), (3, .ref b3), (4, .int t), (5, .int (-1))]) hx hb d_Mo_give_1 hl (by decide) rfl (fun ls hl => ?_)
  have loop3 : ∀ (N : Nat) (Gv : zg_G) (i : Nat) (ro8 : zRo) (H : Heap) (locs : List Loc), (rs.length - i) < N → (i ≤ rs.length) → (rSt E Gv ro8 a c1 c2 lo rs (wad sx Wz (rgv rs ls1 ls3 t i)) px qp nq th tp co se v19 v20) → (zfr ro zKr G ro8 Gv) → zP E Gv H → zg_S (zc_b E) s.heap H locs → ∀ (ls : Array Slot), lv_has ls 8 [(0, .ref a), (1, .int sx), (2, .ref b1), (3, .ref b3), (4, .int t), (5, .int (-1)), (6, .int (nI i))] → W p l e (rm_Mo_give (rPi c1 c2 (wad sx Wz (vrw (rVf rs) ls1 ls3 t)) px.length - rPi c1 c2 Wz px.length) (rPi c1 c2 (wad sx Wz (vrw (rVf rs) ls1 ls3 t)) px.length - rPi c1 c2 Wz px.length)) s m args below meth c H locs (rPi c1 c2 (wad sx Wz (rgv rs ls1 ls3 t i)) px.length - rPi c1 c2 Wz px.length) (rPi c1 c2 (wad sx Wz (rgv rs ls1 ls3 t i)) px.length - rPi c1 c2 Wz px.length) Q (F0 m 3 ls []) := by
    intro N
    induction N with
    | zero =>
      intro Gv i ro8 H locs hlt
      exact absurd hlt (Nat.not_lt_zero _)
    | succ N ih =>
      intro Gv i ro8 H locs hlt hi hst8 hfr8_ hG hS ls hl
      obtain ⟨h8, eh08, eh18, eh28, hc8⟩ := id hst8
      obtain ⟨ra8, rb8, ⟨fm8, rt18, rt28, rt38, rt48⟩, rtl8, ⟨fo8, rn18, rn28, rn38, rn48, rn58⟩, rr8, rg8, ras8⟩ := id hc8
      rw [eh08] at ra8
      obtain ⟨⟨fr8, rm48, hfr8⟩, hn28, hRs8⟩ := id rr8.1
      have hn18 := hn1.fr hfr8_ zKr_0
      have hn38 := hn3.fr hfr8_ zKr_0
      obtain ⟨f_b18, n1_b18, n2_b18, n3_b18, n4_b18, n5_b18⟩ := id hn18
      have sm_b18 := n3_b18.2
      obtain ⟨f_b38, n1_b38, n2_b38, n3_b38, n4_b38, n5_b38⟩ := id hn38
      have sm_b38 := n3_b38.2
      have hple : zLe Wz (wad sx Wz (rgv rs ls1 ls3 t i)) := zLe_wad _ _ _
      have hph1 := rPi_le (n := px.length) (m := px.length) hc1 hc2 hple (Nat.add_le_add_right (rPw_le hple) _)
      have hle2 : zLe (wad sx Wz (rgv rs ls1 ls3 t i)) (wad sx Wz (vrw (rVf rs) ls1 ls3 t)) := wad_le sx Wz (by rw [← rgv_all]; exact rgv_pre rs ls1 ls3 t hi)
      have hph2 := rPi_le (n := px.length) (m := px.length) hc1 hc2 hle2 (Nat.add_le_add_right (rPw_le hle2) _)
      have hwl8 := wln_le hle2
      refine lv_iload hx hb d_Mo_give_3 (lv_at hl 6 rfl) ?_
      refine lv_aload_n hx hb d_Mo_give_5 rfl (lv_at hl 0 rfl) ?_
      refine zg_get (ci := 11) (C := "ZoneAnswersModel") (T := T_Mo) (N := 21) hx hb hts zi_Mo hown hK hG ra8 rfl 5 (by decide) (hts _ w_1286) (fun _ h9 => h9) rfl d_Mo_give_6 ?_
      refine lv_icmp_ge (tgt := 84) hx hb d_Mo_give_9 (by decide) (fun c9 => ?_) (fun c9 => ?_)
      · have b9 : rs.length ≤ i := (nI_leI (a := rs.length) (b := i) (by omega) (by omega)).mp c9
        exact hret _ _ _ _ _ _ _ (⟨ro8, by rw [← rgv_all, show rs.length = i by omega]; exact hst8, hfr8_⟩) hG hS (by rw [← rgv_all, show rs.length = i by omega]; exact Nat.le_refl _) (by rw [← rgv_all, show rs.length = i by omega]; exact Nat.le_refl _) d_Mo_give_84
      · have b9 : ¬ rs.length ≤ i := fun q => c9 ((nI_leI (a := rs.length) (b := i) (by omega) (by omega)).mpr q)
        have hin : i < rs.length := by omega
        obtain ⟨hr1, ⟨nf, hr2, hr3, hr4, hr5⟩, df, hr6, hr7, hr8⟩ := hRs8 _ (re_mem hin)
        have sm := hr4.2
        refine lv_aload_n hx hb d_Mo_give_12 rfl (lv_at hl 0 rfl) ?_
        refine zg_get (ci := 11) (C := "ZoneAnswersModel") (T := T_Mo) (N := 21) hx hb hts zi_Mo hown hK hG ra8 rfl 4 (by decide) (hts _ w_1285) (fun _ h9 => h9) rfl d_Mo_give_13 ?_
        refine lv_iload hx hb d_Mo_give_16 (lv_at hl 6 rfl) ?_
        refine zg_aldq hx hb hK hG 4 rm48 rfl (vp_in_nI (by omega) (by omega)) d_Mo_give_18 ?_
        refine zr_as (y := fr8 i) (by rw [zi_n _ (by omega)]) ?_
        refine zr_some (a := rA (re rs i)) (hfr8 i hin) ?_
        refine lv_astore (lv' := [(7, .ref (rA (re rs i))), (0, .ref a), (1, .int sx), (2, .ref b1), (3, .ref b3), (4, .int t), (5, .int (-1)), (6, .int (nI i))]) hx hb d_Mo_give_19 hl (by decide) rfl (fun ls hl => ?_)
        refine lv_aload hx hb d_Mo_give_21 (lv_at hl 0 rfl) ?_
        refine zg_get (ci := 12) (C := "ZoneAnswersModel$Rec") (T := T_Re) (N := 5) hx hb hts zi_Re hown hK hG hr1 rfl 3 (by decide) (hts _ w_1268) (fun _ h9 => h9) rfl d_Mo_give_23 ?_
        refine lv_iload hx hb d_Mo_give_26 (lv_at hl 5 rfl) ?_
        refine lv_icmp_ne (tgt := 78) hx hb d_Mo_give_28 (by decide) (fun c28 => ?_) (fun c28 => ?_)
        · refine lv_iinc (v := nI (i + 1)) (lv' := [(6, .int (nI (i + 1))), (7, .ref (rA (re rs i))), (0, .ref a), (1, .int sx), (2, .ref b1), (3, .ref b3), (4, .int t), (5, .int (-1))]) hx hb d_Mo_give_78 hl (k := 7) rfl (nI_add i 1) (by decide) rfl (fun ls hl => ?_)
          refine lv_goto (tgt := 3) hx hb d_Mo_give_81 (by decide) ?_
          have hno : rgv rs ls1 ls3 t (i + 1) = rgv rs ls1 ls3 t i := rgv_n hin (by first | exact fun z => c28 z.1 | exact fun z => hp37.1.z c40 ((zsm_n hr3 n2_b38 hr4 n3_b38).mpr z.2))
          refine zW_more (cells2 := rPi c1 c2 (wad sx Wz (rgv rs ls1 ls3 t (i + 1))) px.length - rPi c1 c2 Wz px.length) (slots2 := rPi c1 c2 (wad sx Wz (rgv rs ls1 ls3 t (i + 1))) px.length - rPi c1 c2 Wz px.length) (by rw [hno]; exact Nat.le_refl _) (by rw [hno]; exact Nat.le_refl _) ?_
          exact ih Gv (i + 1) ro8 _ _ (by omega) (by omega) (by rw [hno]; exact hst8) (hfr8_) hG hS ls (lv_sub hl [2, 3, 4, 5, 6, 7, 0] rfl)
        · refine lv_aload hx hb d_Mo_give_31 (lv_at hl 0 rfl) ?_
          refine zg_get (ci := 12) (C := "ZoneAnswersModel$Rec") (T := T_Re) (N := 5) hx hb hts zi_Re hown hK hG hr1 rfl 0 (by decide) (hts _ w_1265) (fun _ h9 => h9) rfl d_Mo_give_33 ?_
          refine lv_aload_n hx hb d_Mo_give_36 rfl (lv_at hl 4 rfl) ?_
          refine zk_i (va_runS (As := [.ref (rN (re rs i)), .ref b3]) (rest := []) ⟨hx, hb, hml, hown, hts⟩ (t_Ns_same l E Gv (rN (re rs i)) (np_len (rM (re rs i))) nf hr2 b3 (np_len ls3) f_b38 n1_b38 (by omega) (by omega)) (zcS 2 hts w_1405 w_1406 w_33 w_1407 (by decide +kernel) ⟨Nat.le_of_ble_eq_true rfl, Nat.le_of_ble_eq_true rfl⟩) (zc_pre hbase hK hN hQ hG hS) rfl rfl hl.1 rfl (lv_room (Nat.le_of_ble_eq_true rfl)) d_Mo_give_37 ⟨(by dsimp only; omega), (by dsimp only; omega)⟩) hS (fun r37 G37 H locs hp37 hG hS => ?_)
          have hG : zP E Gv H := hp37.2 ▸ hG
          refine lv_if_eq (tgt := 78) hx hb d_Mo_give_40 (by decide) (fun c40 => ?_) (fun c40 => ?_)
          · refine lv_iinc (v := nI (i + 1)) (lv' := [(6, .int (nI (i + 1))), (7, .ref (rA (re rs i))), (0, .ref a), (1, .int sx), (2, .ref b1), (3, .ref b3), (4, .int t), (5, .int (-1))]) hx hb d_Mo_give_78 hl (k := 7) rfl (nI_add i 1) (by decide) rfl (fun ls hl => ?_)
            refine lv_goto (tgt := 3) hx hb d_Mo_give_81 (by decide) ?_
            have hno : rgv rs ls1 ls3 t (i + 1) = rgv rs ls1 ls3 t i := rgv_n hin (by first | exact fun z => c28 z.1 | exact fun z => hp37.1.z c40 ((zsm_n hr3 n2_b38 hr4 n3_b38).mpr z.2))
            refine zW_more (cells2 := rPi c1 c2 (wad sx Wz (rgv rs ls1 ls3 t (i + 1))) px.length - rPi c1 c2 Wz px.length) (slots2 := rPi c1 c2 (wad sx Wz (rgv rs ls1 ls3 t (i + 1))) px.length - rPi c1 c2 Wz px.length) (by rw [hno]; exact Nat.le_refl _) (by rw [hno]; exact Nat.le_refl _) ?_
            exact ih Gv (i + 1) ro8 _ _ (by omega) (by omega) (by rw [hno]; exact hst8) (hfr8_) hG hS ls (lv_sub hl [2, 3, 4, 5, 6, 7, 0] rfl)
          · refine lv_aload_n hx hb d_Mo_give_43 rfl (lv_at hl 1 rfl) ?_
            refine lv_iload_n hx hb d_Mo_give_44 rfl (lv_at hl 2 rfl) ?_
            refine lv_aload_n hx hb d_Mo_give_45 rfl (lv_at hl 3 rfl) ?_
            refine lv_iload hx hb d_Mo_give_46 (lv_at hl 5 rfl) ?_
            refine lv_iload hx hb d_Mo_give_48 (lv_at hl 6 rfl) ?_
            refine lv_if_ge (tgt := 61) hx hb d_Mo_give_50 (by decide) (fun c50 => ?_) (fun c50 => ?_)
            · exact absurd c50 (by decide)
            · refine lv_aload hx hb d_Mo_give_53 (lv_at hl 0 rfl) ?_
              refine zg_get (ci := 12) (C := "ZoneAnswersModel$Rec") (T := T_Re) (N := 5) hx hb hts zi_Re hown hK hG hr1 rfl 4 (by decide) (hts _ w_1269) (fun _ h9 => h9) rfl d_Mo_give_55 ?_
              refine lv_goto (tgt := 63) hx hb d_Mo_give_58 (by decide) ?_
              refine lv_aload hx hb d_Mo_give_63 (lv_at hl 0 rfl) ?_
              refine zg_get (ci := 12) (C := "ZoneAnswersModel$Rec") (T := T_Re) (N := 5) hx hb hts zi_Re hown hK hG hr1 rfl 1 (by decide) (hts _ w_1266) (fun _ h9 => h9) rfl d_Mo_give_65 ?_
              refine lv_iconst (v := 0) hx hb d_Mo_give_68 (by decide) ?_
              refine lv_aload hx hb d_Mo_give_69 (lv_at hl 0 rfl) ?_
              refine zg_get (ci := 12) (C := "ZoneAnswersModel$Rec") (T := T_Re) (N := 5) hx hb hts zi_Re hown hK hG hr1 rfl 1 (by decide) (hts _ w_1266) (fun _ h9 => h9) rfl d_Mo_give_71 ?_
              refine zg_alen hx hb hK hG 0 hr6 rfl (v := nI ((rB (re rs i)).length)) rfl d_Mo_give_74 ?_
              have hyes : rT (re rs i) = t ∧ rM (re rs i) = ls3 := ⟨c28, (zsm_n hr3 n2_b38 hr4 n3_b38).mp (hp37.1.nz c40)⟩
              have hP1 : rPi c1 c2 (wad sx Wz (rgv rs ls1 ls3 t (i + 1))) px.length = rPi c1 c2 (wad sx Wz (rgv rs ls1 ls3 t i)) px.length + 14 * (rcp c1 (wln (wad sx Wz (rgv rs ls1 ls3 t i)) + 1) - rcp c1 (wln (wad sx Wz (rgv rs ls1 ls3 t i)))) := by rw [rgv_y hin hyes, ← wad_app]; exact rPi_1 ht47 hc1
              have hle3 : zLe (wad sx Wz (rgv rs ls1 ls3 t (i + 1))) (wad sx Wz (vrw (rVf rs) ls1 ls3 t)) := wad_le sx Wz (by rw [← rgv_all]; exact rgv_pre rs ls1 ls3 t hin)
              have hph3 := rPi_le (n := px.length) (m := px.length) hc1 hc2 hle3 (Nat.add_le_add_right (rPw_le hle3) _)
              have hGo75 := hG
              refine zk_v (va_runV (As := [.int sx, .ref b1, .int t, .int (rU (re rs i)), .ref (rD (re rs i)), .int 0, .int (nI ((rB (re rs i)).length))]) (rest := []) ⟨hx, hb, hml, hown, hts⟩ (t_Mo_add_s l hst8 (by omega) sx hsx b1 ls1 hn18 t (rU (re rs i)) ht47 (rD (re rs i)) (rB (re rs i)) (hst8.nm hin).2.1 (hst8.nm hin).2.2 (fun _ _ => ⟨_, re_mem hin, rfl, c28⟩) hq2) (zcV 7 hts w_1479 w_1481 wp_41 w_30 w_1482 (by decide +kernel) ⟨Nat.le_of_ble_eq_true rfl, Nat.le_of_ble_eq_true rfl⟩) (zc_preV hbase hK hN hQ hG hS ra8 rfl) rfl rfl hl.1 rfl (lv_room (Nat.le_of_ble_eq_true rfl)) d_Mo_give_75 ⟨(by dsimp only; omega), (by dsimp only; omega)⟩) hS (fun G75 H locs hp75 hG hS => ?_)
              obtain ⟨ro9, hst9, hf9⟩ := hp75
              have hst9 : rSt E G75 ro9 a c1 c2 lo rs (wad sx Wz (rgv rs ls1 ls3 t (i + 1))) px qp nq th tp co se v19 v20 := by rw [rgv_y hin hyes, ← wad_app]; exact hst9
              have hf9 : zfr ro zKr G ro9 G75 := hfr8_.tr hf9
              refine lv_iinc (v := nI (i + 1)) (lv' := [(6, .int (nI (i + 1))), (7, .ref (rA (re rs i))), (0, .ref a), (1, .int sx), (2, .ref b1), (3, .ref b3), (4, .int t), (5, .int (-1))]) hx hb d_Mo_give_78 hl (k := 7) rfl (nI_add i 1) (by decide) rfl (fun ls hl => ?_)
              refine lv_goto (tgt := 3) hx hb d_Mo_give_81 (by decide) ?_
              refine zW_more (cells2 := rPi c1 c2 (wad sx Wz (rgv rs ls1 ls3 t (i + 1))) px.length - rPi c1 c2 Wz px.length) (slots2 := rPi c1 c2 (wad sx Wz (rgv rs ls1 ls3 t (i + 1))) px.length - rPi c1 c2 Wz px.length) (by dsimp only; omega) (by dsimp only; omega) ?_
              exact ih G75 (i + 1) ro9 _ _ (by omega) (by omega) (hst9) (hf9) hG hS ls (lv_sub hl [2, 3, 4, 5, 6, 7, 0] rfl)
  refine zW_more (cells2 := rPi c1 c2 (wad sx Wz (rgv rs ls1 ls3 t 0)) px.length - rPi c1 c2 Wz px.length) (slots2 := rPi c1 c2 (wad sx Wz (rgv rs ls1 ls3 t 0)) px.length - rPi c1 c2 Wz px.length) (Nat.zero_le _) (Nat.zero_le _) ?_
  exact loop3 _ G 0 ro _ _ (Nat.lt_succ_self _) (Nat.zero_le _) (by show rSt E G ro a c1 c2 lo rs (wad sx Wz []) px qp nq th tp co se v19 v20; rw [wad_nil]; exact hst) (zfr.rf) hG hS ls (lv_sub hl [1, 2, 3, 4, 5, 6, 0] rfl)
abbrev rm_Mo_nothing (c9 s9 : Nat) : Room := { frames := 8, cells := c9, slots := s9, locals := 220 }
set_option maxHeartbeats 4000000 in
set_option maxRecDepth 100000 in
/-- nothing(), of the reference -/
theorem t_Mo_nothing (l : Launch) (E : zc_E) (G : zg_G) (a c1 c2 : Nat) (ro : zRo) (lo : np_N) (rs : List zRt) (Wz : zW) (wp : zWs) (th co se : Int32) (tp : List Int32) (v19 v20 : Value) (hst : rSt E G ro a c1 c2 lo rs Wz ([]) True (wln Wz, 0, [], wp) th tp co se v19 v20) (hB : wln Wz < 2 ^ 16) : zMv l E y_Mo_nothing c_Mo_nothing 2 (rm_Mo_nothing (rPi c1 c2 (vst (rVf rs) lo Wz) 0 - rPi c1 c2 Wz 0) (rPi c1 c2 (vst (rVf rs) lo Wz) 0 - rPi c1 c2 Wz 0)) [.ref a] G (fun (G2 : zg_G) => ∃ r2, rSt E G2 r2 a c1 c2 lo rs (vst (rVf rs) lo Wz) ([]) True (wln (vst (rVf rs) lo Wz), 0, [], wp) th tp co se v19 v20 ∧ zfr ro zKr G r2 G2) := by
  refine zMv.of (by decide) (Nat.le_of_ble_eq_true rfl) ?_
  intro p e s m args below meth c Q hZ hG hret ls hl
  obtain ⟨hx, hb, hr, hts, hown, hlocks, hml, hnm, hbase, hK, hN, hQ⟩ := hZ
  have hl : lv_has ls 2 [(0, .ref a)] := hl
  have hS : zg_S (zc_b E) s.heap s.heap [] := va_S.rf
  have hc1 : 0 < c1 := by have := hst.cs.1; omega
  have hc2 : 0 < c2 := by have := hst.cs.2.1; omega
  obtain ⟨h, eh0, eh1, eh2, hc⟩ := id hst
  obtain ⟨ra, rb, ⟨fm, rt1, rt2, rt3, rt4⟩, rtl, ⟨fo, rn1, rn2, rn3, rn4, rn5⟩, rr, rg, ras⟩ := id hc
  rw [eh0] at ra
  obtain ⟨⟨fr, rm4, hfr⟩, hn2, hRs⟩ := id rr.1
  have hin : 0 < rs.length := rg.1
  obtain ⟨hr1, ⟨nf, hr2, hr3, hr4, hr5⟩, df, hr6, hr7, hr8⟩ := hRs _ (re_mem hin)
  have hv6 : vst (rVf rs) lo Wz = wad 2 Wz [(lo, 6, vlt (rVf rs) lo, rB (re rs 0))] := by unfold vst; rw [rg.six]; rfl
  have hno : rNm E G ro (h 3) lo := ⟨fo, rn1, rn2, rn3, rn4, rn5⟩
  have hP1 : rPi c1 c2 (vst (rVf rs) lo Wz) 0 = rPi c1 c2 Wz 0 + 14 * (rcp c1 (wln Wz + 1) - rcp c1 (wln Wz)) := by rw [hv6]; exact rPi_1 (by show (6 : Int32) ≠ 47; decide) hc1
  refine lv_aload_n hx hb d_Mo_nothing_0 rfl (lv_at hl 0 rfl) ?_
  have hGo1 := hG
  refine zk_i (va_runV (As := []) (rest := []) ⟨hx, hb, hml, hown, hts⟩ (t_Mo_linkTime_s l hst) (zcV 0 hts w_1524 w_1526 wp_49 w_30 w_1527 (by decide +kernel) ⟨Nat.le_of_ble_eq_true rfl, Nat.le_of_ble_eq_true rfl⟩) (zc_preV hbase hK hN hQ hG hS ra rfl) rfl rfl hl.1 rfl (lv_room (Nat.le_of_ble_eq_true rfl)) d_Mo_nothing_1 ⟨(by dsimp only [List.length_nil]; omega), (by dsimp only [List.length_nil]; omega)⟩) hS (fun r1 G1 H locs hp1 hG hS => ?_)
  have hG : zP E G H := hp1.2 ▸ hG
  refine zi_as (y := vlt (rVf rs) lo) hp1.1 ?_
  refine lv_istore_n (lv' := [(1, .int (vlt (rVf rs) lo)), (0, .ref a)]) hx hb d_Mo_nothing_4 rfl hl (by decide) rfl (fun ls hl => ?_)
  refine lv_aload_n hx hb d_Mo_nothing_5 rfl (lv_at hl 1 rfl) ?_
  refine lv_iconst (v := 2) hx hb d_Mo_nothing_6 (by decide) ?_
  refine lv_aload_n hx hb d_Mo_nothing_7 rfl (lv_at hl 1 rfl) ?_
  refine zg_get (ci := 11) (C := "ZoneAnswersModel") (T := T_Mo) (N := 21) hx hb hts zi_Mo hown hK hG ra rfl 3 (by decide) (hts _ w_1284) (fun _ h9 => h9) rfl d_Mo_nothing_8 ?_
  refine lv_bipush (v := 6) hx hb d_Mo_nothing_11 (by decide) ?_
  refine lv_iload_n hx hb d_Mo_nothing_13 rfl (lv_at hl 0 rfl) ?_
  refine lv_aload_n hx hb d_Mo_nothing_14 rfl (lv_at hl 1 rfl) ?_
  refine zg_get (ci := 11) (C := "ZoneAnswersModel") (T := T_Mo) (N := 21) hx hb hts zi_Mo hown hK hG ra rfl 4 (by decide) (hts _ w_1285) (fun _ h9 => h9) rfl d_Mo_nothing_15 ?_
  refine lv_iconst (v := 0) hx hb d_Mo_nothing_18 (by decide) ?_
  refine zi_as (y := nI 0) (nI_0.symm) ?_
  refine zg_aldq hx hb hK hG 4 rm4 rfl (vp_in_nI (by omega) (by omega)) d_Mo_nothing_19 ?_
  refine zr_as (y := fr 0) (by rw [zi_n _ (by omega)]) ?_
  refine zr_some (a := rA (re rs 0)) (hfr 0 hin) ?_
  refine zg_get (ci := 12) (C := "ZoneAnswersModel$Rec") (T := T_Re) (N := 5) hx hb hts zi_Re hown hK hG hr1 rfl 1 (by decide) (hts _ w_1266) (fun _ h9 => h9) rfl d_Mo_nothing_20 ?_
  refine lv_iconst (v := 0) hx hb d_Mo_nothing_23 (by decide) ?_
  refine lv_aload_n hx hb d_Mo_nothing_24 rfl (lv_at hl 1 rfl) ?_
  refine zg_get (ci := 11) (C := "ZoneAnswersModel") (T := T_Mo) (N := 21) hx hb hts zi_Mo hown hK hG ra rfl 4 (by decide) (hts _ w_1285) (fun _ h9 => h9) rfl d_Mo_nothing_25 ?_
  refine lv_iconst (v := 0) hx hb d_Mo_nothing_28 (by decide) ?_
  refine zi_as (y := nI 0) (nI_0.symm) ?_
  refine zg_aldq hx hb hK hG 4 rm4 rfl (vp_in_nI (by omega) (by omega)) d_Mo_nothing_29 ?_
  refine zr_as (y := fr 0) (by rw [zi_n _ (by omega)]) ?_
  refine zr_some (a := rA (re rs 0)) (hfr 0 hin) ?_
  refine zg_get (ci := 12) (C := "ZoneAnswersModel$Rec") (T := T_Re) (N := 5) hx hb hts zi_Re hown hK hG hr1 rfl 1 (by decide) (hts _ w_1266) (fun _ h9 => h9) rfl d_Mo_nothing_30 ?_
  refine zg_alen hx hb hK hG 0 hr6 rfl (v := nI ((rB (re rs 0)).length)) rfl d_Mo_nothing_33 ?_
  have hGo34 := hG
  refine zk_v (va_runV (As := [.int 2, .ref (h 3), .int 6, .int (vlt (rVf rs) lo), .ref (rD (re rs 0)), .int 0, .int (nI ((rB (re rs 0)).length))]) (rest := []) ⟨hx, hb, hml, hown, hts⟩ (t_Mo_add_s l (hst.nxt rfl 2 lo) hB 2 (Or.inr (Or.inl rfl)) (h 3) lo hno 6 (vlt (rVf rs) lo) (by decide) (rD (re rs 0)) (rB (re rs 0)) (hst.nm hin).2.1 (hst.nm hin).2.2 (fun _ z => absurd z (by decide)) (fun _ => ⟨rfl, rfl⟩)) (zcV 7 hts w_1479 w_1481 wp_41 w_30 w_1482 (by decide +kernel) ⟨Nat.le_of_ble_eq_true rfl, Nat.le_of_ble_eq_true rfl⟩) (zc_preV hbase hK hN hQ hG hS ra rfl) rfl rfl hl.1 rfl (lv_room (Nat.le_of_ble_eq_true rfl)) d_Mo_nothing_34 ⟨(by dsimp only [List.length_nil]; omega), (by dsimp only [List.length_nil]; omega)⟩) hS (fun G34 H locs hp34 hG hS => ?_)
  obtain ⟨ro9, hst9, hf9⟩ := hp34
  have hst9 := hst9.lift trivial (Or.inl (by show (2 : Int32) ≠ 1; decide)) 0 []
  rw [← hv6] at hst9
  exact hret _ _ _ _ _ _ _ (⟨ro9, hst9, hf9⟩) hG hS (by dsimp only; omega) (by dsimp only; omega) d_Mo_nothing_37
abbrev rm_Mo_first (c9 s9 : Nat) : Room := { frames := 7, cells := c9, slots := s9, locals := 150 }
set_option maxHeartbeats 4000000 in
set_option maxRecDepth 100000 in
/-- first(x, f, t), of the reference -/
theorem t_Mo_first (l : Launch) (E : zc_E) (G : zg_G) (a c1 c2 : Nat) (ro : zRo) (lo : np_N) (rs : List zRt) (Wz : zW) (wp : zWs) (th co se : Int32) (tp : List Int32) (v19 v20 : Value) (hst : rSt E G ro a c1 c2 lo rs Wz ([]) True (wln Wz, 0, [], wp) th tp co se v19 v20) (b1 : Nat) (ls1 : np_N) (hn1 : rNm E G ro b1 ls1) (b3 : Nat) (ls3 : np_N) (hn3 : rNm E G ro b3 ls3) (t : Int32) (ht47 : t ≠ 47) (hvd : ¬ ls1 = ls3 → ¬ vD (rVf rs) ls1) (hB : wln (wad 1 Wz (vrw (rVf rs) ls1 ls3 t)) ≤ 4096) : zMv l E y_Mo_first c_Mo_first 5 (rm_Mo_first (rPi c1 c2 (wad 1 Wz (vrw (rVf rs) ls1 ls3 t)) 0 - rPi c1 c2 Wz 0) (rPi c1 c2 (wad 1 Wz (vrw (rVf rs) ls1 ls3 t)) 0 - rPi c1 c2 Wz 0)) [.ref a, .ref b1, .ref b3, .int t] G (fun (G2 : zg_G) => ∃ r2, rSt E G2 r2 a c1 c2 lo rs (wad 1 Wz (vrw (rVf rs) ls1 ls3 t)) ([]) True (wln (wad 1 Wz (vrw (rVf rs) ls1 ls3 t)), 0, [], wp) th tp co se v19 v20 ∧ zfr ro zKr G r2 G2) := by
  refine zMv.of (by decide) (Nat.le_of_ble_eq_true rfl) ?_
  intro p e s m args below meth c Q hZ hG hret ls hl
  obtain ⟨hx, hb, hr, hts, hown, hlocks, hml, hnm, hbase, hK, hN, hQ⟩ := hZ
  have hl : lv_has ls 5 [(0, .ref a), (1, .ref b1), (2, .ref b3), (3, .int t)] := hl
  have hS : zg_S (zc_b E) s.heap s.heap [] := va_S.rf
  have hc1 : 0 < c1 := by have := hst.cs.1; omega
  have hc2 : 0 < c2 := by have := hst.cs.2.1; omega
  obtain ⟨h, eh0, eh1, eh2, hc⟩ := id hst
  obtain ⟨ra, rb, ⟨fm, rt1, rt2, rt3, rt4⟩, rtl, ⟨fo, rn1, rn2, rn3, rn4, rn5⟩, rr, rg, ras⟩ := id hc
  rw [eh0] at ra
  obtain ⟨⟨fr, rm4, hfr⟩, hn2, hRs⟩ := id rr.1
  have hle : zLe Wz (wad 1 Wz (vrw (rVf rs) ls1 ls3 t)) := zLe_wad _ _ _
  have hph := rPi_le (n := 0) (m := 0) hc1 hc2 hle (rPw_le hle)
  have hwl := wln_le hle
  refine lv_aload_n hx hb d_Mo_first_0 rfl (lv_at hl 0 rfl) ?_
  refine zg_get (ci := 11) (C := "ZoneAnswersModel") (T := T_Mo) (N := 21) hx hb hts zi_Mo hown hK hG ra rfl 13 (by decide) (hts _ w_1294) (fun _ h9 => h9) rfl d_Mo_first_1 ?_
  refine lv_istore (lv' := [(4, .int (nI (wln Wz))), (0, .ref a), (1, .ref b1), (2, .ref b3), (3, .int t)]) hx hb d_Mo_first_4 hl (by decide) rfl (fun ls hl => ?_)
  refine lv_aload_n hx hb d_Mo_first_6 rfl (lv_at hl 1 rfl) ?_
  refine lv_iconst (v := 1) hx hb d_Mo_first_7 (by decide) ?_
  refine lv_aload_n hx hb d_Mo_first_8 rfl (lv_at hl 2 rfl) ?_
  refine lv_aload_n hx hb d_Mo_first_9 rfl (lv_at hl 3 rfl) ?_
  refine lv_iload_n hx hb d_Mo_first_10 rfl (lv_at hl 4 rfl) ?_
  refine lv_iconst (v := -1) hx hb d_Mo_first_11 (by decide) ?_
  have hGo12 := hG
  refine zk_v (va_runV (As := [.int 1, .ref b1, .ref b3, .int t, .int (-1)]) (rest := []) ⟨hx, hb, hml, hown, hts⟩ (t_Mo_give l E G a c1 c2 ro lo rs Wz [] True (wln Wz, 1, ls1, wp) th co se tp v19 v20 (hst.nxt rfl 1 ls1) 1 (Or.inl rfl) b1 ls1 hn1 b3 ls3 hn3 t ht47 (by omega) (fun _ => ⟨rfl, rfl⟩)) (zcV 5 hts w_1475 w_1477 wp_40 w_30 w_1478 (by decide +kernel) ⟨Nat.le_of_ble_eq_true rfl, Nat.le_of_ble_eq_true rfl⟩) (zc_preV hbase hK hN hQ hG hS ra rfl) rfl rfl hl.1 rfl (lv_room (Nat.le_of_ble_eq_true rfl)) d_Mo_first_12 ⟨(by dsimp only [List.length_nil]; omega), (by dsimp only [List.length_nil]; omega)⟩) hS (fun G12 H locs hp12 hG hS => ?_)
  obtain ⟨ro9, hst9, hf9⟩ := hp12
  obtain ⟨h9, eh09, eh19, eh29, hc9⟩ := id hst9
  obtain ⟨ra9, rb9, ⟨fm9, rt19, rt29, rt39, rt49⟩, rtl9, ⟨fo9, rn19, rn29, rn39, rn49, rn59⟩, rr9, rg9, ras9⟩ := id hc9
  rw [eh09] at ra9
  obtain ⟨⟨fr9, rm49, hfr9⟩, hn29, hRs9⟩ := id rr9.1
  have loop15 : ∀ (N : Nat) (Gv : zg_G) (i : Nat) (H : Heap) (locs : List Loc), (wln (wad 1 Wz (vrw (rVf rs) ls1 ls3 t)) - i) < N → (i ≤ wln (wad 1 Wz (vrw (rVf rs) ls1 ls3 t))) → (rSt E Gv ro9 a c1 c2 lo rs (wad 1 Wz (vrw (rVf rs) ls1 ls3 t)) ([]) True (i, 1, ls1, wp) th tp co se v19 v20) → (zfr ro zKr G ro9 Gv) → zP E Gv H → zg_S (zc_b E) s.heap H locs → ∀ (ls : Array Slot), lv_has ls 5 [(0, .ref a), (1, .ref b1), (2, .ref b3), (3, .int t), (4, .int (nI i))] → W p l e (rm_Mo_first (rPi c1 c2 (wad 1 Wz (vrw (rVf rs) ls1 ls3 t)) 0 - rPi c1 c2 Wz 0) (rPi c1 c2 (wad 1 Wz (vrw (rVf rs) ls1 ls3 t)) 0 - rPi c1 c2 Wz 0)) s m args below meth c H locs (rPi c1 c2 (wad 1 Wz (vrw (rVf rs) ls1 ls3 t)) 0 - rPi c1 c2 Wz 0) (rPi c1 c2 (wad 1 Wz (vrw (rVf rs) ls1 ls3 t)) 0 - rPi c1 c2 Wz 0) Q (F0 m 15 ls []) := by
    intro N
    induction N with
    | zero =>
      intro Gv i H locs hlt
      exact absurd hlt (Nat.not_lt_zero _)
    | succ N ih =>
      intro Gv i H locs hlt hi hst8 hfr8_ hG hS ls hl
      obtain ⟨h8, eh08, eh18, eh28, hc8⟩ := id hst8
      obtain ⟨ra8, rb8, ⟨fm8, rt18, rt28, rt38, rt48⟩, rtl8, ⟨fo8, rn18, rn28, rn38, rn48, rn58⟩, rr8, rg8, ras8⟩ := id hc8
      rw [eh08] at ra8
      obtain ⟨⟨fr8, rm48, hfr8⟩, hn28, hRs8⟩ := id rr8.1
      have hn18 := hn1.fr hfr8_ zKr_0
      have hn38 := hn3.fr hfr8_ zKr_0
      obtain ⟨f_b18, n1_b18, n2_b18, n3_b18, n4_b18, n5_b18⟩ := id hn18
      have sm_b18 := n3_b18.2
      obtain ⟨f_b38, n1_b38, n2_b38, n3_b38, n4_b38, n5_b38⟩ := id hn38
      have sm_b38 := n3_b38.2
      obtain ⟨ws8, an8, pl8, ff8, fp8, -, -, -, -, -, -, -, -, -, ⟨y18, y28, y38⟩, -⟩ := id ras8
      refine lv_iload hx hb d_Mo_first_15 (lv_at hl 4 rfl) ?_
      refine lv_aload_n hx hb d_Mo_first_17 rfl (lv_at hl 0 rfl) ?_
      refine zg_get (ci := 11) (C := "ZoneAnswersModel") (T := T_Mo) (N := 21) hx hb hts zi_Mo hown hK hG ra8 rfl 13 (by decide) (hts _ w_1294) (fun _ h9 => h9) rfl d_Mo_first_18 ?_
      refine lv_icmp_ge (tgt := 55) hx hb d_Mo_first_21 (by decide) (fun c21 => ?_) (fun c21 => ?_)
      · have b21 : (wln (wad 1 Wz (vrw (rVf rs) ls1 ls3 t))) ≤ i := (nI_leI (a := (wln (wad 1 Wz (vrw (rVf rs) ls1 ls3 t)))) (b := i) (by omega) (by omega)).mp c21
        exact hret _ _ _ _ _ _ _ (⟨ro9, hst8.nxt (by show i = _; omega) 0 [], hfr8_⟩) hG hS (Nat.le_refl _) (Nat.le_refl _) d_Mo_first_55
      · have b21 : ¬ (wln (wad 1 Wz (vrw (rVf rs) ls1 ls3 t))) ≤ i := fun q => c21 ((nI_leI (a := (wln (wad 1 Wz (vrw (rVf rs) ls1 ls3 t)))) (b := i) (by omega) (by omega)).mpr q)
        refine lv_aload_n hx hb d_Mo_first_24 rfl (lv_at hl 0 rfl) ?_
        refine zg_get (ci := 11) (C := "ZoneAnswersModel") (T := T_Mo) (N := 21) hx hb hts zi_Mo hown hK hG ra8 rfl 18 (by decide) (hts _ w_1299) (fun _ h9 => h9) rfl d_Mo_first_25 ?_
        refine lv_iload hx hb d_Mo_first_28 (lv_at hl 4 rfl) ?_
        refine lv_sipush (v := 4095) hx hb d_Mo_first_30 (by decide) ?_
        refine lv_iand hx hb d_Mo_first_33 ?_
        refine zi_as (y := nI i) (by rw [pk_andN (by omega) 12 (by decide), Nat.mod_eq_of_lt (by omega)]) ?_
        refine lv_aload_n hx hb d_Mo_first_34 rfl (lv_at hl 1 rfl) ?_
        refine lv_aload_n hx hb d_Mo_first_35 rfl (lv_at hl 2 rfl) ?_
        refine zk_i (va_runS (As := [.ref b1, .ref b3]) (rest := [.int (nI i), .ref (h8 18)]) ⟨hx, hb, hml, hown, hts⟩ (t_Ns_same l E Gv b1 (np_len ls1) f_b18 n1_b18 b3 (np_len ls3) f_b38 n1_b38 (by omega) (by omega)) (zcS 2 hts w_1405 w_1406 w_33 w_1407 (by decide +kernel) ⟨Nat.le_of_ble_eq_true rfl, Nat.le_of_ble_eq_true rfl⟩) (zc_pre hbase hK hN hQ hG hS) rfl rfl hl.1 rfl (lv_room (Nat.le_of_ble_eq_true rfl)) d_Mo_first_36 ⟨(by dsimp only [List.length_nil]; omega), (by dsimp only [List.length_nil]; omega)⟩) hS (fun r36 G36 H locs hp36 hG hS => ?_)
        have hG : zP E Gv H := hp36.2 ▸ hG
        refine lv_if_eq (tgt := 46) hx hb d_Mo_first_39 (by decide) (fun c39 => ?_) (fun c39 => ?_)
        · refine lv_iconst (v := 0) hx hb d_Mo_first_46 (by decide) ?_
          refine lv_i2b hx hb d_Mo_first_47 rfl ?_
          refine zi_as (y := 0) (by decide) ?_
          refine zg_bast hx hb hK hG hS 0 y18 rfl (vp_in_nI (by omega) (by omega)) d_Mo_first_48 (fun H locs hG hS => ?_)
          rw [zi_n i (by omega)] at hG
          obtain ⟨G1, eG1⟩ : ∃ z : zg_G, z = zg_up Gv (h8 18) (.inl (E.2.1 0, 4096, .inl (upd ff8 i (vp_nar .byte 0)))) := ⟨_, rfl⟩
          have hG : zP E G1 H := by rw [eG1]; exact hG
          have k2 : G1 (h8 18) = some (.inl (E.2.1 0, 4096, .inl (upd ff8 i (vp_nar .byte 0)))) := by rw [eG1]; exact zg_up_self _ _ _
          refine lv_iinc (v := nI (i + 1)) (lv' := [(4, .int (nI (i + 1))), (0, .ref a), (1, .ref b1), (2, .ref b3), (3, .int t)]) hx hb d_Mo_first_49 hl (k := 4) rfl (nI_add i 1) (by decide) rfl (fun ls hl => ?_)
          refine lv_goto (tgt := 15) hx hb d_Mo_first_52 (by decide) ?_
          have hstm : rSt E G1 ro9 a c1 c2 lo rs (wad 1 Wz (vrw (rVf rs) ls1 ls3 t)) ([]) True (i + 1, 1, ls1, wp) th tp co se v19 v20 := by
            rw [eG1]
            exact ⟨h8, eh08, eh18, eh28, (rSt.mark hc8 y18 (by omega) hB (v := vp_nar .byte 0) (by decide) (fun z => by exact absurd z (hvd (fun q => hp36.1.z c39 ((zsm_n n2_b18 n2_b38 n3_b18 n3_b38).mpr q)))) trivial).1⟩
          have hfm : zfr ro zKr G ro9 G1 := by
            rw [eG1]
            exact hfr8_.tr (rSt.mark hc8 y18 (by omega) hB (v := vp_nar .byte 0) (by decide) (fun z => by exact absurd z (hvd (fun q => hp36.1.z c39 ((zsm_n n2_b18 n2_b38 n3_b18 n3_b38).mpr q)))) trivial).2
          exact ih G1 (i + 1) _ _ (by omega) (by omega) (hstm) (hfm) hG hS ls (lv_sub hl [1, 2, 3, 4, 0] rfl)
        · refine lv_iconst (v := 1) hx hb d_Mo_first_42 (by decide) ?_
          refine lv_goto (tgt := 47) hx hb d_Mo_first_43 (by decide) ?_
          refine lv_i2b hx hb d_Mo_first_47 rfl ?_
          refine zi_as (y := 1) (by decide) ?_
          refine zg_bast hx hb hK hG hS 0 y18 rfl (vp_in_nI (by omega) (by omega)) d_Mo_first_48 (fun H locs hG hS => ?_)
          rw [zi_n i (by omega)] at hG
          obtain ⟨G3, eG3⟩ : ∃ z : zg_G, z = zg_up Gv (h8 18) (.inl (E.2.1 0, 4096, .inl (upd ff8 i (vp_nar .byte 1)))) := ⟨_, rfl⟩
          have hG : zP E G3 H := by rw [eG3]; exact hG
          have k4 : G3 (h8 18) = some (.inl (E.2.1 0, 4096, .inl (upd ff8 i (vp_nar .byte 1)))) := by rw [eG3]; exact zg_up_self _ _ _
          refine lv_iinc (v := nI (i + 1)) (lv' := [(4, .int (nI (i + 1))), (0, .ref a), (1, .ref b1), (2, .ref b3), (3, .int t)]) hx hb d_Mo_first_49 hl (k := 4) rfl (nI_add i 1) (by decide) rfl (fun ls hl => ?_)
          refine lv_goto (tgt := 15) hx hb d_Mo_first_52 (by decide) ?_
          have hstm : rSt E G3 ro9 a c1 c2 lo rs (wad 1 Wz (vrw (rVf rs) ls1 ls3 t)) ([]) True (i + 1, 1, ls1, wp) th tp co se v19 v20 := by
            rw [eG3]
            exact ⟨h8, eh08, eh18, eh28, (rSt.mark hc8 y18 (by omega) hB (v := vp_nar .byte 1) (by decide) (fun z => by decide) trivial).1⟩
          have hfm : zfr ro zKr G ro9 G3 := by
            rw [eG3]
            exact hfr8_.tr (rSt.mark hc8 y18 (by omega) hB (v := vp_nar .byte 1) (by decide) (fun z => by decide) trivial).2
          exact ih G3 (i + 1) _ _ (by omega) (by omega) (hstm) (hfm) hG hS ls (lv_sub hl [1, 2, 3, 4, 0] rfl)
  refine zW_more (cells2 := rPi c1 c2 (wad 1 Wz (vrw (rVf rs) ls1 ls3 t)) 0 - rPi c1 c2 Wz 0) (slots2 := rPi c1 c2 (wad 1 Wz (vrw (rVf rs) ls1 ls3 t)) 0 - rPi c1 c2 Wz 0) (by dsimp only [List.length_nil]; omega) (by dsimp only [List.length_nil]; omega) ?_
  exact loop15 _ G12 (wln Wz) _ _ (Nat.lt_succ_self _) (hwl) (hst9) (hf9) hG hS ls (lv_sub hl [1, 2, 3, 4, 0] rfl)
abbrev rm_Mo_more (c9 s9 : Nat) : Room := { frames := 7, cells := c9, slots := s9, locals := 180 }
set_option maxHeartbeats 4000000 in
set_option maxRecDepth 100000 in
/-- more(x), of the reference -/
theorem t_Mo_more (l : Launch) (E : zc_E) (G : zg_G) (a c1 c2 : Nat) (ro : zRo) (lo : np_N) (rs : List zRt) (Wz : zW) (wp : zWs) (th co se : Int32) (tp : List Int32) (v19 v20 : Value) (hst : rSt E G ro a c1 c2 lo rs Wz ([]) True (wln Wz, 0, [], wp) th tp co se v19 v20) (b1 : Nat) (ls1 : np_N) (hn1 : rNm E G ro b1 ls1) (hB : wln (vao (rVf rs) Wz ls1) ≤ 4096) : zMv l E y_Mo_more c_Mo_more 4 (rm_Mo_more (rPi c1 c2 (rMr (rVf rs) Wz ls1 2) 0 - rPi c1 c2 Wz 0) (rPi c1 c2 (rMr (rVf rs) Wz ls1 2) 0 - rPi c1 c2 Wz 0)) [.ref a, .ref b1] G (fun (G2 : zg_G) => ∃ r2, rSt E G2 r2 a c1 c2 lo rs (vao (rVf rs) Wz ls1) ([]) True (wln (vao (rVf rs) Wz ls1), 0, [], wp) th tp co se v19 v20 ∧ zfr ro zKr G r2 G2) := by
  refine zMv.of (by decide) (Nat.le_of_ble_eq_true rfl) ?_
  intro p e s m args below meth c Q hZ hG hret ls hl
  obtain ⟨hx, hb, hr, hts, hown, hlocks, hml, hnm, hbase, hK, hN, hQ⟩ := hZ
  have hl : lv_has ls 4 [(0, .ref a), (1, .ref b1)] := hl
  have hS : zg_S (zc_b E) s.heap s.heap [] := va_S.rf
  have hc1 : 0 < c1 := by have := hst.cs.1; omega
  have hc2 : 0 < c2 := by have := hst.cs.2.1; omega
  obtain ⟨h, eh0, eh1, eh2, hc⟩ := id hst
  obtain ⟨ra, rb, ⟨fm, rt1, rt2, rt3, rt4⟩, rtl, ⟨fo, rn1, rn2, rn3, rn4, rn5⟩, rr, rg, ras⟩ := id hc
  rw [eh0] at ra
  obtain ⟨⟨fr, rm4, hfr⟩, hn2, hRs⟩ := id rr.1
  obtain ⟨f_b1, n1_b1, n2_b1, n3_b1, n4_b1, n5_b1⟩ := id hn1
  have sm_b1 := n3_b1.2
  have hL0 : zLe Wz (rMr (rVf rs) Wz ls1 1) := vad_le _ _ _ _
  have hL1 : zLe (rMr (rVf rs) Wz ls1 1) (rMr (rVf rs) Wz ls1 2) := vad_le _ _ _ _
  have hp0 := rPi_le (n := 0) (m := 0) hc1 hc2 hL0 (rPw_le hL0)
  have hp1 := rPi_le (n := 0) (m := 0) hc1 hc2 hL1 (rPw_le hL1)
  have hw0 := wln_le hL0
  have hw1 := wln_le hL1
  have hB2 : wln (rMr (rVf rs) Wz ls1 2) ≤ 4096 := hB
  have e0 : rMr (rVf rs) Wz ls1 0 = Wz := rfl
  have e2 : rMr (rVf rs) Wz ls1 2 = vao (rVf rs) Wz ls1 := rfl
  change wln (rMr (rVf rs) Wz ls1 0) ≤ _ at hw0
  change rPi c1 c2 (rMr (rVf rs) Wz ls1 0) 0 ≤ _ at hp0
  refine lv_aload_n hx hb d_Mo_more_0 rfl (lv_at hl 1 rfl) ?_
  refine lv_aload_n hx hb d_Mo_more_1 rfl (lv_at hl 0 rfl) ?_
  refine zg_get (ci := 11) (C := "ZoneAnswersModel") (T := T_Mo) (N := 21) hx hb hts zi_Mo hown hK hG ra rfl 3 (by decide) (hts _ w_1284) (fun _ h9 => h9) rfl d_Mo_more_2 ?_
  refine zk_i (va_runS (As := [.ref b1, .ref (h 3)]) (rest := []) ⟨hx, hb, hml, hown, hts⟩ (t_Ns_below l E G b1 ls1 f_b1 n1_b1 n2_b1 n3_b1 (h 3) lo fo rn1 rn2 rn3) (zcS 2 hts w_1392 w_1393 w_33 w_1394 (by decide +kernel) ⟨Nat.le_of_ble_eq_true rfl, Nat.le_of_ble_eq_true rfl⟩) (zc_pre hbase hK hN hQ hG hS) rfl rfl hl.1 rfl (lv_room (Nat.le_of_ble_eq_true rfl)) d_Mo_more_5 ⟨(by dsimp only [List.length_nil]; omega), (by dsimp only [List.length_nil]; omega)⟩) hS (fun r5 G5 H locs hp5 hG hS => ?_)
  have hG : zP E G H := hp5.2 ▸ hG
  refine lv_if_ne (tgt := 12) hx hb d_Mo_more_8 (by decide) (fun c8 => ?_) (fun c8 => ?_)
  · refine lv_iconst (v := 0) hx hb d_Mo_more_12 (by decide) ?_
    refine zi_as (y := nI 0) (nI_0.symm) ?_
    refine lv_istore_n (lv' := [(2, .int (nI 0)), (0, .ref a), (1, .ref b1)]) hx hb d_Mo_more_13 rfl hl (by decide) rfl (fun ls hl => ?_)
    have loop14 : ∀ (N : Nat) (Gv : zg_G) (i : Nat) (ro8 : zRo) (H : Heap) (locs : List Loc), (2 - i) < N → (i ≤ 2) → (rSt E Gv ro8 a c1 c2 lo rs (rMr (rVf rs) Wz ls1 i) ([]) True (wln (rMr (rVf rs) Wz ls1 i), 0, [], wp) th tp co se v19 v20) → (zfr ro zKr G ro8 Gv) → zP E Gv H → zg_S (zc_b E) s.heap H locs → ∀ (ls : Array Slot), lv_has ls 4 [(0, .ref a), (1, .ref b1), (2, .int (nI i))] → W p l e (rm_Mo_more (rPi c1 c2 (rMr (rVf rs) Wz ls1 2) 0 - rPi c1 c2 Wz 0) (rPi c1 c2 (rMr (rVf rs) Wz ls1 2) 0 - rPi c1 c2 Wz 0)) s m args below meth c H locs (rPi c1 c2 (rMr (rVf rs) Wz ls1 i) 0 - rPi c1 c2 Wz 0) (rPi c1 c2 (rMr (rVf rs) Wz ls1 i) 0 - rPi c1 c2 Wz 0) Q (F0 m 14 ls []) := by
      intro N
      induction N with
      | zero =>
        intro Gv i ro8 H locs hlt
        exact absurd hlt (Nat.not_lt_zero _)
      | succ N ih =>
        intro Gv i ro8 H locs hlt hi hst8 hfr8_ hG hS ls hl
        obtain ⟨h8, eh08, eh18, eh28, hc8⟩ := id hst8
        obtain ⟨ra8, rb8, ⟨fm8, rt18, rt28, rt38, rt48⟩, rtl8, ⟨fo8, rn18, rn28, rn38, rn48, rn58⟩, rr8, rg8, ras8⟩ := id hc8
        rw [eh08] at ra8
        obtain ⟨⟨fr8, rm48, hfr8⟩, hn28, hRs8⟩ := id rr8.1
        have hn18 := hn1.fr hfr8_ zKr_0
        obtain ⟨f_b18, n1_b18, n2_b18, n3_b18, n4_b18, n5_b18⟩ := id hn18
        have sm_b18 := n3_b18.2
        refine lv_iload_n hx hb d_Mo_more_14 rfl (lv_at hl 2 rfl) ?_
        refine lv_iconst (v := 2) hx hb d_Mo_more_15 (by decide) ?_
        refine zi_as (y := nI 2) (by decide) ?_
        refine lv_icmp_ge (tgt := 64) hx hb d_Mo_more_16 (by decide) (fun c16 => ?_) (fun c16 => ?_)
        · have b16 : 2 ≤ i := (nI_leI (a := 2) (b := i) (by omega) (by omega)).mp c16
          exact hret _ _ _ _ _ _ _ (⟨ro8, by rw [show i = 2 by omega] at hst8; exact hst8, hfr8_⟩) hG hS (by rw [show i = 2 by omega]; exact Nat.le_refl _) (by rw [show i = 2 by omega]; exact Nat.le_refl _) d_Mo_more_64
        · have b16 : ¬ 2 ≤ i := fun q => c16 ((nI_leI (a := 2) (b := i) (by omega) (by omega)).mpr q)
          refine lv_iload_n hx hb d_Mo_more_19 rfl (lv_at hl 2 rfl) ?_
          refine lv_if_ne (tgt := 27) hx hb d_Mo_more_20 (by decide) (fun c20 => ?_) (fun c20 => ?_)
          · have b20 : ¬ i = 0 := fun q => c20 ((nI_eq (a := i) (b := 0) (by omega) (by omega)).mpr q)
            have hk0 : i = 1 := by omega
            have hstp : rMr (rVf rs) Wz ls1 (i + 1) = vad (rVf rs) (rMr (rVf rs) Wz ls1 i) ls1 28 := by rw [hk0]; rfl
            have hpi1 : rPi c1 c2 (rMr (rVf rs) Wz ls1 i) 0 ≤ rPi c1 c2 (rMr (rVf rs) Wz ls1 (i + 1)) 0 := by rw [hk0]; exact hp1
            have hpi2 : rPi c1 c2 (rMr (rVf rs) Wz ls1 (i + 1)) 0 ≤ rPi c1 c2 (rMr (rVf rs) Wz ls1 2) 0 := by rw [hk0]; exact Nat.le_refl _
            have hpi0 : rPi c1 c2 Wz 0 ≤ rPi c1 c2 (rMr (rVf rs) Wz ls1 i) 0 := by rw [hk0]; exact hp0
            have hwi : wln (rMr (rVf rs) Wz ls1 (i + 1)) ≤ 4096 := by rw [hk0]; exact hB2
            have hwi0 : wln (rMr (rVf rs) Wz ls1 i) ≤ 4096 := by rw [hk0]; exact Nat.le_trans hw1 hB2
            refine lv_bipush (v := 28) hx hb d_Mo_more_27 (by decide) ?_
            refine lv_istore_n (lv' := [(3, .int 28), (0, .ref a), (1, .ref b1), (2, .int (nI i))]) hx hb d_Mo_more_29 rfl hl (by decide) rfl (fun ls hl => ?_)
            refine lv_aload_n hx hb d_Mo_more_30 rfl (lv_at hl 1 rfl) ?_
            refine lv_iconst (v := 3) hx hb d_Mo_more_31 (by decide) ?_
            refine lv_aload_n hx hb d_Mo_more_32 rfl (lv_at hl 2 rfl) ?_
            refine lv_iload_n hx hb d_Mo_more_33 rfl (lv_at hl 0 rfl) ?_
            refine zk_i (va_runV (As := [.int 3, .ref b1, .int 28]) (rest := []) ⟨hx, hb, hml, hown, hts⟩ (t_Mo_shown_s l hst8 3 28 (Or.inr (Or.inr rfl)) b1 ls1 hn18) (zcV 3 hts w_1497 w_1499 wp_44 w_30 w_1500 (by decide +kernel) ⟨Nat.le_of_ble_eq_true rfl, Nat.le_of_ble_eq_true rfl⟩) (zc_preV hbase hK hN hQ hG hS ra8 rfl) rfl rfl hl.1 rfl (lv_room (Nat.le_of_ble_eq_true rfl)) d_Mo_more_34 ⟨(by dsimp only [List.length_nil]; omega), (by dsimp only [List.length_nil]; omega)⟩) hS (fun r34 G34 H locs hp34 hG hS => ?_)
            have hG : zP E Gv H := hp34.2 ▸ hG
            refine lv_if_ne (tgt := 58) hx hb d_Mo_more_37 (by decide) (fun c37 => ?_) (fun c37 => ?_)
            · refine lv_iinc (v := nI (i + 1)) (lv' := [(2, .int (nI (i + 1))), (3, .int 28), (0, .ref a), (1, .ref b1)]) hx hb d_Mo_more_58 hl (k := 3) rfl (nI_add i 1) (by decide) rfl (fun ls hl => ?_)
              refine lv_goto (tgt := 14) hx hb d_Mo_more_61 (by decide) ?_
              have hvs : rMr (rVf rs) Wz ls1 (i + 1) = rMr (rVf rs) Wz ls1 i := hstp.trans (vad_h (Or.inl (hp34.1.nz c37)))
              have hst10 : rSt E Gv ro8 a c1 c2 lo rs (rMr (rVf rs) Wz ls1 (i + 1)) ([]) True (wln (rMr (rVf rs) Wz ls1 (i + 1)), 0, [], wp) th tp co se v19 v20 := by rw [hvs]; exact hst8
              refine zW_more (cells2 := rPi c1 c2 (rMr (rVf rs) Wz ls1 (i + 1)) 0 - rPi c1 c2 Wz 0) (slots2 := rPi c1 c2 (rMr (rVf rs) Wz ls1 (i + 1)) 0 - rPi c1 c2 Wz 0) (by rw [hvs]; exact Nat.le_refl _) (by rw [hvs]; exact Nat.le_refl _) ?_
              exact ih Gv (i + 1) ro8 _ _ (by omega) (by omega) (hst10) (hfr8_) hG hS ls (lv_sub hl [2, 3, 0] rfl)
            · refine lv_aload_n hx hb d_Mo_more_40 rfl (lv_at hl 1 rfl) ?_
              refine lv_aload_n hx hb d_Mo_more_41 rfl (lv_at hl 2 rfl) ?_
              refine lv_iload_n hx hb d_Mo_more_42 rfl (lv_at hl 0 rfl) ?_
              have hGo43 := hG
              refine zk_i (va_runV (As := [.ref b1, .int 28]) (rest := []) ⟨hx, hb, hml, hown, hts⟩ (t_Mo_own_s l hst8 28 rfl (by omega) b1 ls1 hn18) (zcV 2 hts w_1536 w_1538 wp_51 w_30 w_1539 (by decide +kernel) ⟨Nat.le_of_ble_eq_true rfl, Nat.le_of_ble_eq_true rfl⟩) (zc_preV hbase hK hN hQ hG hS ra8 rfl) rfl rfl hl.1 rfl (lv_room (Nat.le_of_ble_eq_true rfl)) d_Mo_more_43 ⟨(by dsimp only [List.length_nil]; omega), (by dsimp only [List.length_nil]; omega)⟩) hS (fun r43 G43 H locs hp43 hG hS => ?_)
              have hG : zP E Gv H := hp43.2 ▸ hG
              obtain ⟨R9, hRz, hR1, hR2⟩ := hp43.1
              refine lv_if_ne (tgt := 58) hx hb d_Mo_more_46 (by decide) (fun c46 => ?_) (fun c46 => ?_)
              · refine lv_iinc (v := nI (i + 1)) (lv' := [(2, .int (nI (i + 1))), (3, .int 28), (0, .ref a), (1, .ref b1)]) hx hb d_Mo_more_58 hl (k := 3) rfl (nI_add i 1) (by decide) rfl (fun ls hl => ?_)
                refine lv_goto (tgt := 14) hx hb d_Mo_more_61 (by decide) ?_
                have hvs : rMr (rVf rs) Wz ls1 (i + 1) = rMr (rVf rs) Wz ls1 i := hstp.trans (vad_h (Or.inr (hR1 (hRz.nz c46))))
                have hst10 : rSt E Gv ro8 a c1 c2 lo rs (rMr (rVf rs) Wz ls1 (i + 1)) ([]) True (wln (rMr (rVf rs) Wz ls1 (i + 1)), 0, [], wp) th tp co se v19 v20 := by rw [hvs]; exact hst8
                refine zW_more (cells2 := rPi c1 c2 (rMr (rVf rs) Wz ls1 (i + 1)) 0 - rPi c1 c2 Wz 0) (slots2 := rPi c1 c2 (rMr (rVf rs) Wz ls1 (i + 1)) 0 - rPi c1 c2 Wz 0) (by rw [hvs]; exact Nat.le_refl _) (by rw [hvs]; exact Nat.le_refl _) ?_
                exact ih Gv (i + 1) ro8 _ _ (by omega) (by omega) (hst10) (hfr8_) hG hS ls (lv_sub hl [2, 3, 0] rfl)
              · refine lv_aload_n hx hb d_Mo_more_49 rfl (lv_at hl 1 rfl) ?_
                refine lv_iconst (v := 3) hx hb d_Mo_more_50 (by decide) ?_
                refine lv_aload_n hx hb d_Mo_more_51 rfl (lv_at hl 2 rfl) ?_
                refine lv_aload_n hx hb d_Mo_more_52 rfl (lv_at hl 2 rfl) ?_
                refine lv_iload_n hx hb d_Mo_more_53 rfl (lv_at hl 0 rfl) ?_
                refine lv_iconst (v := -1) hx hb d_Mo_more_54 (by decide) ?_
                have hR0 : ¬ R9 := hRz.z c46
                have hvg : rMr (rVf rs) Wz ls1 (i + 1) = wad 3 (rMr (rVf rs) Wz ls1 i) (vrw (rVf rs) ls1 ls1 28) := hstp.trans (vad_g (fun z => hp34.1.z c37 z) (fun z w => hR0 (hR2 z w)))
                have hGo55 := hG
                refine zk_v (va_runV (As := [.int 3, .ref b1, .ref b1, .int 28, .int (-1)]) (rest := []) ⟨hx, hb, hml, hown, hts⟩ (t_Mo_give l E Gv a c1 c2 ro8 lo rs (rMr (rVf rs) Wz ls1 i) [] True (wln (rMr (rVf rs) Wz ls1 i), 3, ls1, wp) th co se tp v19 v20 (hst8.nxt rfl 3 ls1) 3 (Or.inr (Or.inr rfl)) b1 ls1 hn18 b1 ls1 hn18 28 (by decide) (by rw [← hvg]; omega) (fun _ => ⟨rfl, rfl⟩)) (zcV 5 hts w_1475 w_1477 wp_40 w_30 w_1478 (by decide +kernel) ⟨Nat.le_of_ble_eq_true rfl, Nat.le_of_ble_eq_true rfl⟩) (zc_preV hbase hK hN hQ hG hS ra8 rfl) rfl rfl hl.1 rfl (lv_room (Nat.le_of_ble_eq_true rfl)) d_Mo_more_55 ⟨(by dsimp only [List.length_nil]; rw [← hvg]; omega), (by dsimp only [List.length_nil]; rw [← hvg]; omega)⟩) hS (fun G55 H locs hp55 hG hS => ?_)
                obtain ⟨ro9, hst9, hf9⟩ := hp55
                refine lv_iinc (v := nI (i + 1)) (lv' := [(2, .int (nI (i + 1))), (3, .int 28), (0, .ref a), (1, .ref b1)]) hx hb d_Mo_more_58 hl (k := 3) rfl (nI_add i 1) (by decide) rfl (fun ls hl => ?_)
                refine lv_goto (tgt := 14) hx hb d_Mo_more_61 (by decide) ?_
                have hst10 : rSt E G55 ro9 a c1 c2 lo rs (rMr (rVf rs) Wz ls1 (i + 1)) ([]) True (wln (rMr (rVf rs) Wz ls1 (i + 1)), 0, [], wp) th tp co se v19 v20 := by rw [hvg]; exact hst9.lift trivial (Or.inl (by show (3 : Int32) ≠ 1; decide)) 0 []
                refine zW_more (cells2 := rPi c1 c2 (rMr (rVf rs) Wz ls1 (i + 1)) 0 - rPi c1 c2 Wz 0) (slots2 := rPi c1 c2 (rMr (rVf rs) Wz ls1 (i + 1)) 0 - rPi c1 c2 Wz 0) (by dsimp only [List.length_nil]; rw [← hvg]; omega) (by dsimp only [List.length_nil]; rw [← hvg]; omega) ?_
                exact ih G55 (i + 1) ro9 _ _ (by omega) (by omega) (hst10) (hfr8_.tr hf9) hG hS ls (lv_sub hl [2, 3, 0] rfl)
          · have b20 : i = 0 := (nI_eq (a := i) (b := 0) (by omega) (by omega)).mp c20
            have hk0 : i = 0 := by omega
            have hstp : rMr (rVf rs) Wz ls1 (i + 1) = vad (rVf rs) (rMr (rVf rs) Wz ls1 i) ls1 1 := by rw [hk0]; rfl
            have hpi1 : rPi c1 c2 (rMr (rVf rs) Wz ls1 i) 0 ≤ rPi c1 c2 (rMr (rVf rs) Wz ls1 (i + 1)) 0 := by rw [hk0]; exact hp0
            have hpi2 : rPi c1 c2 (rMr (rVf rs) Wz ls1 (i + 1)) 0 ≤ rPi c1 c2 (rMr (rVf rs) Wz ls1 2) 0 := by rw [hk0]; exact hp1
            have hpi0 : rPi c1 c2 Wz 0 ≤ rPi c1 c2 (rMr (rVf rs) Wz ls1 i) 0 := by rw [hk0]; exact Nat.le_refl _
            have hwi : wln (rMr (rVf rs) Wz ls1 (i + 1)) ≤ 4096 := by rw [hk0]; exact Nat.le_trans hw1 hB2
            have hwi0 : wln (rMr (rVf rs) Wz ls1 i) ≤ 4096 := by rw [hk0]; exact Nat.le_trans hw0 (Nat.le_trans hw1 hB2)
            refine lv_iconst (v := 1) hx hb d_Mo_more_23 (by decide) ?_
            refine lv_goto (tgt := 29) hx hb d_Mo_more_24 (by decide) ?_
            refine lv_istore_n (lv' := [(3, .int 1), (0, .ref a), (1, .ref b1), (2, .int (nI i))]) hx hb d_Mo_more_29 rfl hl (by decide) rfl (fun ls hl => ?_)
            refine lv_aload_n hx hb d_Mo_more_30 rfl (lv_at hl 1 rfl) ?_
            refine lv_iconst (v := 3) hx hb d_Mo_more_31 (by decide) ?_
            refine lv_aload_n hx hb d_Mo_more_32 rfl (lv_at hl 2 rfl) ?_
            refine lv_iload_n hx hb d_Mo_more_33 rfl (lv_at hl 0 rfl) ?_
            refine zk_i (va_runV (As := [.int 3, .ref b1, .int 1]) (rest := []) ⟨hx, hb, hml, hown, hts⟩ (t_Mo_shown_s l hst8 3 1 (Or.inr (Or.inr rfl)) b1 ls1 hn18) (zcV 3 hts w_1497 w_1499 wp_44 w_30 w_1500 (by decide +kernel) ⟨Nat.le_of_ble_eq_true rfl, Nat.le_of_ble_eq_true rfl⟩) (zc_preV hbase hK hN hQ hG hS ra8 rfl) rfl rfl hl.1 rfl (lv_room (Nat.le_of_ble_eq_true rfl)) d_Mo_more_34 ⟨(by dsimp only [List.length_nil]; omega), (by dsimp only [List.length_nil]; omega)⟩) hS (fun r34 G34 H locs hp34 hG hS => ?_)
            have hG : zP E Gv H := hp34.2 ▸ hG
            refine lv_if_ne (tgt := 58) hx hb d_Mo_more_37 (by decide) (fun c37 => ?_) (fun c37 => ?_)
            · refine lv_iinc (v := nI (i + 1)) (lv' := [(2, .int (nI (i + 1))), (3, .int 1), (0, .ref a), (1, .ref b1)]) hx hb d_Mo_more_58 hl (k := 3) rfl (nI_add i 1) (by decide) rfl (fun ls hl => ?_)
              refine lv_goto (tgt := 14) hx hb d_Mo_more_61 (by decide) ?_
              have hvs : rMr (rVf rs) Wz ls1 (i + 1) = rMr (rVf rs) Wz ls1 i := hstp.trans (vad_h (Or.inl (hp34.1.nz c37)))
              have hst10 : rSt E Gv ro8 a c1 c2 lo rs (rMr (rVf rs) Wz ls1 (i + 1)) ([]) True (wln (rMr (rVf rs) Wz ls1 (i + 1)), 0, [], wp) th tp co se v19 v20 := by rw [hvs]; exact hst8
              refine zW_more (cells2 := rPi c1 c2 (rMr (rVf rs) Wz ls1 (i + 1)) 0 - rPi c1 c2 Wz 0) (slots2 := rPi c1 c2 (rMr (rVf rs) Wz ls1 (i + 1)) 0 - rPi c1 c2 Wz 0) (by rw [hvs]; exact Nat.le_refl _) (by rw [hvs]; exact Nat.le_refl _) ?_
              exact ih Gv (i + 1) ro8 _ _ (by omega) (by omega) (hst10) (hfr8_) hG hS ls (lv_sub hl [2, 3, 0] rfl)
            · refine lv_aload_n hx hb d_Mo_more_40 rfl (lv_at hl 1 rfl) ?_
              refine lv_aload_n hx hb d_Mo_more_41 rfl (lv_at hl 2 rfl) ?_
              refine lv_iload_n hx hb d_Mo_more_42 rfl (lv_at hl 0 rfl) ?_
              have hGo43 := hG
              refine zk_i (va_runV (As := [.ref b1, .int 1]) (rest := []) ⟨hx, hb, hml, hown, hts⟩ (t_Mo_own_s l hst8 1 rfl (by omega) b1 ls1 hn18) (zcV 2 hts w_1536 w_1538 wp_51 w_30 w_1539 (by decide +kernel) ⟨Nat.le_of_ble_eq_true rfl, Nat.le_of_ble_eq_true rfl⟩) (zc_preV hbase hK hN hQ hG hS ra8 rfl) rfl rfl hl.1 rfl (lv_room (Nat.le_of_ble_eq_true rfl)) d_Mo_more_43 ⟨(by dsimp only [List.length_nil]; omega), (by dsimp only [List.length_nil]; omega)⟩) hS (fun r43 G43 H locs hp43 hG hS => ?_)
              have hG : zP E Gv H := hp43.2 ▸ hG
              obtain ⟨R9, hRz, hR1, hR2⟩ := hp43.1
              refine lv_if_ne (tgt := 58) hx hb d_Mo_more_46 (by decide) (fun c46 => ?_) (fun c46 => ?_)
              · refine lv_iinc (v := nI (i + 1)) (lv' := [(2, .int (nI (i + 1))), (3, .int 1), (0, .ref a), (1, .ref b1)]) hx hb d_Mo_more_58 hl (k := 3) rfl (nI_add i 1) (by decide) rfl (fun ls hl => ?_)
                refine lv_goto (tgt := 14) hx hb d_Mo_more_61 (by decide) ?_
                have hvs : rMr (rVf rs) Wz ls1 (i + 1) = rMr (rVf rs) Wz ls1 i := hstp.trans (vad_h (Or.inr (hR1 (hRz.nz c46))))
                have hst10 : rSt E Gv ro8 a c1 c2 lo rs (rMr (rVf rs) Wz ls1 (i + 1)) ([]) True (wln (rMr (rVf rs) Wz ls1 (i + 1)), 0, [], wp) th tp co se v19 v20 := by rw [hvs]; exact hst8
                refine zW_more (cells2 := rPi c1 c2 (rMr (rVf rs) Wz ls1 (i + 1)) 0 - rPi c1 c2 Wz 0) (slots2 := rPi c1 c2 (rMr (rVf rs) Wz ls1 (i + 1)) 0 - rPi c1 c2 Wz 0) (by rw [hvs]; exact Nat.le_refl _) (by rw [hvs]; exact Nat.le_refl _) ?_
                exact ih Gv (i + 1) ro8 _ _ (by omega) (by omega) (hst10) (hfr8_) hG hS ls (lv_sub hl [2, 3, 0] rfl)
              · refine lv_aload_n hx hb d_Mo_more_49 rfl (lv_at hl 1 rfl) ?_
                refine lv_iconst (v := 3) hx hb d_Mo_more_50 (by decide) ?_
                refine lv_aload_n hx hb d_Mo_more_51 rfl (lv_at hl 2 rfl) ?_
                refine lv_aload_n hx hb d_Mo_more_52 rfl (lv_at hl 2 rfl) ?_
                refine lv_iload_n hx hb d_Mo_more_53 rfl (lv_at hl 0 rfl) ?_
                refine lv_iconst (v := -1) hx hb d_Mo_more_54 (by decide) ?_
                have hR0 : ¬ R9 := hRz.z c46
                have hvg : rMr (rVf rs) Wz ls1 (i + 1) = wad 3 (rMr (rVf rs) Wz ls1 i) (vrw (rVf rs) ls1 ls1 1) := hstp.trans (vad_g (fun z => hp34.1.z c37 z) (fun z w => hR0 (hR2 z w)))
                have hGo55 := hG
                refine zk_v (va_runV (As := [.int 3, .ref b1, .ref b1, .int 1, .int (-1)]) (rest := []) ⟨hx, hb, hml, hown, hts⟩ (t_Mo_give l E Gv a c1 c2 ro8 lo rs (rMr (rVf rs) Wz ls1 i) [] True (wln (rMr (rVf rs) Wz ls1 i), 3, ls1, wp) th co se tp v19 v20 (hst8.nxt rfl 3 ls1) 3 (Or.inr (Or.inr rfl)) b1 ls1 hn18 b1 ls1 hn18 1 (by decide) (by rw [← hvg]; omega) (fun _ => ⟨rfl, rfl⟩)) (zcV 5 hts w_1475 w_1477 wp_40 w_30 w_1478 (by decide +kernel) ⟨Nat.le_of_ble_eq_true rfl, Nat.le_of_ble_eq_true rfl⟩) (zc_preV hbase hK hN hQ hG hS ra8 rfl) rfl rfl hl.1 rfl (lv_room (Nat.le_of_ble_eq_true rfl)) d_Mo_more_55 ⟨(by dsimp only [List.length_nil]; rw [← hvg]; omega), (by dsimp only [List.length_nil]; rw [← hvg]; omega)⟩) hS (fun G55 H locs hp55 hG hS => ?_)
                obtain ⟨ro9, hst9, hf9⟩ := hp55
                refine lv_iinc (v := nI (i + 1)) (lv' := [(2, .int (nI (i + 1))), (3, .int 1), (0, .ref a), (1, .ref b1)]) hx hb d_Mo_more_58 hl (k := 3) rfl (nI_add i 1) (by decide) rfl (fun ls hl => ?_)
                refine lv_goto (tgt := 14) hx hb d_Mo_more_61 (by decide) ?_
                have hst10 : rSt E G55 ro9 a c1 c2 lo rs (rMr (rVf rs) Wz ls1 (i + 1)) ([]) True (wln (rMr (rVf rs) Wz ls1 (i + 1)), 0, [], wp) th tp co se v19 v20 := by rw [hvg]; exact hst9.lift trivial (Or.inl (by show (3 : Int32) ≠ 1; decide)) 0 []
                refine zW_more (cells2 := rPi c1 c2 (rMr (rVf rs) Wz ls1 (i + 1)) 0 - rPi c1 c2 Wz 0) (slots2 := rPi c1 c2 (rMr (rVf rs) Wz ls1 (i + 1)) 0 - rPi c1 c2 Wz 0) (by dsimp only [List.length_nil]; rw [← hvg]; omega) (by dsimp only [List.length_nil]; rw [← hvg]; omega) ?_
                exact ih G55 (i + 1) ro9 _ _ (by omega) (by omega) (hst10) (hfr8_.tr hf9) hG hS ls (lv_sub hl [2, 3, 0] rfl)
    refine zW_more (cells2 := rPi c1 c2 (rMr (rVf rs) Wz ls1 0) 0 - rPi c1 c2 Wz 0) (slots2 := rPi c1 c2 (rMr (rVf rs) Wz ls1 0) 0 - rPi c1 c2 Wz 0) (Nat.zero_le _) (Nat.zero_le _) ?_
    exact loop14 _ G 0 ro _ _ (Nat.lt_succ_self _) (by decide) (hst) (zfr.rf) hG hS ls (lv_sub hl [1, 2, 0] rfl)
  · exact hret _ _ _ _ _ _ _ (⟨ro, by rw [vao_out rg (hp5.1.z c8)]; exact hst, zfr.rf⟩) hG hS (Nat.zero_le _) (Nat.zero_le _) d_Mo_more_11
