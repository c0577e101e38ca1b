/-! THE CLASS's NEW OBJECT AS A STATE -/
def rol0 (G : zg_G) (la ol da r1 r2 o st b d0 d1 d3 : Nat) (q : Nat) : Nat × Nat := match G q with
  | some (.inr (ci, _)) => if ci = 7 then (13, 0) else if ci = 9 then (1, 0) else if ci = 4 then (11, 0) else if ci = 5 then (12, o) else if ci = 1 then (14, 0) else if ci = 0 then (if q = la then (2, 0) else if q = ol then (4, o) else if q = da then (6, st) else if q = r1 then (8, 1) else if q = r2 then (8, 2) else (8, 3)) else (0, 0)
  | some (.inl _) => if q = b then (13, 1) else if q = d0 then (3, 0) else if q = d1 then (5, o) else if q = d3 then (7, st) else (0, 0)
  | none => (0, 0)
theorem row_ne {E : zc_E} {G : zg_G} {d e x y c1 c2 : Nat} {f g : Nat → Option Nat} (h1 : G d = some (.inl (E.2.1 3, c1, .inr (.inr (.inr (.inr f)))))) (h2 : G e = some (.inl (E.2.1 3, c2, .inr (.inr (.inr (.inr g)))))) (hf : f 0 = some x) (hg : g 0 = some y) (hn : x ≠ y) : d ≠ e := fun z => by
  rw [z, h2] at h1
  simp only [Option.some.injEq, Sum.inl.injEq, Prod.mk.injEq, Sum.inr.injEq, true_and] at h1
  have e : g 0 = f 0 := congrFun h1.2 0
  rw [hf, hg] at e
  exact hn (Option.some.inj e).symm
theorem zOS_new {E : zc_E} {G : zg_G} {xo ta zo an b la x st sd o ol da dx d0 d1 d3 bt s1 s2 s3 r1 r2 r3 : Nat} (h : zNew E G xo ta zo an b la x st sd o ol da dx d0 d1 d3 bt s1 s2 s3 r1 r2 r3) (hE : G (E.2.2.2 0) = none) (hn : r1 ≠ r2 ∧ r1 ≠ r3 ∧ r2 ≠ r3) : ∃ ro, zOS E G ro xo [] (vor [] 0 rD0) [] 1 ([], [], []) := by
  obtain ⟨hX, hT, hZ, hLa, hO, hLo, hS, hLd, hD, hsd, hx, hbt, hAn, hs1, hs2, hs3, hr1, hr2, hr3⟩ := h
  obtain ⟨n12, n13, n23⟩ := hn
  obtain ⟨⟨k0, hla⟩, q0⟩ := id hLa
  obtain ⟨⟨k1, hol⟩, q1⟩ := id hLo
  obtain ⟨⟨k3, hda⟩, q3⟩ := id hLd
  obtain ⟨c0, f0, hd0, -, -, -, hf0⟩ := q0.resolve_left (fun z => by cases z.2)
  obtain ⟨c1, f1, hd1, -, -, -, hf1⟩ := q1.resolve_left (fun z => by cases z.2)
  obtain ⟨c3, f3, hd3, -, -, -, hf3⟩ := q3.resolve_left (fun z => by cases z.2)
  obtain ⟨hTa, nb, fb, hb, hb1, hb2, hb3, -⟩ := id hT
  have nos : o ≠ st := zg_ne hO hS (by intro h; simp at h)
  have nod : o ≠ dx := zg_ne hO hD (by intro h; simp at h)
  have nsd : st ≠ dx := zg_ne hS hD (by intro h; simp at h)
  have e01 : d0 ≠ d1 := row_ne hd0 hd1 (hf0 0) (hf1 0) nos
  have e03 : d0 ≠ d3 := row_ne hd0 hd3 (hf0 0) (hf3 0) nod
  have e13 : d1 ≠ d3 := row_ne hd1 hd3 (hf1 0) (hf3 0) nsd
  have eb0 : d0 ≠ b := zg_ne hd0 hb (by intro h; simp at h)
  have eb1 : d1 ≠ b := zg_ne hd1 hb (by intro h; simp at h)
  have eb3 : d3 ≠ b := zg_ne hd3 hb (by intro h; simp at h)
  have es0 : sd ≠ d0 := zg_ne hsd hd0 (by intro h; simp at h)
  have es1 : sd ≠ d1 := zg_ne hsd hd1 (by intro h; simp at h)
  have es3 : sd ≠ d3 := zg_ne hsd hd3 (by intro h; simp at h)
  have esb : sd ≠ b := zg_ne hsd hb (by intro h; simp at h; omega)
  have et0 : bt ≠ d0 := zg_ne hbt hd0 (by intro h; simp at h)
  have et1 : bt ≠ d1 := zg_ne hbt hd1 (by intro h; simp at h)
  have et3 : bt ≠ d3 := zg_ne hbt hd3 (by intro h; simp at h)
  have etb : bt ≠ b := zg_ne hbt hb (by intro h; simp at h; omega)
  have u0 : d0 ≠ E.2.2.2 0 := fun z => by rw [z, hE] at hd0; cases hd0
  have u1 : d1 ≠ E.2.2.2 0 := fun z => by rw [z, hE] at hd1; cases hd1
  have u3 : d3 ≠ E.2.2.2 0 := fun z => by rw [z, hE] at hd3; cases hd3
  have m01 : ol ≠ la := zg_ne hol hla (by intro h; simp at h; exact e01 h.1.symm)
  have m03 : da ≠ la := zg_ne hda hla (by intro h; simp at h; exact e03 h.1.symm)
  have m13 : da ≠ ol := zg_ne hda hol (by intro h; simp at h; exact e13 h.1.symm)
  have v (r : Nat) (hr : G r = some (.inr (0, [.ref (E.2.2.2 0), .int 0, .int 0]))) : r ≠ la ∧ r ≠ ol ∧ r ≠ da := ⟨zg_ne hr hla (by intro h; simp at h; exact u0 h.1.symm), zg_ne hr hol (by intro h; simp at h; exact u1 h.1.symm), zg_ne hr hda (by intro h; simp at h; exact u3 h.1.symm)⟩
  obtain ⟨v11, v12, v13⟩ := v r1 hr1
  obtain ⟨v21, v22, v23⟩ := v r2 hr2
  obtain ⟨v31, v32, v33⟩ := v r3 hr3
  obtain ⟨ro, ero⟩ : ∃ z : zRo, z = rol0 G la ol da r1 r2 o st b d0 d1 d3 := ⟨_, rfl⟩
  have o_xo : ro xo = (0, 0) := by rw [ero]; unfold rol0; rw [hX]; rfl
  have o_ta : ro ta = (13, 0) := by rw [ero]; unfold rol0; rw [hTa]; rfl
  have o_b : ro b = (13, 1) := by rw [ero]; unfold rol0; rw [hb]; simp
  have o_zo : ro zo = (1, 0) := by rw [ero]; unfold rol0; rw [hZ]; rfl
  have o_la : ro la = (2, 0) := by rw [ero]; unfold rol0; rw [hla]; simp
  have o_d0 : ro d0 = (3, 0) := by rw [ero]; unfold rol0; rw [hd0]; simp [eb0]
  have o_o : ro o = (11, 0) := by rw [ero]; unfold rol0; rw [hO]; rfl
  have o_ol : ro ol = (4, o) := by rw [ero]; unfold rol0; rw [hol]; simp [m01]
  have o_d1 : ro d1 = (5, o) := by rw [ero]; unfold rol0; rw [hd1]; simp [eb1, e01.symm]
  have o_st : ro st = (12, o) := by rw [ero]; unfold rol0; rw [hS]; rfl
  have o_da : ro da = (6, st) := by rw [ero]; unfold rol0; rw [hda]; simp [m03, m13]
  have o_d3 : ro d3 = (7, st) := by rw [ero]; unfold rol0; rw [hd3]; simp [eb3, e03.symm, e13.symm]
  have o_dx : ro dx = (0, 0) := by rw [ero]; unfold rol0; rw [hD]; rfl
  have o_sd : ro sd = (0, 0) := by rw [ero]; unfold rol0; rw [hsd]; simp [esb, es0, es1, es3]
  have o_x : ro x = (0, 0) := by rw [ero]; unfold rol0; rw [hx]; rfl
  have o_bt : ro bt = (0, 0) := by rw [ero]; unfold rol0; rw [hbt]; simp [etb, et0, et1, et3]
  have o_an : ro an = (14, 0) := by rw [ero]; unfold rol0; rw [hAn]; rfl
  have o_s1 : ro s1 = (0, 0) := by rw [ero]; unfold rol0; rw [hs1]; rfl
  have o_s2 : ro s2 = (0, 0) := by rw [ero]; unfold rol0; rw [hs2]; rfl
  have o_s3 : ro s3 = (0, 0) := by rw [ero]; unfold rol0; rw [hs3]; rfl
  have o_r1 : ro r1 = (8, 1) := by rw [ero]; unfold rol0; rw [hr1]; simp [v11, v12, v13]
  have o_r2 : ro r2 = (8, 2) := by rw [ero]; unfold rol0; rw [hr2]; simp [v21, v22, v23, n12.symm]
  have o_r3 : ro r3 = (8, 3) := by rw [ero]; unfold rol0; rw [hr3]; simp [v31, v32, v33, n13.symm, n23.symm]
  obtain ⟨s0, es⟩ : ∃ z : zSt, z = (st, 6, 0, da, d3, [(dx, rD0, none)]) := ⟨_, rfl⟩
  obtain ⟨w0, ew⟩ : ∃ z : zOt, z = (o, x, [], none, ol, d1, [s0]) := ⟨_, rfl⟩
  have hNx : zNR E G ro x [] := ⟨bt, fun _ => 0, hx, hbt, fun j hj => by rw [show j = 0 by (have : np_len [] = 1 := rfl); omega]; rfl, ⟨fun l hl => absurd hl List.not_mem_nil, by decide⟩, zf_fit0, o_x, o_bt⟩
  have hBy : zBy E G sd rD0 := ⟨zw4 (fun _ => 0) 2 1, hsd, by
    have key : ∀ j, j < 22 → zw4 (fun _ => (0 : Int32)) 2 1 j = rD0.getD j 0 := by decide
    exact fun j hj => key j hj, zw4_fit zf_fit0⟩
  have hSR : zSR E G ro o s0 := by
    rw [es]
    exact ⟨hS, o_st, ⟨hLd, o_da, fun _ _ => o_d3⟩, fun d hd => by
      rw [List.mem_singleton.mp hd]
      exact ⟨sd, none, hD, hBy, o_dx, o_sd, Or.inl ⟨rfl, rfl⟩⟩⟩
  have hOR : zOR E G ro w0 := by
    rw [ew]
    refine ⟨hO, o_o, hNx, ⟨?_, o_ol, fun _ _ => o_d1⟩, fun s hs => by rw [List.mem_singleton.mp hs]; exact hSR⟩
    have : ([s0] : List zSt).map sA = [st] := by rw [es]; rfl
    show zL E G ol d1 (([s0] : List zSt).map sA)
    rw [this]; exact hLo
  have hZR : zZR E G ro la d0 [w0] := by
    refine ⟨⟨?_, o_la, fun _ _ => o_d0⟩, fun o' ho => by rw [List.mem_singleton.mp ho]; exact hOR⟩
    have : ([w0] : List zOt).map oA = [o] := by rw [ew]; rfl
    rw [this]; exact hLa
  have hgt : ∀ y t, zgt [w0] y t = if y = [] ∧ t = 6 then [(0, (rD0, none))] else [] := fun y t => by
    rw [ew, es]
    show (if ([] : np_N) = y then (if (6 : Int32) = t then [((0 : Int32), (rD0, (none : Option np_N)))] else []) ++ [] else []) ++ [] = _
    rw [List.append_nil, List.append_nil]
    by_cases a : y = []
    · by_cases c : t = 6
      · rw [if_pos a.symm, if_pos c.symm, if_pos ⟨a, c⟩]
      · rw [if_pos a.symm, if_neg (fun z => c z.symm), if_neg (fun z => c z.2)]
    · rw [if_neg (fun z => a z.symm), if_neg (fun z => a z.1)]
  have hV : zV [w0] = vor [] 0 rD0 := by
    funext y t
    unfold zV vor
    rw [hgt]
    split <;> rfl
  have hw0 : oe [w0] 0 = w0 := rfl
  have hgo : zgo [w0] := by
    refine ⟨fun i j hi hj => ?_, fun i hi => ?_⟩
    · rw [List.length_singleton] at hj; omega
    · rw [List.length_singleton] at hi
      obtain rfl : i = 0 := by omega
      rw [hw0, ew]
      refine ⟨fun i j hi hj => ?_, Nat.zero_lt_one, fun j hj => ?_⟩
      · have : j < 1 := hj
        omega
      · have hj1 : j < 1 := hj
        obtain rfl : j = 0 := by omega
        rw [es]; exact Nat.zero_lt_one
  have hct : zctd [w0] := fun i hi => by
    rw [List.length_singleton] at hi
    obtain rfl : i = 0 := by omega
    rw [hw0, ew]; rfl
  have hon : ∀ y t, vor [] 0 rD0 y t ≠ [] → y = [] ∧ t = 6 := fun y t hn => by
    unfold vor at hn
    split at hn
    · rename_i z; exact z
    · exact absurd rfl hn
  have hGZ : zGZ [w0] [] := zGZ.of hgo hct hZR ⟨6, by rw [hV]; unfold vor; rw [if_pos ⟨rfl, rfl⟩]; simp⟩ (fun x ⟨u, hxu⟩ => List.nil_suffix) (fun x u hxu => by rw [hV] at hxu; rw [(hon x u hxu).2]; decide)
  have hall : ∀ x t p9, p9 ∈ zgt [w0] x t → t = 6 ∧ p9.2.2 = none := fun x t p9 hp9 => by
    rw [hgt] at hp9
    split at hp9
    · rename_i z; rw [List.mem_singleton.mp hp9]; exact ⟨z.2, rfl⟩
    · cases hp9
  have hdw : zdw [w0] := zdw_iff.mpr (fun x t p9 hp9 w => by rw [(hall x t p9 hp9).1] at w; exact absurd w (by decide))
  have hdx : zdx [w0] := fun x t p9 hp9 _ => (hall x t p9 hp9).2
  have hnr : znr [w0] = 1 := by rw [ew, es]; rfl
  have hzc : zcG G (E.2.2.2 0) = zcp 0 0 := by rw [zcG_no hE]; rfl
  have hER : ∀ (s r i : Nat), G s = some (.inr (6, [.ref r])) → ro s = (0, 0) → G r = some (.inr (0, [.ref (E.2.2.2 0), .int 0, .int 0])) → ro r = (8, i) → zES E G ro s r (E.2.2.2 0) [] i 0 := fun s r i z1 z2 z3 z4 => ⟨⟨z1, ⟨⟨⟨0, z3⟩, Or.inl ⟨rfl, rfl⟩⟩, z4, fun e he => by rw [hE] at he; cases he⟩, fun t ht => by cases ht⟩, z2, hzc⟩
  refine ⟨ro, fun i => [an, zo, s1, s2, s3, r1, r2, r3, 0, 0, 0, la, x, st, sd, d0, xo, ta].getD i 0, 0 + 1, 0, 0, [w0], E.2.2.2 0, E.2.2.2 0, E.2.2.2 0, [], [], [], b, rfl, ⟨⟨⟨hZ, o_zo, hZR, hNx, ?_, rD0, 0, hBy, o_sd, ?_, by decide, by decide⟩, ⟨hAn, o_an, hER s1 r1 1 hs1 o_s1 hr1 o_r1, hER s2 r2 2 hs2 o_s2 hr2 o_r2, hER s3 r3 3 hs3 o_s3 hr3 o_r3⟩, fun t ht => by cases ht⟩, hX, o_xo, hT, o_ta, o_b, by decide⟩, hGZ, hdw, hdx, by rw [hnr]; rfl, hnr, hV.symm, rfl⟩
  · exact ⟨w0, List.mem_singleton.mpr rfl, by rw [ew]; rfl, s0, by rw [ew]; exact List.mem_singleton.mpr rfl, by rw [es]; rfl, by rw [es]; rfl⟩
  · rw [hV]; unfold vor; rw [if_pos ⟨rfl, rfl⟩]
