section ZPR
/-- the given start -/
abbrev tG : Cond := Jvm.Cond.and given_1 narrow_1
theorem tb_T {args : Array Value} {s : State} (hts : ∀ w ∈ lw_tbl, w.before args s = true) {w : Cond} (i : Nat) (h : tables_1[i]? = some w) : w.before args s = true := hts w (List.mem_append_right _ (List.mem_of_getElem? h))
theorem tb_G {args : Array Value} {s : State} (hg : tG.before args s = true) {w : Cond} (i : Nat) (h : (flatC tG)[i]? = some w) : w.before args s = true := flat_of_before tG hg w (List.mem_of_getElem? h)
theorem tin_J0 : ∀ w ∈ u_ws RJ0 TJ0 4, w ∈ lw_tbl := by
  have h : (u_ws RJ0 TJ0 4).all (fun w => decide (w ∈ tables_1)) = true := by decide +kernel
  exact fun w hw => List.mem_append_right _ (of_decide_eq_true (List.all_eq_true.mp h w hw))
theorem tin_J4 : ∀ w ∈ u_ws RJ4 TJ4 4, w ∈ lw_tbl := by
  have h : (u_ws RJ4 TJ4 4).all (fun w => decide (w ∈ tables_1)) = true := by decide +kernel
  exact fun w hw => List.mem_append_right _ (of_decide_eq_true (List.all_eq_true.mp h w hw))
theorem tin_Jx00060 : ∀ w ∈ u_ws RJx00060 TJx00060 6, w ∈ lw_tbl := by
  have h : (u_ws RJx00060 TJx00060 6).all (fun w => decide (w ∈ tables_1)) = true := by decide +kernel
  exact fun w hw => List.mem_append_right _ (of_decide_eq_true (List.all_eq_true.mp h w hw))
theorem tin_X0 : ∀ w ∈ u_ws RX0 TX0 8, w ∈ lw_tbl := by
  have h : (u_ws RX0 TX0 8).all (fun w => decide (w ∈ tables_1)) = true := by decide +kernel
  exact fun w hw => List.mem_append_right _ (of_decide_eq_true (List.all_eq_true.mp h w hw))
theorem tin_X1 : ∀ w ∈ u_ws RX1 TX1 7, w ∈ lw_tbl := by
  have h : (u_ws RX1 TX1 7).all (fun w => decide (w ∈ tables_1)) = true := by decide +kernel
  exact fun w hw => List.mem_append_right _ (of_decide_eq_true (List.all_eq_true.mp h w hw))
theorem tin_X2 : ∀ w ∈ u_ws RX2 TX2 3, w ∈ lw_tbl := by
  have h : (u_ws RX2 TX2 3).all (fun w => decide (w ∈ tables_1)) = true := by decide +kernel
  exact fun w hw => List.mem_append_right _ (of_decide_eq_true (List.all_eq_true.mp h w hw))
theorem tin_X3 : ∀ w ∈ u_ws RX3 TX3 10, w ∈ lw_tbl := by
  have h : (u_ws RX3 TX3 10).all (fun w => decide (w ∈ tables_1)) = true := by decide +kernel
  exact fun w hw => List.mem_append_right _ (of_decide_eq_true (List.all_eq_true.mp h w hw))
theorem tin_X4 : ∀ w ∈ u_ws RX4 TX4 10, w ∈ lw_tbl := by
  have h : (u_ws RX4 TX4 10).all (fun w => decide (w ∈ tables_1)) = true := by decide +kernel
  exact fun w hw => List.mem_append_right _ (of_decide_eq_true (List.all_eq_true.mp h w hw))
theorem st_cls {args : Array Value} {s : State} (hts : ∀ w ∈ lw_tbl, w.before args s = true) : ∃ D : va_G, ∀ (k : Nat) (q : vw_C), vwCl[k]? = some q → u_Kn s q.1 q.2.1 q.2.2 (D.1 k) (D.2 k) := by
  have h : ∀ k : Nat, ∃ z : ClassId × (Nat → Nat), ∀ q : vw_C, vwCl[k]? = some q → u_Kn s q.1 q.2.1 q.2.2 z.1 z.2 := by
    intro k
    match k with
    | 0 =>
      obtain ⟨cC, iS, hKn⟩ := u_known (C := RJ0) (T := TJ0) (N := 4) (n := 4) hts tin_J0 (tb_T hts 524 (by decide +kernel))
      exact ⟨(cC, iS), fun q hq => by cases hq; exact hKn⟩
    | 1 =>
      obtain ⟨cC, iS, hKn⟩ := u_known (C := RJ4) (T := TJ4) (N := 4) (n := 4) hts tin_J4 (tb_T hts 981 (by decide +kernel))
      exact ⟨(cC, iS), fun q hq => by cases hq; exact hKn⟩
    | 2 =>
      obtain ⟨cC, iS, hKn⟩ := u_known (C := RJx00060) (T := TJx00060) (N := 6) (n := 6) hts tin_Jx00060 (tb_T hts 506 (by decide +kernel))
      exact ⟨(cC, iS), fun q hq => by cases hq; exact hKn⟩
    | 3 =>
      obtain ⟨cC, iS, hKn⟩ := u_known (C := RX0) (T := TX0) (N := 8) (n := 8) hts tin_X0 (tb_T hts 153 (by decide +kernel))
      exact ⟨(cC, iS), fun q hq => by cases hq; exact hKn⟩
    | 4 =>
      obtain ⟨cC, iS, hKn⟩ := u_known (C := RX1) (T := TX1) (N := 7) (n := 7) hts tin_X1 (tb_T hts 41 (by decide +kernel))
      exact ⟨(cC, iS), fun q hq => by cases hq; exact hKn⟩
    | 5 =>
      obtain ⟨cC, iS, hKn⟩ := u_known (C := RX2) (T := TX2) (N := 3) (n := 3) hts tin_X2 (tb_T hts 133 (by decide +kernel))
      exact ⟨(cC, iS), fun q hq => by cases hq; exact hKn⟩
    | 6 =>
      obtain ⟨cC, iS, hKn⟩ := u_known (C := RX3) (T := TX3) (N := 10) (n := 10) hts tin_X3 (tb_T hts 48 (by decide +kernel))
      exact ⟨(cC, iS), fun q hq => by cases hq; exact hKn⟩
    | 7 =>
      obtain ⟨cC, iS, hKn⟩ := u_known (C := RX4) (T := TX4) (N := 10) (n := 10) hts tin_X4 (tb_T hts 33 (by decide +kernel))
      exact ⟨(cC, iS), fun q hq => by cases hq; exact hKn⟩
    | k + 8 => exact ⟨(0, fun _ => 0), fun q hq => by simp [vwCl] at hq⟩
  obtain ⟨z, hz⟩ := Classical.axiomOfChoice h
  exact ⟨(fun k => (z k).1, fun k => (z k).2), fun k q hq => hz k q hq⟩
theorem st_arr {args : Array Value} {s : State} {ty : FieldType} (h : (Cond.arrayClass ty).before args s = true) (hr : ∀ cA : ClassId, s.vm.findClass ("[" ++ ty.toString) = some cA → va_RA s cA ty) : ∃ cA : ClassId, ArrOfT s cA ty ∧ va_RA s cA ty := by
  obtain ⟨cA, kA, comp, h1, h2, h3⟩ := Cond.arrayClass_spec h
  exact ⟨cA, fun n z => ⟨fun k h => (by cases h), kA, h2, comp, h3⟩, hr cA h1⟩
theorem st_arrO {args : Array Value} {s : State} {C : String} (h : (Cond.arrayOver (.object C)).before args s = true) : ∃ cA : ClassId, ArrOfT s cA (.object C) ∧ va_RA s cA (.object C) := by
  obtain ⟨comp, cA, kA, h1, h2, h3, h4, h5⟩ := Cond.arrayOver_spec h
  exact ⟨cA, fun n z => ⟨fun k h => (by cases h), kA, h3, comp, h4⟩, kA, comp, h3, h4, h1, h5⟩
theorem st_ty {args : Array Value} {s : State} (hts : ∀ w ∈ lw_tbl, w.before args s = true) : ∃ qC : Nat → ClassId, ∀ (k : Nat) (q : ClassId × FieldType), [(qC 0, FieldType.char), (qC 1, .int), (qC 2, .object "LineBattle$Field"), (qC 3, .object "LineBattle$Line"), (qC 4, .long), (qC 5, .byte)][k]? = some q → ArrOfT s q.1 q.2 ∧ va_RA s q.1 q.2 := by
  obtain ⟨c0, h0⟩ := st_arr (ty := .char) (tb_T hts 190 (by decide +kernel)) (fun _ h => h)
  obtain ⟨c1, h1⟩ := st_arr (ty := .int) (tb_T hts 103 (by decide +kernel)) (fun _ h => h)
  obtain ⟨c2, h2⟩ := st_arrO (C := "LineBattle$Field") (tb_T hts 139 (by decide +kernel))
  obtain ⟨c3, h3⟩ := st_arrO (C := "LineBattle$Line") (tb_T hts 47 (by decide +kernel))
  obtain ⟨c4, h4⟩ := st_arr (ty := .long) (tb_T hts 1351 (by decide +kernel)) (fun _ h => h)
  obtain ⟨c5, h5⟩ := st_arr (ty := .byte) (tb_T hts 439 (by decide +kernel)) (fun _ h => h)
  refine ⟨fun k => match k with | 0 => c0 | 1 => c1 | 2 => c2 | 3 => c3 | 4 => c4 | _ => c5, fun k q hq => ?_⟩
  match k, hq with
  | 0, hq => cases hq; exact h0
  | 1, hq => cases hq; exact h1
  | 2, hq => cases hq; exact h2
  | 3, hq => cases hq; exact h3
  | 4, hq => cases hq; exact h4
  | 5, hq => cases hq; exact h5
  | k + 6, hq => simp at hq
def sPos : List Nat := [317, 326, 374, 404, 451, 458, 483, 509, 536, 562, 643, 585, 610, 666, 309, 788, 718, 751, 877, 693, 938, 963, 813, 856, 1049, 1088, 1110, 1118, 1128, 1137, 1145, 1154, 1162, 1187, 443, 914, 1207, 918, 926, 933, 993, 1002, 1010, 1020, 1038]
def sRf : List Nat := [287, 413, 449, 465, 537, 551, 555, 556, 580, 581, 698, 660, 671, 818, 226, 881, 865, 870, 961, 846, 1204, 1224, 934, 949, 1261, 1266, 1290, 1309, 1319, 1320, 1321, 1322, 1327, 1338, 501, 978, 1350, 1098, 1175, 1196, 1245, 1246, 1247, 1249, 1250]
abbrev sTm (i : Nat) : Term := .string (zLit.getD i ("", 0, "")).1 (zLit.getD i ("", 0, "")).2.1
abbrev sLen (i : Nat) : Nat := (zByt.getD i []).length
def sEl (i j : Nat) : Cond := .eq (.elem (.field (sTm i) "java/lang/String" "value" "[B") (.int (Int32.ofNat j))) (.int ((zByt.getD i []).getD j 0))
def sWd (i : Nat) : List Cond := [.exactly (sTm i) "java/lang/String", .eq (.field (sTm i) "java/lang/String" "coder" "B") (.int 0), .arrayOf (.field (sTm i) "java/lang/String" "value" "[B") .byte, .eq (.length (.field (sTm i) "java/lang/String" "value" "[B")) (.int (Int32.ofNat (sLen i)))] ++ (List.range (sLen i)).map (sEl i)
theorem sWd_ok : (List.range 45).all (fun i => decide (((flatC tG).drop (sPos.getD i 0)).take (4 + sLen i) = sWd i)) = true := by decide +kernel
theorem sRf_ok : (List.range 45).all (fun i => decide (tables_1[sRf.getD i 0]? = some (.stringRef (zLit.getD i ("", 0, "")).1 (zLit.getD i ("", 0, "")).2.1 (zLit.getD i ("", 0, "")).2.2))) = true := by decide +kernel
theorem sNc_ok : ((flatC tG).drop 217).take 92 = zNc.map (fun q => .not (.castable q.1 q.2)) := by decide +kernel
theorem sLen_ok : (List.range 45).all (fun i => decide (sLen i < 100)) = true := by decide +kernel
theorem rng_all {n : Nat} {b : Nat → Prop} [DecidablePred b] (h : (List.range n).all (fun i => decide (b i)) = true) : ∀ i, i < n → b i := fun i hi => of_decide_eq_true (List.all_eq_true.mp h i (List.mem_range.mpr hi))
theorem st_w {args : Array Value} {s : State} (hg : tG.before args s = true) {i : Nat} (hi : i < 45) : ∀ w ∈ sWd i, w.before args s = true := fun w hw => by
  rw [← rng_all sWd_ok i hi] at hw
  exact flat_of_before tG hg w (List.mem_of_mem_drop (List.mem_of_mem_take hw))
theorem st_str {args : Array Value} {s : State} {A : Nat → Prop} (hg : tG.before args s = true) (hA : ∀ a : Nat, a < s.heap.size → ¬ A a) : ∃ AK AV : Nat → Nat, (∀ i : Nat, i < 45 → va_O "java/lang/String" (AK i) A s s.heap ∧ va_OF "java/lang/String" "coder" "B" (.int 0) (AK i) A s s.heap ∧ va_OF "java/lang/String" "value" "[B" (.ref (AV i)) (AK i) A s s.heap ∧ va_T .byte (AV i) (zByt.getD i []).length (fun j => .int ((zByt.getD i []).getD j 0)) A s s.heap) ∧ ∀ i : Nat, i < 45 → (sTm i).eval args s none [] s = some (.ref (AK i)) := by
  have h0 : ∀ i : Nat, ∃ q : Nat × Nat, i < 45 → (sTm i).eval args s none [] s = some (.ref q.1) ∧ va_O "java/lang/String" q.1 A s s.heap ∧ va_OF "java/lang/String" "coder" "B" (.int 0) q.1 A s s.heap ∧ va_OF "java/lang/String" "value" "[B" (.ref q.2) q.1 A s s.heap ∧ va_T .byte q.2 (zByt.getD i []).length (fun j => .int ((zByt.getD i []).getD j 0)) A s s.heap := by
    intro i
    by_cases hi : i < 45
    · have hw := st_w hg hi
      have hex : (Cond.exactly (sTm i) "java/lang/String").before args s = true := hw _ (List.mem_append_left _ (List.mem_of_getElem? (i := 0) rfl))
      have hco : (Cond.eq (.field (sTm i) "java/lang/String" "coder" "B") (.int 0)).before args s = true := hw _ (List.mem_append_left _ (List.mem_of_getElem? (i := 1) rfl))
      have har : (Cond.arrayOf (.field (sTm i) "java/lang/String" "value" "[B") .byte).before args s = true := hw _ (List.mem_append_left _ (List.mem_of_getElem? (i := 2) rfl))
      have hle : (Cond.eq (.length (.field (sTm i) "java/lang/String" "value" "[B")) (.int (Int32.ofNat (sLen i)))).before args s = true := hw _ (List.mem_append_left _ (List.mem_of_getElem? (i := 3) rfl))
      have hel : ∀ j : Nat, j < sLen i → (Cond.eq (.elem (.field (sTm i) "java/lang/String" "value" "[B") (.int (Int32.ofNat j))) (.int ((zByt.getD i []).getD j 0))).before args s = true := fun j hj => hw (sEl i j) (List.mem_append_right _ (List.mem_map.mpr ⟨j, List.mem_range.mpr hj, rfl⟩))
      obtain ⟨a, c, cA, kA, q1, q2, q3, q4, q5, q6, -⟩ := Cond.exactly_spec (args := args) (first := s) (o := none) (s := s) (idx := []) (t := sTm i) (cls := "java/lang/String") hex
      have hl := rng_all sLen_ok i hi
      obtain ⟨t, ht, hT⟩ := va_Tof (N := sLen i) (f := fun j => .int ((zByt.getD i []).getD j 0)) (A := A) (by omega) har (va_eqt hle) (fun j hj => va_eqt (hel j hj)) hA
      exact ⟨(a, t), fun _ => ⟨q1, ⟨cA, q3, q5, by rw [q6]; exact q2, hA a (Array.getElem?_eq_some_iff.mp q3).1⟩, vk_OFof q1 (va_eqt hco) hA, vk_OFof q1 ht hA, hT⟩⟩
    · exact ⟨(0, 0), fun h => absurd h hi⟩
  obtain ⟨ad, had⟩ := Classical.axiomOfChoice h0
  exact ⟨fun i => (ad i).1, fun i => (ad i).2, fun i hi => (had i hi).2, fun i hi => (had i hi).1⟩
/-- all that the start gives -/
abbrev tm1 : Term := .static "java/lang/Integer" "DigitOnes" "[B"
abbrev tm2 : Term := .static "java/lang/Integer" "DigitTens" "[B"
def dE1 (j : Nat) : Cond := .eq (.elem tm1 (.int (Int32.ofNat j))) (.int (nI (48 + j % 10)))
def dE2 (j : Nat) : Cond := .eq (.elem tm2 (.int (Int32.ofNat j))) (.int (nI (48 + j / 10)))
theorem dE1_ok : ((flatC tG).drop 14).take 100 = (List.range 100).map dE1 := by decide +kernel
theorem dE2_ok : ((flatC tG).drop 117).take 100 = (List.range 100).map dE2 := by decide +kernel
theorem st_d1 {args : Array Value} {s : State} (hg : tG.before args s = true) {j : Nat} (hj : j < 100) : (dE1 j).before args s = true := by
  have h1 : dE1 j ∈ ((flatC tG).drop 14).take 100 := by
    rw [dE1_ok]
    exact List.mem_map.mpr ⟨j, List.mem_range.mpr hj, rfl⟩
  exact flat_of_before tG hg _ (List.mem_of_mem_drop (List.mem_of_mem_take h1))
theorem st_d2 {args : Array Value} {s : State} (hg : tG.before args s = true) {j : Nat} (hj : j < 100) : (dE2 j).before args s = true := by
  have h1 : dE2 j ∈ ((flatC tG).drop 117).take 100 := by
    rw [dE2_ok]
    exact List.mem_map.mpr ⟨j, List.mem_range.mpr hj, rfl⟩
  exact flat_of_before tG hg _ (List.mem_of_mem_drop (List.mem_of_mem_take h1))
theorem st_dg {args : Array Value} {s : State} {A : Nat → Prop} (hts : ∀ w ∈ lw_tbl, w.before args s = true) (hg : tG.before args s = true) (hA : ∀ a : Nat, a < s.heap.size → ¬ A a) : ∃ t1 t2 : Nat, va_Z "java/lang/Integer" "DigitOnes" "[B" (.ref t1) A s s.heap ∧ va_T .byte t1 100 (fun j => .int (nI (48 + j % 10))) A s s.heap ∧ va_Z "java/lang/Integer" "DigitTens" "[B" (.ref t2) A s s.heap ∧ va_T .byte t2 100 (fun j => .int (nI (48 + j / 10))) A s s.heap := by
  obtain ⟨t1, h1, T1⟩ := va_Tof (tm := tm1) (ty := .byte) (N := 100) (f := fun j => .int (nI (48 + j % 10))) (A := A) (by decide) (tb_G hg 12 (by decide +kernel)) (va_eqt (tb_G hg 13 (by decide +kernel))) (fun j hj => va_eqt (st_d1 hg hj)) hA
  obtain ⟨t2, h2, T2⟩ := va_Tof (tm := tm2) (ty := .byte) (N := 100) (f := fun j => .int (nI (48 + j / 10))) (A := A) (by decide) (tb_G hg 115 (by decide +kernel)) (va_eqt (tb_G hg 116 (by decide +kernel))) (fun j hj => va_eqt (st_d2 hg hj)) hA
  exact ⟨t1, t2, va_Zof (tb_T hts 1164 (by decide +kernel)) (tb_T hts 28 (by decide +kernel)) h1 hA, T1, va_Zof (tb_T hts 1166 (by decide +kernel)) (tb_T hts 28 (by decide +kernel)) h2 hA, T2⟩
/-- the script's cells as numbers -/
abbrev xN (xs : Nat → Int32) (j : Nat) : Nat := (xs j).toBitVec.toNat
theorem xN_eq {xs : Nat → Int32} {j : Nat} : nI (xN xs j) = xs j := by
  refine Int32.toBitVec_inj.mp ?_
  refine BitVec.eq_of_toNat_eq ?_
  exact pk_tn (xs j).toBitVec.isLt
theorem st_sc {s : State} {A : Nat → Prop} {b L : Nat} {xs : Nat → Int32} (hX : va_X b L xs s s.heap) (hA : ∀ a : Nat, a < s.heap.size → ¬ A a) : va_T .int b L (fun j => .int (nI (xN xs j))) A s s.heap := by
  obtain ⟨scr, h1, h2, h3, h4, h5⟩ := hX
  exact ⟨scr, h1, h2, h3, Nat.le_of_eq h4.symm, by rw [h4], fun j hj => by show scr.slots[j]? = some (Value.int (nI (xN xs j))); rw [xN_eq]; exact h5 j hj, hA b (Array.getElem?_eq_some_iff.mp h1).1⟩
theorem st_all {args : Array Value} {s : State} (hts : ∀ w ∈ lw_tbl, w.before args s = true) (hg : tG.before args s = true) {b L : Nat} {xs : Nat → Int32} (hX : va_X b L xs s s.heap) (hL : L ≤ 260) : ∃ (D : va_G) (qC : Nat → ClassId) (AK AV : Nat → Nat), gK (iG D qC s.heap.size AK AV b L (xN xs)) s ∧ gB (iG D qC s.heap.size AK AV b L (xN xs)) s s.heap ∧ va_AO RX3 s ∧ va_AO RX1 s ∧ gNw s := by
  obtain ⟨D, hD⟩ := st_cls hts
  obtain ⟨qC, hq⟩ := st_ty hts
  have hA : ∀ a : Nat, a < s.heap.size → ¬ (fun q : Nat => s.heap.size ≤ q) a := fun a h h2 => absurd h (Nat.not_lt.mpr h2)
  obtain ⟨AK, AV, hs1, hs2⟩ := st_str hg hA
  have hNw : gNw s := fun w hw hz => by
    have h0 := hts w (List.mem_append_right _ hw)
    cases w
    case methodLinkNest => exact va_Nw.of rfl h0
    case castable => exact va_Nw.of rfl h0
    case declares => exact va_Nw.of rfl h0
    all_goals (cases hz)
  refine ⟨D, qC, AK, AV, ⟨hD, hq⟩, ⟨hs1, fun i q hi => ?_, vx_Zqof (tb_T hts 395 (by decide +kernel)) (tb_T hts 13 (by decide +kernel)) (tb_G hg 9 (by decide +kernel)) hA, vx_Zqof (tb_T hts 397 (by decide +kernel)) (tb_T hts 13 (by decide +kernel)) (tb_G hg 10 (by decide +kernel)) hA, va_Zof (tb_T hts 236 (by decide +kernel)) (tb_T hts 7 (by decide +kernel)) (va_eqi (tb_G hg 4 (by decide +kernel))) hA, hNw, fun q hq => ?_, va_Zqof (tb_T hts 244 (by decide +kernel)) (tb_T hts 9 (by decide +kernel)) (tb_G hg 5 (by decide +kernel)) hA, st_dg hts hg hA, st_sc hX hA, Nat.le_trans hL (by decide)⟩, va_AO.of (tb_T hts 47 (by decide +kernel)), va_AO.of (tb_T hts 139 (by decide +kernel)), hNw⟩
  · have hi43 : i < 45 := (List.getElem?_eq_some_iff.mp hi).1
    have e : zLit.getD i ("", 0, "") = q := by rw [List.getD_eq_getElem?_getD, hi]; rfl
    have h1 := tb_T hts _ (rng_all sRf_ok i hi43)
    have h2 : (Term.string (zLit.getD i ("", 0, "")).1 (zLit.getD i ("", 0, "")).2.1).eval args s none [] s = some (.ref (AK i)) := hs2 i hi43
    rw [e] at h1 h2
    exact vk_R.of h1 h2
  · have h1 : (Cond.not (.castable q.1 q.2)) ∈ ((flatC tG).drop 217).take 92 := by
      rw [sNc_ok]
      exact List.mem_map.mpr ⟨q, hq, rfl⟩
    exact va_Nc.of (flat_of_before tG hg _ (List.mem_of_mem_drop (List.mem_of_mem_take h1)))
end ZPR
