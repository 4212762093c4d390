section ZAC
theorem upd_sw {g : zB} {q r : Nat} {x y : Int32} (h : ¬ q = r) : upd (upd g q x) r y = upd (upd g r y) q x := by
  funext k
  unfold upd
  by_cases h1 : k = r
  · rw [if_pos h1, if_neg (by omega), if_pos h1]
  · rw [if_neg h1]
    by_cases h2 : k = q
    · rw [if_pos h2, if_pos h2]
    · rw [if_neg h2, if_neg h2, if_neg h1]
theorem bs_upd {g : zB} {i w q : Nat} {x y : Int32} (hq : q < 5) : bs (upd g q x) i w y = upd (bs g i w y) q x := upd_sw (by omega)
theorem bs_sw {g : zB} {i w w' : Nat} {x y : Int32} (h : ¬ w = w') : bs (bs g i w x) i w' y = bs (bs g i w' y) i w x := upd_sw (by omega)
theorem bs_swI {g : zB} {i j w w' : Nat} {x y : Int32} (hw : w < 9) (hw' : w' < 9) (h : ¬ i = j) : bs (bs g i w x) j w' y = bs (bs g j w' y) i w x := upd_sw (by omega)
theorem los_upd {g : zB} {i q : Nat} {d x : Int32} (hq : q < 5) : losB (upd g q x) i d = upd (losB g i d) q x := by
  unfold losB
  rw [bf_upd hq, bf_upd hq, bs_upd hq, bs_upd hq]
theorem set_upd {g : zB} {i q : Nat} {x : Int32} (hq : q < 5) : setB (upd g q x) i = upd (setB g i) q x := by
  unfold setB
  rw [bf_upd hq, bf_upd hq, bf_upd hq]
  split
  · rw [bs_upd hq]
  · split
    · rw [bs_upd hq]
    · rfl
theorem cnt_upd {g : zB} {i q : Nat} {x : Int32} (hq : q < 5) : cntB (upd g q x) i = cntB g i := by
  unfold cntB
  rw [bf_upd hq, bf_upd hq]
theorem ctr_upd {g : zB} {i j q : Nat} {x : Int32} (hq : q < 5) : ctrB (upd g q x) i j = upd (ctrB g i j) q x := by
  unfold ctrB
  rw [bf_upd hq, cnt_upd hq, los_upd hq]
  split <;> rfl
theorem set_sw {g : zB} {i j : Nat} (h : ¬ i = j) : setB (setB g i) j = setB (setB g j) i := by
  have h' : ¬ j = i := fun e => h e.symm
  have e1 : ∀ w, w < 9 → bf (setB g i) j w = bf g j w := fun w hw => setB_o hw h'
  have e2 : ∀ w, w < 9 → bf (setB g j) i w = bf g i w := fun w hw => setB_o hw h
  have u1 : setB (setB g i) j = if bf g j 4 = 0 then bs (setB g i) j 7 2 else if bf g j 7 = 0 ∧ bf g j 5 < 5 then bs (setB g i) j 7 1 else setB g i := by
    rw [show setB (setB g i) j = (if bf (setB g i) j 4 = 0 then bs (setB g i) j 7 2 else if bf (setB g i) j 7 = 0 ∧ bf (setB g i) j 5 < 5 then bs (setB g i) j 7 1 else setB g i) from rfl, e1 4 (by decide), e1 7 (by decide), e1 5 (by decide)]
  have u2 : setB (setB g j) i = if bf g i 4 = 0 then bs (setB g j) i 7 2 else if bf g i 7 = 0 ∧ bf g i 5 < 5 then bs (setB g j) i 7 1 else setB g j := by
    rw [show setB (setB g j) i = (if bf (setB g j) i 4 = 0 then bs (setB g j) i 7 2 else if bf (setB g j) i 7 = 0 ∧ bf (setB g j) i 5 < 5 then bs (setB g j) i 7 1 else setB g j) from rfl, e2 4 (by decide), e2 7 (by decide), e2 5 (by decide)]
  rw [u1, u2]
  unfold setB
  by_cases a1 : bf g i 4 = 0 <;> by_cases a2 : bf g j 4 = 0 <;> by_cases b1 : bf g i 7 = 0 ∧ bf g i 5 < 5 <;> by_cases b2 : bf g j 7 = 0 ∧ bf g j 5 < 5 <;> simp only [a1, a2, b1, b2, if_true, if_false] <;> first | rfl | exact bs_swI (by decide) (by decide) h
theorem near_upd {g : zB} {i q : Nat} {x : Int32} (hq : q < 5) : ∀ k, supN (upd g q x) i k = supN g i k
  | 0 => rfl
  | k + 1 => by
    rw [supN, supN, near_upd hq k]
    simp only [nearB, bf_upd hq]
theorem sup_upd {g : zB} {i q : Nat} {x : Int32} (hq : q < 5) (h0 : ¬ q = 0) : supB (upd g q x) i = supB g i := by
  unfold supB
  rw [bn_upd h0, near_upd hq]
theorem dam_eq {g : zB} {i : Nat} {ch : Prop} [Decidable ch] {v : Int32} : attC (upd g 2 v) i (if ch then 1 else 0) + 2 * supB (upd g 2 v) i = damB g i ch := by
  rw [sup_upd (by decide) (by decide)]
  unfold attC damB attB
  rw [bf_upd (by decide), bf_upd (by decide)]
  by_cases hc : ch
  · simp only [hc, if_true, true_and]
    by_cases hp : bf g i 3 = 112
    · simp only [hp, if_true]
      rw [if_neg (by decide), Int32.add_assoc, Int32.add_comm 6, Int32.add_assoc]
    · simp only [hp, if_false, Int32.add_zero]
  · simp only [hc, if_false, false_and, Int32.add_zero]
    by_cases hp : bf g i 3 = 112
    · simp only [hp, if_true, Int32.add_zero]
    · simp only [hp, if_false]
theorem fig_eq {g : zB} {i j : Nat} {ch : Prop} [Decidable ch] (hij : ¬ i = j) : setB (setB (ctrB (losB (upd g 2 (g 2 + 1)) j (damB g i ch)) i j) j) i = figB g i j ch := by
  rw [los_upd (by decide), ctr_upd (by decide), set_upd (by decide), set_upd (by decide), set_sw (fun e => hij e.symm)]
  rfl
theorem fig_ch {g : zB} {i j : Nat} {ch ch' : Prop} [Decidable ch] [Decidable ch'] (h : ch ↔ ch') : figB g i j ch = figB g i j ch' := by
  unfold figB damB
  simp only [h]
theorem cells_8 {g : zB} {i : Nat} {x c y : Int32} : cellB (bs g i 8 x) c y = cellB g c y := cellB_congr bn_bs (fun k _ => by
  by_cases hk : k = i
  · subst hk
    rw [bf_bsW (by decide), bf_bsW (by decide), bf_bsW (by decide)]; exact ⟨Iff.rfl, rfl, rfl⟩
  · rw [bf_bsI (by decide) (by decide) hk, bf_bsI (by decide) (by decide) hk, bf_bsI (by decide) (by decide) hk]; exact ⟨Iff.rfl, rfl, rfl⟩)
theorem cellsOf_5 {g : zB} {i : Nat} {x : Int32} : cellsOf (bs g i 5 x) = cellsOf g := cellsOf_congr bn_bs (fun k _ => by
  by_cases hk : k = i
  · subst hk
    rw [bf_bsW (by decide), bf_bsW (by decide), bf_bsW (by decide)]; exact ⟨Iff.rfl, rfl, rfl⟩
  · rw [bf_bsI (by decide) (by decide) hk, bf_bsI (by decide) (by decide) hk, bf_bsI (by decide) (by decide) hk]; exact ⟨Iff.rfl, rfl, rfl⟩)
theorem cellsOf_6 {g : zB} {i : Nat} {x : Int32} : cellsOf (bs g i 6 x) = cellsOf g := cellsOf_congr bn_bs (fun k _ => by
  by_cases hk : k = i
  · subst hk
    rw [bf_bsW (by decide), bf_bsW (by decide), bf_bsW (by decide)]; exact ⟨Iff.rfl, rfl, rfl⟩
  · rw [bf_bsI (by decide) (by decide) hk, bf_bsI (by decide) (by decide) hk, bf_bsI (by decide) (by decide) hk]; exact ⟨Iff.rfl, rfl, rfl⟩)
theorem cellsOf_8 {g : zB} {i : Nat} {x : Int32} : cellsOf (bs g i 8 x) = cellsOf g := by
  funext k
  unfold cellsOf
  rw [cells_8]
theorem cellsOf_res {g : zB} {i : Nat} (h7 : ¬ bf g i 7 = 2) : cellsOf (resB g i) = cellsOf g := by
  unfold resB
  split
  · rw [cellsOf_6]
    refine cellsOf_congr bn_bs (fun k _ => ?_)
    by_cases hk : k = i
    · subst hk
      rw [bf_bs, bf_bsW (by decide), bf_bsW (by decide)]; exact ⟨⟨fun q => absurd q (by decide), fun q => absurd q h7⟩, rfl, rfl⟩
    · rw [bf_bsI (by decide) (by decide) hk, bf_bsI (by decide) (by decide) hk, bf_bsI (by decide) (by decide) hk]; exact ⟨Iff.rfl, rfl, rfl⟩
  · rfl
theorem step_8 {g : zB} {i : Nat} {x c : Int32} : stepB (bs g i 8 x) i c = bs (stepB g i c) i 8 x := by
  unfold stepB
  have e : canB (bs g i 8 x) i c ↔ canB g i c := by
    unfold canB
    rw [bf_bsW (by decide), cells_8]
  by_cases h : canB g i c
  · rw [if_pos h, if_pos (e.mpr h), bs_sw (by decide)]
  · rw [if_neg h, if_neg (fun q => h (e.mp q))]
theorem way_neg {g : zB} {i : Nat} : 0 - wayB g i = -1 * wayB g i := by
  unfold wayB
  split <;> decide
theorem way_8 {g : zB} {i : Nat} {x : Int32} : wayB (bs g i 8 x) i = wayB g i := by
  unfold wayB
  rw [bf_bsW (by decide)]
theorem fle_eq {g : zB} {i : Nat} : resB (bs (stepB (bs g i 8 (bf g i 8 + 1)) i (bf (bs g i 8 (bf g i 8 + 1)) i 2 + (0 - wayB (bs g i 8 (bf g i 8 + 1)) i))) i 5 (mn (bf (stepB (bs g i 8 (bf g i 8 + 1)) i (bf (bs g i 8 (bf g i 8 + 1)) i 2 + (0 - wayB (bs g i 8 (bf g i 8 + 1)) i))) i 5 + 1))) i = fleB g i := by
  unfold fleB
  simp only
  rw [way_8, way_neg, step_8, bf_bsW (w' := 2) (by decide), bf_bsW (w' := 5) (by decide), bs_sw (by decide), bf_bsW (w' := 8) (by decide), stepB_f (w := 8) (by decide)]
theorem go1_c {g : zB} {i : Nat} (h : bf g i 6 = 99) : goB1 g i = stepB g i (fwdB g i) := if_pos h
theorem go1_n {g : zB} {i : Nat} (h : ¬ bf g i 6 = 99) : goB1 g i = g := if_neg h
theorem step_no {g : zB} {i : Nat} {c : Int32} (h : ¬ canB g i c) : stepB g i c = g := if_neg h
/-- the second step of a charge, none where the first failed -/
theorem go2_all {g : zB} {i : Nat} (h6 : bf g i 6 = 99) : goB2 g i = if canB g i (fwdB g i) then stepB (stepB g i (fwdB g i)) i (fwdB (stepB g i (fwdB g i)) i) else g := by
  unfold goB2 chaB
  rw [go1_c h6]
  by_cases hc : canB g i (fwdB g i)
  · rw [if_pos ⟨h6, hc⟩, if_pos hc]
  · rw [if_neg (fun q => hc q.2), if_neg hc, step_no hc]
theorem go2_a {g : zB} {i : Nat} (h6 : bf g i 6 = 97) : goB2 g i = g := by
  unfold goB2 chaB
  have h9 : ¬ bf g i 6 = 99 := fun q => by rw [h6] at q; exact absurd q (by decide)
  rw [if_neg (fun q => h9 q.1), go1_n h9]
theorem act_h {g : zB} {i : Nat} (h6 : bf g i 6 = 104) : actB g i = bs g i 5 (mn (bf g i 5 + 1)) := if_pos h6
theorem act_n {g : zB} {i : Nat} (h6 : ¬ bf g i 6 = 104) : actB g i = finB (goB2 g i) i (chaB g i) (bf g i 6) := if_neg h6
/-- where a line can step, no enemy stands ahead -/
theorem can_nofoe {g : zB} {i : Nat} (hc : canB g i (fwdB g i)) : ¬ foeB g i (aheB g i) := fun hf => absurd hf.1 (Int32.not_le.mpr hc.2)
theorem act_am {g : zB} {i : Nat} (h6 : bf g i 6 = 97) (hc : canB g i (fwdB g i)) : actB g i = stepB g i (fwdB g i) := by
  rw [act_n (fun q => by rw [h6] at q; exact absurd q (by decide)), go2_a h6]
  unfold finB
  rw [if_neg (can_nofoe hc), if_pos h6]
theorem act_an {g : zB} {i : Nat} (h6 : bf g i 6 = 97) (hc : ¬ canB g i (fwdB g i)) : actB g i = if foeB g i (aheB g i) then figB g i (aheB g i).toNatClampNeg (canB g i (fwdB g i)) else g := by
  rw [act_n (fun q => by rw [h6] at q; exact absurd q (by decide)), go2_a h6]
  unfold finB
  by_cases hf : foeB g i (aheB g i)
  · rw [if_pos hf, if_pos hf]
    exact fig_ch ⟨fun q => q.2, fun q => absurd q hc⟩
  · rw [if_neg hf, if_neg hf, if_pos h6, step_no hc]
theorem act_c {g : zB} {i : Nat} (h6 : bf g i 6 = 99) : actB g i = if foeB (goB2 g i) i (aheB (goB2 g i) i) then figB (goB2 g i) i (aheB (goB2 g i) i).toNatClampNeg (canB g i (fwdB g i)) else goB2 g i := by
  rw [act_n (fun q => by rw [h6] at q; exact absurd q (by decide))]
  unfold finB
  by_cases hf : foeB (goB2 g i) i (aheB (goB2 g i) i)
  · rw [if_pos hf, if_pos hf]
    exact fig_ch ⟨fun q => q.2, fun q => ⟨h6, q⟩⟩
  · rw [if_neg hf, if_neg hf, if_neg (fun q => by rw [h6] at q; exact absurd q (by decide))]
end ZAC
