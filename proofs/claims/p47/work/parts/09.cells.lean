section ZCL
theorem bn_losB {g : zB} {i : Nat} {d : Int32} : bn (losB g i d) = bn g := by unfold losB; rw [bn_bs, bn_bs]
theorem bn_setB {g : zB} {i : Nat} : bn (setB g i) = bn g := by
  unfold setB
  split
  · rw [bn_bs]
  · split
    · rw [bn_bs]
    · rfl
theorem bn_upd {g : zB} {q : Nat} {x : Int32} (h : ¬ q = 0) : bn (upd g q x) = bn g := by
  unfold bn upd
  rw [if_neg (by omega)]
theorem bn_if {c : Prop} [Decidable c] {g g' : zB} (h : bn g' = bn g) : bn (if c then g' else g) = bn g := by
  split
  · exact h
  · rfl
theorem bn_ctrB {g : zB} {i j : Nat} : bn (ctrB g i j) = bn g := bn_if bn_losB
theorem bn_figB {g : zB} {i j : Nat} {ch : Prop} [Decidable ch] : bn (figB g i j ch) = bn g := by
  unfold figB
  rw [bn_upd (by decide), bn_setB, bn_setB, bn_ctrB, bn_losB]
theorem bn_stepB {g : zB} {i : Nat} {x : Int32} : bn (stepB g i x) = bn g := bn_if bn_bs
theorem bn_resB {g : zB} {i : Nat} : bn (resB g i) = bn g := bn_if (by rw [bn_bs, bn_bs])
theorem bn_fleB {g : zB} {i : Nat} : bn (fleB g i) = bn g := by
  unfold fleB
  simp only
  rw [bn_resB, bn_bs, bn_bs, bn_stepB]
theorem bn_goB1 {g : zB} {i : Nat} : bn (goB1 g i) = bn g := bn_if bn_stepB
theorem bn_goB2 {g : zB} {i : Nat} : bn (goB2 g i) = bn g := by
  unfold goB2
  split
  · rw [bn_stepB, bn_goB1]
  · exact bn_goB1
theorem bn_finB {g : zB} {i : Nat} {m : Prop} [Decidable m] {o : Int32} : bn (finB g i m o) = bn g := by
  unfold finB
  split
  · exact bn_figB
  · exact bn_if bn_stepB
theorem bn_actB {g : zB} {i : Nat} : bn (actB g i) = bn g := by
  unfold actB
  split
  · rw [bn_bs]
  · rw [bn_finB, bn_goB2]
theorem bn_onceB {g : zB} {i : Nat} : bn (onceB g i) = bn g := by
  unfold onceB
  split
  · exact bn_fleB
  · split
    · exact bn_actB
    · rfl
theorem bn_passN {g : zB} : ∀ k, bn (passN g k) = bn g
  | 0 => rfl
  | k + 1 => by rw [passN, bn_onceB, bn_passN k]
/-- cells: two battles that have the same lines in the same places -/
theorem cellN_congr {g g' : zB} {x y : Int32} : ∀ k : Nat, (∀ i, i < k → (bf g' i 7 = 2 ↔ bf g i 7 = 2) ∧ bf g' i 1 = bf g i 1 ∧ bf g' i 2 = bf g i 2) → cellN g' x y k = cellN g x y k
  | 0, _ => rfl
  | k + 1, h => by
    obtain ⟨h1, h2, h3⟩ := h k (Nat.lt_succ_self k)
    rw [cellN, cellN, h2, h3, cellN_congr k (fun i hi => h i (Nat.lt_succ_of_lt hi))]
    simp only [h1]
theorem cellB_congr {g g' : zB} {x y : Int32} (hn : bn g' = bn g) (h : ∀ i, i < bn g → (bf g' i 7 = 2 ↔ bf g i 7 = 2) ∧ bf g' i 1 = bf g i 1 ∧ bf g' i 2 = bf g i 2) : cellB g' x y = cellB g x y := by
  unfold cellB
  rw [hn]
  exact cellN_congr _ h
theorem cellsOf_congr {g g' : zB} (hn : bn g' = bn g) (h : ∀ i, i < bn g → (bf g' i 7 = 2 ↔ bf g i 7 = 2) ∧ bf g' i 1 = bf g i 1 ∧ bf g' i 2 = bf g i 2) : cellsOf g' = cellsOf g := by
  funext k
  unfold cellsOf
  rw [cellB_congr hn h]
/-- which line is in a cell -/
theorem cellN_spec (g : zB) (x y : Int32) : ∀ k : Nat, (cellN g x y k = -1 ∧ ∀ i, i < k → ¬ (¬ bf g i 7 = 2 ∧ bf g i 1 = x ∧ bf g i 2 = y)) ∨ ∃ i, i < k ∧ cellN g x y k = nI i ∧ ¬ bf g i 7 = 2 ∧ bf g i 1 = x ∧ bf g i 2 = y
  | 0 => Or.inl ⟨rfl, fun i hi => absurd hi (Nat.not_lt_zero i)⟩
  | k + 1 => by
    rw [cellN]
    by_cases h : ¬ bf g k 7 = 2 ∧ bf g k 1 = x ∧ bf g k 2 = y
    · rw [if_pos h]
      exact Or.inr ⟨k, Nat.lt_succ_self k, rfl, h⟩
    · rw [if_neg h]
      rcases cellN_spec g x y k with ⟨h1, h2⟩ | ⟨i, h1, h2⟩
      · refine Or.inl ⟨h1, fun i hi => ?_⟩
        rcases Nat.lt_succ_iff_lt_or_eq.mp hi with q | q
        · exact h2 i q
        · rw [q]; exact h
      · exact Or.inr ⟨i, Nat.lt_succ_of_lt h1, h2⟩
theorem cellB_spec (g : zB) (x y : Int32) : (cellB g x y = -1 ∧ ∀ i, i < bn g → ¬ (¬ bf g i 7 = 2 ∧ bf g i 1 = x ∧ bf g i 2 = y)) ∨ ∃ i, i < bn g ∧ cellB g x y = nI i ∧ ¬ bf g i 7 = 2 ∧ bf g i 1 = x ∧ bf g i 2 = y := cellN_spec g x y (bn g)
theorem nI_ne_m1 {i : Nat} (h : i < 2 ^ 31) : ¬ nI i = -1 := fun e => nI_pos h (by rw [e]; decide)
theorem cellB_none {g : zB} {x y : Int32} (h : ∀ i, i < bn g → ¬ (¬ bf g i 7 = 2 ∧ bf g i 1 = x ∧ bf g i 2 = y)) : cellB g x y = -1 := by
  rcases cellB_spec g x y with ⟨h1, -⟩ | ⟨i, h1, -, h2⟩
  · exact h1
  · exact absurd h2 (h i h1)
theorem cellB_at {g : zB} {x y : Int32} (hu : uniB g) {i : Nat} (hi : i < bn g) (h7 : ¬ bf g i 7 = 2) (h1 : bf g i 1 = x) (h2 : bf g i 2 = y) : cellB g x y = nI i := by
  rcases cellB_spec g x y with ⟨-, h⟩ | ⟨j, q1, q2, q3, q4, q5⟩
  · exact absurd ⟨h7, h1, h2⟩ (h i hi)
  · rw [q2, hu j i q1 hi q3 h7 (q4.trans h1.symm) (q5.trans h2.symm)]
/-- the line in a cell of the field, if any -/
def occB (g : zB) (x y : Int32) : Option Nat := if (0 ≤ x ∧ x < 3) ∧ inCol y ∧ 0 ≤ cellB g x y then some (cellB g x y).toNatClampNeg else none
theorem occ_some {g : zB} {x y : Int32} {j : Nat} (hb : bn g ≤ 12) (h : occB g x y = some j) : j < bn g ∧ cellB g x y = nI j ∧ ¬ bf g j 7 = 2 ∧ bf g j 1 = x ∧ bf g j 2 = y ∧ (0 ≤ x ∧ x < 3) ∧ inCol y := by
  unfold occB at h
  by_cases c : (0 ≤ x ∧ x < 3) ∧ inCol y ∧ 0 ≤ cellB g x y
  · rw [if_pos c] at h
    rcases cellB_spec g x y with ⟨h1, -⟩ | ⟨i, q1, q2, q3, q4, q5⟩
    · rw [h1] at c
      exact absurd c.2.2 (by decide)
    · rw [q2, nI_clamp (by omega)] at h
      cases h
      exact ⟨q1, q2, q3, q4, q5, c.1, c.2.1⟩
  · rw [if_neg c] at h
    cases h
theorem occ_none {g : zB} {x y : Int32} (hb : bn g ≤ 12) (h : occB g x y = none) (hx : 0 ≤ x ∧ x < 3) (hy : inCol y) : cellB g x y = -1 := by
  unfold occB at h
  rcases cellB_spec g x y with ⟨h1, -⟩ | ⟨i, q1, q2, -⟩
  · exact h1
  · rw [if_pos ⟨hx, hy, by rw [q2]; exact nI_pos' (by omega)⟩] at h
    cases h
end ZCL
