section ZFI
theorem if_2 {p0 : Prop} [Decidable p0] {a b : zB} {x : Int32} (h1 : a 2 = x) (h2 : b 2 = x) : (if p0 then a else b) 2 = x := by
  by_cases h : p0
  · rw [if_pos h]; exact h1
  · rw [if_neg h]; exact h2
theorem step_2 {g : zB} {i : Nat} {x : Int32} : stepB g i x 2 = g 2 := if_2 (bs_lo (by decide)) rfl
theorem res_2 {g : zB} {i : Nat} : resB g i 2 = g 2 := if_2 ((bs_lo (by decide)).trans (bs_lo (by decide))) rfl
theorem fle_2 {g : zB} {i : Nat} : fleB g i 2 = g 2 := by
  unfold fleB
  rw [res_2, bs_lo (by decide), bs_lo (by decide), step_2]
theorem go1_2 {g : zB} {i : Nat} : goB1 g i 2 = g 2 := if_2 step_2 rfl
theorem go2_2 {g : zB} {i : Nat} : goB2 g i 2 = g 2 := if_2 (step_2.trans go1_2) go1_2
theorem fin_2 {g : zB} {i : Nat} {m : Prop} [Decidable m] {o : Int32} : finB g i m o 2 = g 2 ∨ finB g i m o 2 = g 2 + 1 := by
  unfold finB
  by_cases h : foeB g i (aheB g i)
  · rw [if_pos h]; exact Or.inr rfl
  · rw [if_neg h]; exact Or.inl (if_2 step_2 rfl)
theorem act_2 {g : zB} {i : Nat} : actB g i 2 = g 2 ∨ actB g i 2 = g 2 + 1 := by
  unfold actB
  by_cases h : bf g i 6 = 104
  · rw [if_pos h]; exact Or.inl (bs_lo (by decide))
  · rw [if_neg h, ← go2_2 (g := g) (i := i)]; exact fin_2
theorem once_2 {g : zB} {i : Nat} : onceB g i 2 = g 2 ∨ onceB g i 2 = g 2 + 1 := by
  unfold onceB
  by_cases h : bf g i 7 = 1
  · rw [if_pos h]; exact Or.inl fle_2
  · rw [if_neg h]
    by_cases h0 : bf g i 7 = 0
    · rw [if_pos h0]; exact act_2
    · rw [if_neg h0]; exact Or.inl rfl
theorem passN_2 {g : zB} : ∀ k, ∃ a, a ≤ k ∧ passN g k 2 = g 2 + nI a
  | 0 => ⟨0, Nat.le_refl _, (Int32.add_zero _).symm⟩
  | k + 1 => by
    obtain ⟨a, ha, e⟩ := passN_2 (g := g) k
    rcases once_2 (g := passN g k) (i := k) with q | q
    · exact ⟨a, by omega, by rw [passN, q, e]⟩
    · exact ⟨a + 1, by omega, by rw [passN, q, e, Int32.add_assoc, nI_1]⟩
theorem pass_2 {g : zB} : ∃ a, a ≤ bn g ∧ passB g 2 = g 2 + nI a := passN_2 (bn g)
theorem bn_it {g : zB} : ∀ k, bn (itB g k) = bn g
  | 0 => rfl
  | k + 1 => by rw [itB, bn_passB, bn_it k]
/-- a turn's fights are a small number -/
theorem fi_of {g : zB} (hn : bn g ≤ 12) (k : Nat) : ∃ a, a ≤ 12 ∧ fiB g k = nI a := by
  obtain ⟨a, ha, e⟩ := pass_2 (g := itB g k)
  rw [bn_it] at ha
  refine ⟨a, by omega, ?_⟩
  show passB (itB g k) 2 - itB g k 2 = nI a
  rw [e, Int32.add_comm, Int32.add_sub_cancel]
theorem fi_or {g : zB} (hn : bn g ≤ 12) (k : Nat) : fiB g k = 0 ∨ 0 < fiB g k := by
  obtain ⟨a, ha, e⟩ := fi_of hn k
  rw [e]
  rcases Nat.eq_zero_or_pos a with q | q
  · exact Or.inl (by rw [q]; rfl)
  · exact Or.inr (lt_i (a := 0) q (by omega))
end ZFI
