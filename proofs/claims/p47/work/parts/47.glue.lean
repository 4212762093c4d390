section ZGL
theorem lt_le {x : Int32} {n : Nat} (hn : 1 ≤ n ∧ n < 100000) : (0 ≤ x ∧ x < nI n) ↔ (0 ≤ x ∧ x ≤ nI (n - 1)) := by
  constructor
  · intro h
    obtain ⟨j, hj, rfl⟩ := in_of (n := n) rfl (by omega) h.1 h.2
    exact ⟨h.1, le_i (by omega) (by omega)⟩
  · intro h
    obtain ⟨j, hj, rfl⟩ := nI_of (Int32.not_lt.mpr h.1)
    refine ⟨h.1, ?_⟩
    rcases Nat.lt_or_ge j n with w | w
    · exact lt_i w (by omega)
    · exact absurd h.2 (nI_ge (show n - 1 < j by omega) hj)
theorem gl_side {x : Int32} : (0 ≤ x ∧ x < 2) ↔ (0 ≤ x ∧ x ≤ 1) := lt_le (n := 2) (by decide)
theorem gl_lane {x : Int32} : (0 ≤ x ∧ x < 3) ↔ (0 ≤ x ∧ x ≤ 2) := lt_le (n := 3) (by decide)
theorem gl_col {x : Int32} : (0 ≤ x ∧ x < 10) ↔ (0 ≤ x ∧ x ≤ 9) := lt_le (n := 10) (by decide)
theorem gl_en {g : zB} {i : Nat} (hn : bn g ≤ 12) : enB g i = -1 ∨ 0 ≤ enB g i := by
  rcases enS_of (g := g) (i := i) hn 9 1 with h | ⟨j, hj, h⟩
  · exact Or.inl h
  · exact Or.inr (by show 0 ≤ enS g i 9 1; rw [h]; exact ge_i (by omega))
theorem gl_fro {g : zB} {x y : Int32} : ∀ n, n ≤ 10 → froN g x y n = -1 ∨ 0 ≤ froN g x y n
  | 0, _ => Or.inl rfl
  | n + 1, h => by
    rw [froN]
    by_cases c : 0 ≤ cellB g y (frC x n) ∧ bf g (cellB g y (frC x n)).toNatClampNeg 0 = x
    · rw [if_pos c]; exact Or.inr (frC_in (by omega)).1
    · rw [if_neg c]; exact gl_fro n (by omega)
theorem gl_jar {g : zB} {i : Nat} (h : batI g) : (g (jq g i) ≤ 0 ∧ g (jq g i) = 0) ∨ (¬ g (jq g i) ≤ 0 ∧ ¬ g (jq g i) = 0 ∧ ∃ a, 1 ≤ a ∧ a ≤ 3 ∧ g (jq g i) = nI a) := by
  have key : ∃ a, a ≤ 3 ∧ g (jq g i) = nI a := by
    unfold jq
    by_cases e : bf g i 0 = 0
    · rw [if_pos e]; exact h.1.2.1.1
    · rw [if_neg e]; exact h.1.2.1.2
  obtain ⟨a, ha, e⟩ := key
  rw [e]
  rcases Nat.eq_zero_or_pos a with q | q
  · rw [q]; exact Or.inl ⟨by decide, rfl⟩
  · refine Or.inr ⟨Int32.not_le.mpr (lt_i (a := 0) q (by omega)), fun w => ?_, a, q, ha, rfl⟩
    exact absurd (lt_i (a := 0) q (by omega)) (by rw [w]; exact Int32.lt_irrefl)
theorem gl_occ {g : zB} {x y : Int32} (hn : bn g ≤ 12) (h1 : 0 ≤ x ∧ x < 3) (h2 : inCol y) : (occB g x y = none ∧ ¬ 0 ≤ cellB g x y) ∨ ∃ j, occB g x y = some j ∧ 0 ≤ cellB g x y ∧ cellB g x y = nI j := by
  rcases ho : occB g x y with _ | j
  · exact Or.inl ⟨rfl, occ_out hn h1 h2 ho⟩
  · exact Or.inr ⟨j, rfl, (occ_in hn h1 h2 ho).1, (occ_some hn ho).2.1⟩
theorem gl_dec : ∀ (P : Nat → Prop) [DecidablePred P] (n : Nat), (∀ k, k < n → ¬ P k) ∨ ∃ k, k < n ∧ P k ∧ ∀ j, j < k → ¬ P j
  | _, _, 0 => Or.inl (fun _ h => absurd h (Nat.not_lt_zero _))
  | P, _, n + 1 => by
    rcases gl_dec P n with h | ⟨k, h1, h2, h3⟩
    · by_cases c : P n
      · exact Or.inr ⟨n, Nat.lt_succ_self n, c, h⟩
      · refine Or.inl (fun k hk => ?_)
        by_cases e : k = n
        · rw [e]; exact c
        · exact h k (by omega)
    · exact Or.inr ⟨k, by omega, h2, h3⟩
end ZGL
