section ZLO
theorem isl_in {b : zB} {i : Nat} (hn : bnI b) (hlt : i < bn b) : 0 ≤ nI i ∧ nI i ≤ b 0 - 1 := by
  have h := hn.1
  refine ⟨ge_i (by omega), ?_⟩
  rw [hn.2, show (1 : Int32) = nI 1 from rfl, pk_sub (by omega)]
  exact le_i (by omega) (by omega)
theorem isl_of {b : zB} {x : Int32} (hn : bnI b) (h : 0 ≤ x ∧ x ≤ b 0 - 1) : ∃ i, i < bn b ∧ x = nI i := by
  obtain ⟨j, hj, rfl⟩ := nI_of (Int32.not_lt.mpr h.1)
  have h2 := h.2
  rw [hn.2] at h2
  rcases Nat.eq_zero_or_pos (bn b) with q | q
  · rw [q] at h2
    exact absurd (Int32.le_trans h.1 h2) (by decide)
  · rw [show (1 : Int32) = nI 1 from rfl, pk_sub q] at h2
    refine ⟨j, ?_, rfl⟩
    rcases Nat.lt_or_ge j (bn b) with w | w
    · exact w
    · exact absurd h2 (nI_ge (show bn b - 1 < j by omega) hj)
theorem isl_out {b : zB} {x : Int32} (hn : bnI b) (h : ¬ (0 ≤ x ∧ x ≤ b 0 - 1)) : x < 0 ∨ b 0 ≤ x := by
  rcases Classical.em (x < 0) with q | q
  · exact Or.inl q
  · obtain ⟨j, hj, rfl⟩ := nI_of q
    refine Or.inr ?_
    rcases Nat.lt_or_ge j (bn b) with w | w
    · exact absurd (isl_in hn w) h
    · rw [hn.2]; exact nI_le w hj
theorem jar_i {x : Int32} (h : 0 ≤ x ∧ x ≤ 1) : x = 0 ∨ x = 1 := by
  obtain ⟨j, hj, rfl⟩ := nI_of (Int32.not_lt.mpr h.1)
  rcases Nat.lt_or_ge 1 j with w | w
  · exact absurd h.2 (nI_ge w hj)
  · rcases Nat.eq_zero_or_pos j with q | q
    · exact Or.inl (by rw [q]; rfl)
    · exact Or.inr (by rw [show j = 1 by omega]; rfl)
theorem ne_0 {k : Nat} (h : k < 1000) : ¬ nI (k + 1) = 0 := fun q => absurd (lt_i (a := 0) (b := k + 1) (by omega) (by omega)) (by rw [show nI (k + 1) = nI 0 from q]; exact Int32.lt_irrefl)
/-- the battle after k turns -/
def itB (g : zB) : Nat → zB
  | 0 => g
  | k + 1 => passB (itB g k)
/-- the fights of turn k -/
def fiB (g : zB) (k : Nat) : Int32 := itB g (k + 1) 2 - itB g k 2
/-- a line added -/
def rowB (g : zB) (x y c v : Int32) : zB := bs (bs (bs (bs (bs (bs (bs (bs (bs g (bn g) 0 x) (bn g) 1 y) (bn g) 2 (9 * x)) (bn g) 3 c) (bn g) 4 v) (bn g) 5 10) (bn g) 6 104) (bn g) 7 0) (bn g) 8 0
def addB (g : zB) (x y c v : Int32) : zB := upd (rowB g x y c v) 0 (rowB g x y c v 0 + 1)
/-- what may be added -/
abbrev fitB (x y c v : Int32) : Prop := (0 ≤ x ∧ x ≤ 1) ∧ (0 ≤ y ∧ y ≤ 2) ∧ (c = 112 ∨ c = 110 ∨ c = 99 ∨ c = 115) ∧ (1 ≤ v ∧ v ≤ 99)
abbrev ordO (x : Int32) : Prop := x = 104 ∨ x = 97 ∨ x = 99
/-- the place of the jars of a line's side -/
def jq (g : zB) (i : Nat) : Nat := if bf g i 0 = 0 then 3 else 4
def useB (g : zB) (i : Nat) : zB := upd g (jq g i) (g (jq g i) - 1)
def ralB (g : zB) (i : Nat) : zB := resB (bs (useB g i) i 5 (mn (bf (useB g i) i 5 + 6))) i
theorem ne_12 {b : zB} (hn : bnI b) (h : bn b < 12) : ¬ b 0 = 12 := fun q => absurd (lt_i (a := bn b) (b := 12) h (by decide)) (by rw [← hn.2, q]; exact Int32.lt_irrefl)
def mor (k0 : Nat) : Nat := if k0 = 8 then 8 else k0 + 1
end ZLO
