section ZAX
theorem lt12 {i : Nat} {g : zB} (hn : bnI g) (h : i < bn g) : i < 12 := Nat.lt_of_lt_of_le h hn.1
theorem nn_i {i : Nat} (h : i < 100000) : ¬ nI i < 0 := nI_pos (by omega)
theorem ge_i {i : Nat} (h : i < 100000) : 0 ≤ nI i := nI_pos' (by omega)
theorem cnt_gt {i : Nat} {g : zB} (hn : bnI g) (h : i < bn g) : ¬ g 0 ≤ nI i := by
  have := hn.1
  rw [hn.2]; exact nI_ge h (by omega)
theorem cnt_le {g : zB} (hn : bnI g) : g 0 ≤ nI (bn g) := by rw [hn.2]; exact Int32.le_refl _
theorem lt_i {a b : Nat} (h : a < b) (hb : b < 100000) : nI a < nI b := nI_lt h (by omega)
theorem nle_i {a b : Nat} (h : a < b) (hb : b < 100000) : ¬ nI b ≤ nI a := nI_ge h (by omega)
theorem le_i {a b : Nat} (h : a ≤ b) (hb : b < 100000) : nI a ≤ nI b := nI_le h (by omega)
theorem ix10 (a b : Nat) : nI a * 10 + nI b = nI (a * 10 + b) := by
  rw [show (10 : Int32) = nI 10 from rfl, pk_mul, nI_add]
theorem in_of {x M : Int32} {n : Nat} (hM : M = nI n) (hn : n < 100000) (h0 : 0 ≤ x) (h : x < M) : ∃ a, a < n ∧ x = nI a := by
  obtain ⟨j, hj, rfl⟩ := nI_of (Int32.not_lt.mpr h0)
  refine ⟨j, ?_, rfl⟩
  rw [hM] at h
  exact (nI_ltI hj (by omega)).mp h
theorem in3 {x : Int32} (h : 0 ≤ x ∧ x < 3) : ∃ a, a < 3 ∧ x = nI a := in_of (n := 3) rfl (by decide) h.1 h.2
theorem in10 {x : Int32} (h : inCol x) : ∃ a, a < 10 ∧ x = nI a := by
  refine in_of (M := 10) (n := 10) rfl (by decide) h.1 ?_
  have h2 := Int32.le_iff_toInt_le.mp h.2
  refine Int32.lt_iff_toInt_lt.mpr ?_
  have e9 : (9 : Int32).toInt = 9 := by decide
  have e10 : (10 : Int32).toInt = 10 := by decide
  omega
theorem cellsOf_at {g : zB} {a b : Nat} (ha : a < 3) (hb : b < 10) : cellsOf g (a * 10 + b) = cellB g (nI a) (nI b) := by
  unfold cellsOf
  rw [if_pos (by omega), show (a * 10 + b) / 10 = a by omega, show (a * 10 + b) % 10 = b by omega]
theorem out_lane {x : Int32} (h1 : ¬ x < 0) (h2 : ¬ 3 ≤ x) : 0 ≤ x ∧ x < 3 := ⟨Int32.not_lt.mp h1, Int32.not_le.mp h2⟩
theorem one_near : ∀ a, a < 3 → ∀ b, b < 3 → ((if 0 ≤ nI a - nI b then nI a - nI b else 0 - (nI a - nI b)) = 1 ↔ (nI a - nI b) * (nI a - nI b) = 1) := by decide +kernel
theorem lt10_le9 {x : Int32} (h : x < 10) : x ≤ 9 := by
  have h2 := Int32.lt_iff_toInt_lt.mp h
  refine Int32.le_iff_toInt_le.mpr ?_
  have e9 : (9 : Int32).toInt = 9 := by decide
  have e10 : (10 : Int32).toInt = 10 := by decide
  omega
end ZAX
