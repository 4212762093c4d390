section ZK4
theorem batI_ral {g : zB} {i : Nat} (h : batI g) (hi : i < bn g) (h7 : ¬ bf g i 7 = 2) (hj : ∃ a, 1 ≤ a ∧ a ≤ 3 ∧ g (jq g i) = nI a) : batI (ralB g i) := by
  obtain ⟨a, a1, a3, ej⟩ := hj
  have hq : jq g i = 3 ∨ jq g i = 4 := by
    unfold jq
    by_cases e : bf g i 0 = 0
    · exact Or.inl (if_pos e)
    · exact Or.inr (if_neg e)
  have eb : ∀ k w, bf (useB g i) k w = bf g k w := fun k w => bf_upd (by omega)
  have en := bn_use (g := g) (i := i)
  have e0 : useB g i 0 = g 0 := by
    unfold useB upd
    exact if_neg (by omega)
  have ex : ∃ b, b ≤ 3 ∧ g (jq g i) - 1 = nI b := ⟨a - 1, by omega, by rw [ej, show (1 : Int32) = nI 1 from rfl, pk_sub a1]⟩
  have eJ : ∀ q, (∃ b, b ≤ 3 ∧ g q = nI b) → ∃ b, b ≤ 3 ∧ useB g i q = nI b := fun q hb => by
    unfold useB upd
    by_cases e : q = jq g i
    · rw [if_pos e]; exact ex
    · rw [if_neg e]; exact hb
  have hU : batI (useB g i) := by
    refine ⟨⟨⟨by rw [en]; exact h.1.1.1, by rw [en, e0]; exact h.1.1.2⟩, ⟨eJ 3 h.1.2.1.1, eJ 4 h.1.2.1.2⟩, fun k hk => ?_, fun k j hk hj => ?_⟩, fun k hk => ?_⟩
    · rw [en] at hk
      have q := h.1.2.2.1 k hk
      unfold lineW at q ⊢
      simp only [eb]
      exact q
    · rw [en] at hk hj
      simp only [eb]
      exact h.1.2.2.2 k j hk hj
    · rw [en] at hk
      exact iffW_of (eb k 7) (eb k 4) (h.2 k hk)
  have hm : ∃ b, b ≤ 20 ∧ mn (bf (useB g i) i 5 + 6) = nI b := by
    obtain ⟨b, hb, e⟩ := (h.1.2.2.1 i hi).2.2.2.2.2.1
    rw [eb, e, show (6 : Int32) = nI 6 from rfl, nI_add]
    unfold mn
    by_cases c : nI (b + 6) < 20
    · rw [if_pos c]
      exact ⟨b + 6, Nat.le_of_lt (Nat.lt_of_not_le (fun q => absurd c (Int32.not_lt.mpr (le_i (a := 20) q (by omega))))), rfl⟩
    · rw [if_neg c]; exact ⟨20, Nat.le_refl _, rfl⟩
  refine batI_res (batI_5 hU hm) (by rw [bn_bs, en]; exact hi) ?_
  rw [bf_bsW (by decide), eb]
  exact h7
theorem batI_add {g : zB} {x y z v : Int32} (h : batI g) (hk : bn g < 12) (hA : fitB x y z v) (hc : cellB g y (9 * x) < 0) : batI (addB g x y z v) := by
  have hn := h.1.1
  have en := bn_addB (x := x) (y := y) (z := z) (v := v) hn
  have eq : ∀ q, q < 5 → ¬ q = 0 → addB g x y z v q = g q := fun q hq h0 => by
    unfold addB upd
    rw [if_neg h0]; exact rowB_lo hq
  have hnone : ∀ j, j < bn g → ¬ bf g j 7 = 2 → ¬ (y = bf g j 1 ∧ 9 * x = bf g j 2) := fun j hj h7 e => by
    rcases cellB_spec g y (9 * x) with ⟨-, q⟩ | ⟨j2, -, q, -⟩
    · exact q j hj ⟨h7, e.1.symm, e.2.symm⟩
    · have q2 := cellB_at h.1.2.2.2 hj h7 e.1.symm e.2.symm
      rw [q2] at hc
      exact absurd hc (nn_i (by omega))
  refine ⟨⟨⟨by rw [en]; omega, by rw [en]; exact addB_0 hn⟩, ⟨by rw [eq 3 (by decide) (by decide)]; exact h.1.2.1.1, by rw [eq 4 (by decide) (by decide)]; exact h.1.2.1.2⟩, fun k hk2 => ?_, fun k j hk2 hj2 h7k h7j e1 e2 => ?_⟩, fun k hk2 => ?_⟩
  · rw [en] at hk2
    by_cases e : k = bn g
    · subst e
      unfold lineW
      rw [addB_at (by decide), addB_at (by decide), addB_at (by decide), addB_at (by decide), addB_at (by decide), addB_at (by decide), addB_at (by decide), addB_at (by decide)]
      obtain ⟨a, ha, rfl⟩ := in_of (M := 3) (n := 3) rfl (by decide) hA.2.1.1 (Int32.lt_of_le_of_lt hA.2.1.2 (by decide))
      obtain ⟨b, hb, rfl⟩ := in_of (M := 100) (n := 100) rfl (by decide) (Int32.le_trans (by decide) hA.2.2.2.1) (Int32.lt_of_le_of_lt hA.2.2.2.2 (by decide))
      refine ⟨jar_i hA.1, ⟨a, ha, rfl⟩, ?_, hA.2.2.1, ⟨b, by omega, rfl⟩, ⟨10, by decide, rfl⟩, Or.inl rfl, Or.inl rfl⟩
      rcases jar_i hA.1 with e | e <;> subst e
      · exact ⟨0, by decide, rfl⟩
      · exact ⟨9, by decide, rfl⟩
    · have q := h.1.2.2.1 k (by omega)
      unfold lineW at q ⊢
      rw [addB_ne (by decide) e, addB_ne (by decide) e, addB_ne (by decide) e, addB_ne (by decide) e, addB_ne (by decide) e, addB_ne (by decide) e, addB_ne (by decide) e, addB_ne (by decide) e]
      exact q
  · rw [en] at hk2 hj2
    by_cases a1 : k = bn g
    · by_cases a2 : j = bn g
      · rw [a1, a2]
      · rw [addB_ne (by decide) a2] at h7j e1 e2
        rw [a1, addB_at (by decide)] at e1
        rw [a1, addB_at (by decide)] at e2
        exact absurd ⟨e1, e2⟩ (hnone j (by omega) h7j)
    · rw [addB_ne (by decide) a1] at h7k e1 e2
      by_cases a2 : j = bn g
      · rw [a2, addB_at (by decide)] at e1
        rw [a2, addB_at (by decide)] at e2
        exact absurd ⟨e1.symm, e2.symm⟩ (hnone k (by omega) h7k)
      · rw [addB_ne (by decide) a2] at h7j e1
        rw [addB_ne (by decide) a2] at e2
        exact h.1.2.2.2 k j (by omega) (by omega) h7k h7j e1 e2
  · rw [en] at hk2
    by_cases e : k = bn g
    · subst e
      unfold iffW
      rw [addB_at (by decide), addB_at (by decide)]
      refine ⟨fun q => absurd (show (0 : Int32) = 2 from q) (by decide), fun q => absurd hA.2.2.2.1 (by rw [show v = 0 from q]; decide)⟩
    · exact iffW_of (addB_ne (by decide) e) (addB_ne (by decide) e) (h.2 k (by omega))
end ZK4
