section ZK5
theorem cells_ral {g : zB} {i : Nat} (h7 : ¬ bf g i 7 = 2) : cellsOf (ralB g i) = cellsOf g := by
  have hq : jq g i = 3 ∨ jq g i = 4 := by
    unfold jq
    by_cases e : bf g i 0 = 0
    · exact Or.inl (if_pos e)
    · exact Or.inr (if_neg e)
  have eb : ∀ k w, bf (useB g i) k w = bf g k w := fun k w => bf_upd (by omega)
  refine cellsOf_congr bn_ral (fun k _ => ?_)
  unfold ralB resB
  by_cases c : 8 ≤ bf (bs (useB g i) i 5 (mn (bf (useB g i) i 5 + 6))) i 5
  · rw [if_pos c]
    by_cases e : k = i
    · subst e
      rw [bf_bsW (by decide), bf_bs, bf_bsW (by decide), bf_bsW (by decide), bf_bsW (by decide), bf_bsW (by decide), bf_bsW (by decide), bf_bsW (by decide), eb, eb]
      exact ⟨⟨fun q => absurd q (by decide), fun q => absurd q h7⟩, rfl, rfl⟩
    · rw [bf_bsI (by decide) (by decide) e, bf_bsI (by decide) (by decide) e, bf_bsI (by decide) (by decide) e, bf_bsI (by decide) (by decide) e, bf_bsI (by decide) (by decide) e, bf_bsI (by decide) (by decide) e, bf_bsI (by decide) (by decide) e, bf_bsI (by decide) (by decide) e, bf_bsI (by decide) (by decide) e, eb, eb, eb]
      exact ⟨Iff.rfl, rfl, rfl⟩
  · rw [if_neg c]
    by_cases e : k = i
    · subst e
      rw [bf_bsW (by decide), bf_bsW (by decide), bf_bsW (by decide), eb, eb, eb]
      exact ⟨Iff.rfl, rfl, rfl⟩
    · rw [bf_bsI (by decide) (by decide) e, bf_bsI (by decide) (by decide) e, bf_bsI (by decide) (by decide) e, eb, eb, eb]
      exact ⟨Iff.rfl, rfl, rfl⟩
theorem cells_ord {g : zB} {i : Nat} {x : Int32} : cellsOf (bs g i 6 x) = cellsOf g := by
  refine cellsOf_congr bn_bs (fun k _ => ?_)
  by_cases e : k = i
  · subst e
    rw [bf_bsW (by decide), bf_bsW (by decide), bf_bsW (by decide)]
    exact ⟨Iff.rfl, rfl, rfl⟩
  · rw [bf_bsI (by decide) (by decide) e, bf_bsI (by decide) (by decide) e, bf_bsI (by decide) (by decide) e]
    exact ⟨Iff.rfl, rfl, rfl⟩
theorem cells_add {g : zB} {u a : Nat} {z v : Int32} (h : batI g) (hk : bn g < 12) (hA : fitB (nI u) (nI a) z v) (hu : u < 2) (ha : a < 3) (hc : cellB g (nI a) (9 * nI u) < 0) : cellsOf (addB g (nI u) (nI a) z v) = upd (cellsOf g) (a * 10 + 9 * u) (nI (bn g)) := by
  have hI := batI_add h hk hA hc
  have en := bn_addB (x := nI u) (y := nI a) (z := z) (v := v) h.1.1
  have e9 : (9 : Int32) * nI u = nI (9 * u) := by rw [show (9 : Int32) = nI 9 from rfl, pk_mul]
  funext k
  unfold cellsOf upd
  show (if k < 30 then cellB (addB g (nI u) (nI a) z v) (nI (k / 10)) (nI (k % 10)) else -1) = if k = a * 10 + 9 * u then nI (bn g) else (if k < 30 then cellB g (nI (k / 10)) (nI (k % 10)) else -1)
  by_cases hk30 : k < 30
  · rw [if_pos hk30, if_pos hk30]
    by_cases e : k = a * 10 + 9 * u
    · rw [if_pos e, show k / 10 = a by omega, show k % 10 = 9 * u by omega]
      refine cellB_at hI.1.2.2.2 (by rw [en]; omega) ?_ ?_ ?_
      · rw [addB_at (by decide)]
        exact fun q => absurd (show (0 : Int32) = 2 from q) (by decide)
      · rw [addB_at (by decide)]; rfl
      · rw [addB_at (by decide)]; exact e9
    · rw [if_neg e]
      rcases cellB_spec g (nI (k / 10)) (nI (k % 10)) with ⟨q, h2⟩ | ⟨j, hj, q, h7, h1, h2⟩
      · rw [q]
        refine cellB_none (fun j hj q2 => ?_)
        rw [en] at hj
        by_cases ej : j = bn g
        · subst ej
          have e1 := q2.2.1
          have e2 := q2.2.2
          rw [addB_at (by decide)] at e1 e2
          have w1 := nI_inj2 (by omega) (by omega) (show nI a = nI (k / 10) from e1)
          have w2 := nI_inj2 (by omega) (by omega) (e9.symm.trans (show 9 * nI u = nI (k % 10) from e2))
          omega
        · have e7 := q2.1
          have e1 := q2.2.1
          have e2 := q2.2.2
          rw [addB_ne (by decide) ej] at e7 e1 e2
          exact h2 j (by omega) ⟨e7, e1, e2⟩
      · rw [q]
        refine cellB_at hI.1.2.2.2 (by rw [en]; omega) ?_ ?_ ?_
        · rw [addB_ne (by decide) (by omega)]; exact h7
        · rw [addB_ne (by decide) (by omega)]; exact h1
        · rw [addB_ne (by decide) (by omega)]; exact h2
  · rw [if_neg hk30, if_neg hk30, if_neg (by omega)]
end ZK5
