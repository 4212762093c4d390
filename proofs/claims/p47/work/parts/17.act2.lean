section ZA2
theorem foe_some {g : zB} {i j : Nat} (h : batI g) (ho : occB g (bf g i 1) (bf g i 2 + wayB g i) = some j) : j < bn g ∧ ¬ bf g j 7 = 2 ∧ aheB g i = nI j ∧ (aheB g i).toNatClampNeg = j ∧ (foeB g i (aheB g i) ↔ ¬ bf g j 0 = bf g i 0) := by
  obtain ⟨h1, h2, h3, -⟩ := occ_some h.1.1.1 ho
  have hj : j < 100000 := by have := h.1.1.1; omega
  have e : aheB g i = nI j := h2
  have e2 : (aheB g i).toNatClampNeg = j := by rw [e, nI_clamp (by omega)]
  refine ⟨h1, h3, e, e2, ?_⟩
  unfold foeB
  rw [e2, e]
  exact ⟨fun q => q.2, fun q => ⟨ge_i hj, q⟩⟩
theorem foe_none {g : zB} {i : Nat} (h : batI g) (hi : i < bn g) (ho : occB g (bf g i 1) (bf g i 2 + wayB g i) = none) : ¬ foeB g i (aheB g i) := fun hf => by
  obtain ⟨j, q0, q, -, q7, -, -, q1, q2⟩ := foe_of h hf
  obtain ⟨-, ⟨a, ha, e1⟩, -⟩ := h.1.2.2.1 i hi
  obtain ⟨-, -, ⟨b, hb, e2⟩, -⟩ := h.1.2.2.1 j q0
  unfold occB at ho
  rw [if_pos ⟨by rw [e1]; exact ⟨ge_i (by omega), lt_i (b := 3) ha (by decide)⟩, by rw [← q2, e2]; exact ⟨ge_i (by omega), le_i (b := 9) (by omega) (by decide)⟩, hf.1⟩] at ho
  cases ho
theorem act_no {g : zB} {i : Nat} (h6 : ¬ bf g i 6 = 104) (ho : bf g i 6 = 104 ∨ bf g i 6 = 97 ∨ bf g i 6 = 99) (hc : ¬ canB g i (fwdB g i)) : actB g i = if foeB g i (aheB g i) then figB g i (aheB g i).toNatClampNeg (canB g i (fwdB g i)) else g := by
  rcases ho with q | q | q
  · exact absurd q h6
  · exact act_an q hc
  · have e := act_c q
    rw [go2_all q, if_neg hc] at e
    exact e
theorem act_yes {g : zB} {i : Nat} (h6 : ¬ bf g i 6 = 104) (h7 : ¬ bf g i 6 = 97) (ho : bf g i 6 = 104 ∨ bf g i 6 = 97 ∨ bf g i 6 = 99) (hc : canB g i (fwdB g i)) {G : zB} (hG : stepB (stepB g i (fwdB g i)) i (fwdB (stepB g i (fwdB g i)) i) = G) : actB g i = if foeB G i (aheB G i) then figB G i (aheB G i).toNatClampNeg (canB g i (fwdB g i)) else G := by
  rcases ho with q | q | q
  · exact absurd q h6
  · exact absurd q h7
  · have e := act_c q
    rw [go2_all q, if_pos hc, hG] at e
    exact e
theorem once_st {g : zB} {i : Nat} (h : bf g i 7 = 0) : onceB g i = actB g i := by
  unfold onceB
  rw [if_neg (fun q => by rw [h] at q; exact absurd q (by decide)), if_pos h]
theorem once_ro {g : zB} {i : Nat} (h : bf g i 7 = 1) : onceB g i = fleB g i := if_pos h
theorem once_no {g : zB} {i : Nat} (h : ¬ bf g i 7 = 0) (h1 : ¬ bf g i 7 = 1) : onceB g i = g := by
  unfold onceB
  rw [if_neg h1, if_neg h]
theorem n2_0 {x : Int32} (h : x = 0) : ¬ x = 2 := fun q => by rw [h] at q; exact absurd q (by decide)
theorem n2_1 {x : Int32} (h : x = 1) : ¬ x = 2 := fun q => by rw [h] at q; exact absurd q (by decide)
theorem cnt_leN {g : zB} (hn : bnI g) {k : Nat} (h : k = bn g) : g 0 ≤ nI k := by rw [h]; exact cnt_le hn
end ZA2
