section ZK3
theorem batW_upd {g : zB} {q : Nat} {x : Int32} (h : batW g) (hq : q = 1 ∨ q = 2) : batW (upd g q x) := by
  have e0 : ∀ k : Nat, ¬ k = q → upd g q x k = g k := fun k hk => by unfold upd; rw [if_neg hk]
  have eb : bn (upd g q x) = bn g := bn_upd (by omega)
  have ef : ∀ k w : Nat, bf (upd g q x) k w = bf g k w := fun k w => e0 _ (by omega)
  refine ⟨⟨by rw [eb]; exact h.1.1, by rw [eb, e0 0 (by omega)]; exact h.1.2⟩, ⟨by rw [e0 3 (by omega)]; exact h.2.1.1, by rw [e0 4 (by omega)]; exact h.2.1.2⟩, fun k hk => ?_, fun a b ha hb => ?_⟩
  · have := h.2.2.1 k (by rw [eb] at hk; exact hk)
    unfold lineW at this ⊢
    rw [ef, ef, ef, ef, ef, ef, ef, ef]
    exact this
  · rw [ef, ef, ef, ef, ef, ef]
    exact h.2.2.2 a b (by rw [eb] at ha; exact ha) (by rw [eb] at hb; exact hb)
theorem bf_upd {g : zB} {q k w : Nat} {x : Int32} (hq : q < 5) : bf (upd g q x) k w = bf g k w := by
  unfold bf upd; rw [if_neg (by omega)]
theorem batI_upd {g : zB} {q : Nat} {x : Int32} (h : batI g) (hq : q = 1 ∨ q = 2) : batI (upd g q x) := ⟨batW_upd h.1 hq, fun k hk => iffW_of (bf_upd (by omega)) (bf_upd (by omega)) (h.2 k (by rw [bn_upd (by omega)] at hk; exact hk))⟩
theorem cells_upd {g : zB} {q : Nat} {x : Int32} (hq : q = 1 ∨ q = 2) : cellsOf (upd g q x) = cellsOf g := cellsOf_congr (bn_upd (by omega)) (fun k _ => by rw [bf_upd (by omega), bf_upd (by omega), bf_upd (by omega)]; exact ⟨Iff.rfl, rfl, rfl⟩)
theorem ctrB_o {g : zB} {i j k w : Nat} (hw : w < 9) (h : ¬ k = i) : bf (ctrB g i j) k w = bf g k w := by
  unfold ctrB
  split
  · exact losB_o hw h
  · rfl
theorem ctrB_w {g : zB} {i j w : Nat} (h4 : ¬ w = 4) (h5 : ¬ w = 5) : bf (ctrB g i j) i w = bf g i w := by
  unfold ctrB
  split
  · exact losB_w h4 h5
  · rfl
theorem batW_hit {g : zB} {i j : Nat} {ch : Prop} [Decidable ch] (h : batW g) (hi : i < bn g) (hj : j < bn g) : batW (losB g j (damB g i ch)) := by
  obtain ⟨a, ha, e⟩ := damB_of (ch := ch) h.1.1 (h.2.2.1 i hi)
  exact batW_los h hj (by omega) e
theorem batW_ctr {g : zB} {i j : Nat} (h : batW g) (hi : i < bn g) (hj : j < bn g) : batW (ctrB g i j) := by
  unfold ctrB
  split
  · obtain ⟨a, ha, e⟩ := cntB_of (h.2.2.1 j hj)
    exact batW_los h hi (by omega) e
  · exact h
theorem batI_fig {g : zB} {i j : Nat} {ch : Prop} [Decidable ch] (h : batI g) (hi : i < bn g) (hj : j < bn g) (hij : ¬ i = j) (h7i : ¬ bf g i 7 = 2) (h7j : ¬ bf g j 7 = 2) : batI (figB g i j ch) := by
  unfold figB
  have w1 := batW_hit (ch := ch) h.1 hi hj
  have w2 := batW_ctr (i := i) (j := j) w1 (by rw [bn_losB]; exact hi) (by rw [bn_losB]; exact hj)
  refine ⟨batW_upd (batW_set (batW_set w2)) (Or.inr rfl), fun k hk => iffW_of (bf_upd (by decide)) (bf_upd (by decide)) ?_⟩
  rw [bn_upd (by decide), bn_setB, bn_setB, bn_ctrB, bn_losB] at hk
  by_cases hkj : k = j
  · rw [hkj]
    refine setB_iff ?_
    rw [setB_o (by decide) (fun e => hij e.symm), ctrB_o (by decide) (fun e => hij e.symm), losB_w (by decide) (by decide)]
    exact h7j
  · refine iffW_of (setB_o (by decide) hkj) (setB_o (by decide) hkj) ?_
    by_cases hki : k = i
    · rw [hki]
      refine setB_iff ?_
      rw [ctrB_w (by decide) (by decide), losB_o (by decide) hij]
      exact h7i
    · refine iffW_of ?_ ?_ (h.2 k hk)
      · rw [setB_o (by decide) hki, ctrB_o (by decide) hki, losB_o (by decide) hkj]
      · rw [setB_o (by decide) hki, ctrB_o (by decide) hki, losB_o (by decide) hkj]
theorem canB_of {g : zB} {i : Nat} {c : Int32} (h : batI g) (hi : i < bn g) (hc : canB g i c) : ∃ a b, a < 3 ∧ b < 10 ∧ bf g i 1 = nI a ∧ c = nI b ∧ cellB g (nI a) (nI b) = -1 := by
  obtain ⟨-, ⟨a, ha, e1⟩, -⟩ := h.1.2.2.1 i hi
  obtain ⟨b, hb, rfl⟩ := in10 hc.1
  refine ⟨a, b, ha, hb, e1, rfl, ?_⟩
  have h2 := hc.2
  rw [e1] at h2
  rcases cellB_spec g (nI a) (nI b) with ⟨q, -⟩ | ⟨j, q0, q, -⟩
  · exact q
  · rw [q] at h2
    exact absurd h2 (nI_pos (by have := h.1.1.1; omega))
theorem stepB_f {g : zB} {i w : Nat} {c : Int32} (h : ¬ w = 2) : bf (stepB g i c) i w = bf g i w := by
  unfold stepB
  split
  · exact bf_bsW h
  · rfl
theorem stepB_o {g : zB} {i k w : Nat} {c : Int32} (hw : w < 9) (h : ¬ k = i) : bf (stepB g i c) k w = bf g k w := by
  unfold stepB
  split
  · exact bf_bsI (by decide) hw h
  · rfl
theorem batI_step {g : zB} {i : Nat} {c : Int32} (h : batI g) (hi : i < bn g) (h7 : ¬ bf g i 7 = 2) : batI (stepB g i c) := by
  unfold stepB
  split
  · rename_i hc
    obtain ⟨a, b', ha, hb', e1, rfl, hcell⟩ := canB_of h hi hc
    obtain ⟨-, -, ⟨b, hb, e2⟩, -⟩ := h.1.2.2.1 i hi
    have hu := (cells_step h.1.1.1 h.1.2.2.2 hi h7 ha hb hb' e1 e2 hcell).1
    refine ⟨batW_bs (by decide) h.1 (fun _ => lineW_2 ⟨b', hb', rfl⟩) hu, fun k hk => ?_⟩
    rw [bn_bs] at hk
    by_cases hki : k = i
    · subst hki
      exact iffW_of (bf_bsW (by decide)) (bf_bsW (by decide)) (h.2 k hk)
    · exact iffW_of (bf_bsI (by decide) (by decide) hki) (bf_bsI (by decide) (by decide) hki) (h.2 k hk)
  · exact h
theorem batI_5 {g : zB} {i : Nat} {x : Int32} (h : batI g) (hx : ∃ a, a ≤ 20 ∧ x = nI a) : batI (bs g i 5 x) := ⟨batW_5 h.1 hx, fun k hk => by
  rw [bn_bs] at hk
  by_cases hki : k = i
  · subst hki; exact iffW_of (bf_bsW (by decide)) (bf_bsW (by decide)) (h.2 k hk)
  · exact iffW_of (bf_bsI (by decide) (by decide) hki) (bf_bsI (by decide) (by decide) hki) (h.2 k hk)⟩
theorem batI_6 {g : zB} {i : Nat} {x : Int32} (h : batI g) (hx : x = 104 ∨ x = 97 ∨ x = 99) : batI (bs g i 6 x) := ⟨batW_6 h.1 hx, fun k hk => by
  rw [bn_bs] at hk
  by_cases hki : k = i
  · subst hki; exact iffW_of (bf_bsW (by decide)) (bf_bsW (by decide)) (h.2 k hk)
  · exact iffW_of (bf_bsI (by decide) (by decide) hki) (bf_bsI (by decide) (by decide) hki) (h.2 k hk)⟩
theorem batI_8 {g : zB} {i : Nat} {x : Int32} (h : batI g) : batI (bs g i 8 x) := ⟨batW_8 h.1, fun k hk => by
  rw [bn_bs] at hk
  by_cases hki : k = i
  · subst hki; exact iffW_of (bf_bsW (by decide)) (bf_bsW (by decide)) (h.2 k hk)
  · exact iffW_of (bf_bsI (by decide) (by decide) hki) (bf_bsI (by decide) (by decide) hki) (h.2 k hk)⟩
theorem batI_7 {g : zB} {i : Nat} {x : Int32} (h : batI g) (hi : i < bn g) (hx : x = 0 ∨ x = 1) (h7 : ¬ bf g i 7 = 2) : batI (bs g i 7 x) := ⟨batW_7 h.1 (by rcases hx with q | q; exact Or.inl q; exact Or.inr (Or.inl q)) (fun _ => h7), fun k hk => by
  rw [bn_bs] at hk
  by_cases hki : k = i
  · subst hki
    unfold iffW
    rw [bf_bs, bf_bsW (by decide)]
    refine ⟨fun q => ?_, fun q => absurd ((h.2 k hk).mpr q) h7⟩
    rcases hx with z | z <;> rw [z] at q <;> exact absurd q (by decide)
  · exact iffW_of (bf_bsI (by decide) (by decide) hki) (bf_bsI (by decide) (by decide) hki) (h.2 k hk)⟩
theorem batI_res {g : zB} {i : Nat} (h : batI g) (hi : i < bn g) (h7 : ¬ bf g i 7 = 2) : batI (resB g i) := by
  unfold resB
  split
  · exact batI_6 (batI_7 h hi (Or.inl rfl) h7) (Or.inl rfl)
  · exact h
theorem mn1_of {g : zB} {i : Nat} (h : batI g) (hi : i < bn g) : ∃ a, a ≤ 20 ∧ mn (bf g i 5 + 1) = nI a := by
  obtain ⟨-, -, -, -, -, ⟨t, ht, e5⟩, -⟩ := h.1.2.2.1 i hi
  rw [e5]
  exact mn_of (c := 1) ht (by decide)
theorem batI_fle {g : zB} {i : Nat} (h : batI g) (hi : i < bn g) (h7 : ¬ bf g i 7 = 2) : batI (fleB g i) := by
  unfold fleB
  simp only
  have h1 := batI_step (c := bf g i 2 + -1 * wayB g i) h hi h7
  have i1 : i < bn (stepB g i (bf g i 2 + -1 * wayB g i)) := by rw [bn_stepB]; exact hi
  have h2 := batI_5 (i := i) h1 (mn1_of h1 i1)
  refine batI_res (batI_8 h2) (by rw [bn_bs, bn_bs]; exact i1) ?_
  rw [bf_bsW (by decide), bf_bsW (by decide), stepB_f (by decide)]
  exact h7
theorem goB1_f {g : zB} {i w : Nat} (h : ¬ w = 2) : bf (goB1 g i) i w = bf g i w := by
  unfold goB1
  split
  · exact stepB_f h
  · rfl
theorem goB2_f {g : zB} {i w : Nat} (h : ¬ w = 2) : bf (goB2 g i) i w = bf g i w := by
  unfold goB2
  split
  · rw [stepB_f h, goB1_f h]
  · exact goB1_f h
theorem batI_go1 {g : zB} {i : Nat} (h : batI g) (hi : i < bn g) (h7 : ¬ bf g i 7 = 2) : batI (goB1 g i) := by
  unfold goB1
  split
  · exact batI_step h hi h7
  · exact h
theorem batI_go2 {g : zB} {i : Nat} (h : batI g) (hi : i < bn g) (h7 : ¬ bf g i 7 = 2) : batI (goB2 g i) := by
  unfold goB2
  split
  · exact batI_step (batI_go1 h hi h7) (by rw [bn_goB1]; exact hi) (by rw [goB1_f (by decide)]; exact h7)
  · exact batI_go1 h hi h7
/-- the enemy ahead is a line of this battle -/
theorem foe_of {g : zB} {i : Nat} (h : batI g) (hf : foeB g i (aheB g i)) : ∃ j, j < bn g ∧ aheB g i = nI j ∧ (aheB g i).toNatClampNeg = j ∧ ¬ bf g j 7 = 2 ∧ ¬ i = j ∧ ¬ bf g j 0 = bf g i 0 ∧ bf g j 1 = bf g i 1 ∧ bf g j 2 = bf g i 2 + wayB g i := by
  obtain ⟨h0, h1⟩ := hf
  unfold aheB at h0 h1 ⊢
  rcases cellB_spec g (bf g i 1) (bf g i 2 + wayB g i) with ⟨q, -⟩ | ⟨j, q0, q, q7, q1, q2⟩
  · rw [q] at h0
    exact absurd h0 (by decide)
  · have e : (cellB g (bf g i 1) (bf g i 2 + wayB g i)).toNatClampNeg = j := by rw [q, nI_clamp (by have := h.1.1.1; omega)]
    rw [e] at h1
    exact ⟨j, q0, q, e, q7, fun z => h1 (by rw [z]), h1, q1, q2⟩
theorem batI_fin {g : zB} {i : Nat} {m : Prop} [Decidable m] {o : Int32} (h : batI g) (hi : i < bn g) (h7 : ¬ bf g i 7 = 2) : batI (finB g i m o) := by
  unfold finB
  split
  · rename_i hf
    obtain ⟨j, q0, -, q, q7, qi, -⟩ := foe_of h hf
    rw [q]
    exact batI_fig h hi q0 qi h7 q7
  · split
    · exact batI_step h hi h7
    · exact h
theorem batI_act {g : zB} {i : Nat} (h : batI g) (hi : i < bn g) (h7 : ¬ bf g i 7 = 2) : batI (actB g i) := by
  unfold actB
  split
  · exact batI_5 h (mn1_of h hi)
  · exact batI_fin (batI_go2 h hi h7) (by rw [bn_goB2]; exact hi) (by rw [goB2_f (by decide)]; exact h7)
theorem batI_once {g : zB} {i : Nat} (h : batI g) (hi : i < bn g) : batI (onceB g i) := by
  unfold onceB
  split
  · rename_i h1
    exact batI_fle h hi (fun q => by rw [h1] at q; exact absurd q (by decide))
  · split
    · rename_i h1
      exact batI_act h hi (fun q => by rw [h1] at q; exact absurd q (by decide))
    · exact h
theorem batI_passN {g : zB} (h : batI g) : ∀ k, k ≤ bn g → batI (passN g k)
  | 0, _ => h
  | k + 1, hk => by
    rw [passN]
    exact batI_once (batI_passN h k (Nat.le_of_succ_le hk)) (by rw [bn_passN]; exact hk)
theorem batI_pass {g : zB} (h : batI g) : batI (passB g) := batI_upd (batI_passN h _ (Nat.le_refl _)) (Or.inl rfl)
theorem bn_passB {g : zB} : bn (passB g) = bn g := by
  unfold passB
  rw [bn_upd (by decide), bn_passN]
end ZK3
