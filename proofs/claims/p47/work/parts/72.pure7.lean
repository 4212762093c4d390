section ZP7
/-! lines in cells -/
def cnF (g : zB) (c : Nat) : Int32 := match occB g (nI (c / 10)) (nI (c % 10)) with
  | some _ => 1
  | none => 0
abbrev inD (g : zB) (c j : Nat) : Prop := (bf g j 1 = nI (c / 10) ∧ bf g j 2 = nI (c % 10)) ∧ ¬ bf g j 7 = 2
theorem cnF_eq {g : zB} (hW : batW g) {c : Nat} (hc : c < 30) : cnF g c = sm (fun j => if inD g c j then 1 else 0) (bn g) := by
  have hn := hW.1
  have hy : 0 ≤ nI (c / 10) ∧ nI (c / 10) < 3 := ⟨ge_i (by omega), lt_i (b := 3) (by omega) (by decide)⟩
  have hcol : inCol (nI (c % 10)) := ⟨ge_i (by omega), le_i (b := 9) (by omega) (by decide)⟩
  unfold cnF
  rcases ho : occB g (nI (c / 10)) (nI (c % 10)) with _ | j
  · refine (sm_zero (fun k hk => if_neg (fun q => ?_))).symm
    have h8 := occ_none hn.1 ho hy hcol
    rcases cellB_spec g (nI (c / 10)) (nI (c % 10)) with ⟨-, h2⟩ | ⟨j, q1, q2, -⟩
    · exact h2 k hk ⟨q.2, q.1.1, q.1.2⟩
    · exact nI_ne_m1 (by omega) (q2.symm.trans h8)
  · obtain ⟨h1, h2, h3, h4, h5, h6, h7⟩ := occ_some hn.1 ho
    show (1 : Int32) = _
    rw [sm_one h1 (fun k hk hne => if_neg (fun q => hne (hW.2.2.2 k j hk h1 q.2 h3 (q.1.1.trans h4.symm) (q.1.2.trans h5.symm)))), if_pos ⟨⟨h4, h5⟩, h3⟩]
theorem cn_cells {g : zB} (hI : batI g) : sm (cnF g) 30 = aliB g := by
  have hW := hI.1
  rw [sm_ext (fun c hc => cnF_eq hW hc), sm_swap]
  refine sm_ext (fun j hj => ?_)
  obtain ⟨a, ha, ea⟩ := (hW.2.2.1 j hj).2.1
  obtain ⟨b, hb, eb⟩ := (hW.2.2.1 j hj).2.2.1
  unfold aliF
  by_cases h7 : bf g j 7 = 2
  · rw [sm_zero (fun c _ => if_neg (fun q => q.2 h7)), if_pos h7]
  · rw [sm_one (j := 10 * a + b) (by omega) (fun c hc hne => if_neg (fun q => hne ?_)), if_neg h7]
    · rw [if_pos ⟨⟨by rw [ea, show (10 * a + b) / 10 = a by omega], by rw [eb, show (10 * a + b) % 10 = b by omega]⟩, h7⟩]
    · have e1 := nI_inj2 (by omega) (by omega) (ea.symm.trans q.1.1)
      have e2 := nI_inj2 (by omega) (by omega) (eb.symm.trans q.1.2)
      omega
/-! ranks in their order -/
theorem rk_ord {g : zB} (h : batI g) {u v r : Nat} (hr : r + 1 < bn g) (hu : u < bn g) (hv : v < bn g) (eu : rankB g u = nI r) (ev : rankB g v = nI (r + 1)) : ∃ d, d ≤ 99 ∧ bf g u 4 - bf g v 4 = nI d ∧ (d = 0 → u < v) := by
  have h12 := h.1.1.1
  rw [rk_eq h hu] at eu
  rw [rk_eq h hv] at ev
  have l1 := rk_lt hu
  have l2 := rk_lt hv
  have e1 : rkN g u = r := (nI_eq (by omega) (by omega)).mp eu
  have e2 : rkN g v = r + 1 := (nI_eq (by omega) (by omega)).mp ev
  have ht : tpN g u v ∨ tpN g v u := by
    have hne : ¬ u = v := fun q => by rw [q, e2] at e1; omega
    unfold tpN; omega
  have ht2 : tpN g v u := by
    rcases ht with q | q
    · have h3 : rkN g v < rkN g u := cn_lt (j := v) q (by unfold tpN; omega) (bn g) (fun k _ q2 => by unfold tpN at *; omega) hv
      omega
    · exact q
  obtain ⟨a1, a2⟩ := sk_of h hu
  obtain ⟨b1, b2⟩ := sk_of h hv
  refine ⟨skN g u - skN g v, by omega, by rw [a2, b2]; exact pk_sub (by unfold tpN at ht2; omega), fun q => by unfold tpN at ht2; omega⟩
/-! routed lines have little morale -/
def rouP (g : zB) (k : Nat) : Prop := bf g k 7 = 1 → bf g k 5 < 8
def rouW (g : zB) : Prop := ∀ k, k < bn g → rouP g k
theorem rou_of {g g' : zB} (hn : bn g' = bn g) (h : rouW g) (hk : ∀ k, k < bn g → rouP g' k ∨ (bf g' k 7 = bf g k 7 ∧ bf g' k 5 = bf g k 5)) : rouW g' := fun k hk2 => by
  rw [hn] at hk2
  rcases hk k hk2 with q | ⟨q1, q2⟩
  · exact q
  · unfold rouP
    rw [q1, q2]
    exact h k hk2
theorem rou_d : ∀ c, c < 8 → ∀ a, a < 101 → mx (nI c - nI a / 3) < 8 := by decide +kernel
theorem rou_los {g : zB} {i a : Nat} {d : Int32} (hW : batW g) (hi : i < bn g) (ha : a ≤ 100) (hd : d = nI a) (h : rouW g) : rouW (losB g i d) := by
  refine rou_of bn_losB h (fun k hk => ?_)
  by_cases e : k = i
  · subst e
    refine Or.inl (fun q => ?_)
    rw [losB_w (by decide) (by decide)] at q
    obtain ⟨c, hc, ec⟩ := (hW.2.2.1 k hk).2.2.2.2.2.1
    have h8 := h k hk q
    rw [ec, show (8 : Int32) = nI 8 from rfl, nI_ltI (by omega) (by omega)] at h8
    show bf (losB g k d) k 5 < 8
    rw [losB, bf_bs, ec, hd]
    exact rou_d c h8 a (by omega)
  · exact Or.inr ⟨losB_o (by decide) e, losB_o (by decide) e⟩
theorem rou_ctr {g : zB} {i j : Nat} (hW : batW g) (hi : i < bn g) (hj : j < bn g) (h : rouW g) : rouW (ctrB g i j) := by
  unfold ctrB
  split
  · obtain ⟨a, ha, e⟩ := cntB_of (hW.2.2.1 j hj)
    exact rou_los hW hi (by omega) e h
  · exact h
theorem rou_set {g : zB} {i : Nat} (h : rouW g) : rouW (setB g i) := by
  unfold setB
  split
  · refine rou_of bn_bs h (fun k hk => ?_)
    by_cases e : k = i
    · subst e
      refine Or.inl (fun q => ?_)
      rw [bf_bs] at q
      exact absurd q (by decide)
    · exact Or.inr ⟨bf_bsI (by decide) (by decide) e, bf_bsI (by decide) (by decide) e⟩
  · split
    · rename_i h2
      refine rou_of bn_bs h (fun k hk => ?_)
      by_cases e : k = i
      · subst e
        refine Or.inl (fun _ => ?_)
        rw [bf_bsW (by decide)]
        exact Int32.lt_trans h2.2 (by decide)
      · exact Or.inr ⟨bf_bsI (by decide) (by decide) e, bf_bsI (by decide) (by decide) e⟩
    · exact h
theorem rou_upd {g : zB} {q : Nat} {x : Int32} (hq : q < 5) (h0 : ¬ q = 0) (h : rouW g) : rouW (upd g q x) := rou_of (bn_upd h0) h (fun k _ => Or.inr ⟨bf_upd hq, bf_upd hq⟩)
theorem rou_fig {g : zB} {i j : Nat} {ch : Prop} [Decidable ch] (hI : batI g) (hi : i < bn g) (hj : j < bn g) (h : rouW g) : rouW (figB g i j ch) := by
  unfold figB
  have w1 := batW_hit (ch := ch) hI.1 hi hj
  obtain ⟨a, ha, e⟩ := damB_of (ch := ch) hI.1.1.1 (hI.1.2.2.1 i hi)
  have r1 : rouW (losB g j (damB g i ch)) := rou_los hI.1 hj ha e h
  exact rou_upd (by decide) (by decide) (rou_set (rou_set (rou_ctr w1 (by rw [bn_losB]; exact hi) (by rw [bn_losB]; exact hj) r1)))
theorem rou_w {g : zB} {i w : Nat} {x : Int32} (hw : w < 9) (h5 : ¬ w = 5) (h7 : ¬ w = 7) (h : rouW g) : rouW (bs g i w x) := rou_of bn_bs h (fun k _ => by
  by_cases e : k = i
  · subst e
    exact Or.inr ⟨bf_bsW (fun q => h7 q.symm), bf_bsW (fun q => h5 q.symm)⟩
  · exact Or.inr ⟨bf_bsI hw (by decide) e, bf_bsI hw (by decide) e⟩)
theorem rou_step {g : zB} {i : Nat} {x : Int32} (h : rouW g) : rouW (stepB g i x) := by
  unfold stepB
  split
  · exact rou_w (by decide) (by decide) (by decide) h
  · exact h
/-- a line alone is lifted, and then may stand again -/
theorem rou_res {g g0 : zB} {i : Nat} (hn : bn g = bn g0) (h0 : rouW g0) (hk : ∀ k, k < bn g0 → ¬ k = i → bf g k 7 = bf g0 k 7 ∧ bf g k 5 = bf g0 k 5) : rouW (resB g i) := by
  refine rou_of (bn_resB.trans hn) h0 (fun k hk2 => ?_)
  by_cases e : k = i
  · subst e
    refine Or.inl (fun q => ?_)
    unfold resB at q ⊢
    by_cases h8 : 8 ≤ bf g k 5
    · rw [if_pos h8, bf_bsW (by decide), bf_bs] at q
      exact absurd q (by decide)
    · rw [if_neg h8]
      exact Int32.not_le.mp h8
  · obtain ⟨q1, q2⟩ := hk k hk2 e
    refine Or.inr ?_
    unfold resB
    by_cases h8 : 8 ≤ bf g i 5
    · rw [if_pos h8, bf_bsI (by decide) (by decide) e, bf_bsI (by decide) (by decide) e, bf_bsI (by decide) (by decide) e, bf_bsI (by decide) (by decide) e]
      exact ⟨q1, q2⟩
    · rw [if_neg h8]
      exact ⟨q1, q2⟩
theorem rou_fle {g : zB} {i : Nat} (h : rouW g) : rouW (fleB g i) := by
  have h1 : rouW (stepB g i (bf g i 2 + -1 * wayB g i)) := rou_step h
  refine rou_res (g0 := stepB g i (bf g i 2 + -1 * wayB g i)) (by rw [bn_bs, bn_bs]) h1 (fun k _ e => ?_)
  rw [bf_bsI (by decide) (by decide) e, bf_bsI (by decide) (by decide) e, bf_bsI (by decide) (by decide) e, bf_bsI (by decide) (by decide) e]
  exact ⟨rfl, rfl⟩
theorem rou_go2 {g : zB} {i : Nat} (h : rouW g) : rouW (goB2 g i) := by
  have h1 : rouW (goB1 g i) := by
    unfold goB1
    split
    · exact rou_step h
    · exact h
  unfold goB2
  split
  · exact rou_step h1
  · exact h1
theorem rou_fin {g : zB} {i : Nat} {m : Prop} [Decidable m] {o : Int32} (hI : batI g) (hi : i < bn g) (h : rouW g) : rouW (finB g i m o) := by
  unfold finB
  split
  · rename_i hf
    obtain ⟨j, q0, -, q, -⟩ := foe_of hI hf
    rw [q]
    exact rou_fig hI hi q0 h
  · split
    · exact rou_step h
    · exact h
theorem rou_act {g : zB} {i : Nat} (hI : batI g) (hi : i < bn g) (h7 : bf g i 7 = 0) (h : rouW g) : rouW (actB g i) := by
  have h72 : ¬ bf g i 7 = 2 := by rw [h7]; decide
  unfold actB
  split
  · refine rou_of bn_bs h (fun k hk => ?_)
    by_cases e : k = i
    · subst e
      refine Or.inl (fun q => ?_)
      rw [bf_bsW (by decide), h7] at q
      exact absurd q (by decide)
    · exact Or.inr ⟨bf_bsI (by decide) (by decide) e, bf_bsI (by decide) (by decide) e⟩
  · exact rou_fin (batI_go2 hI hi h72) (by rw [bn_goB2]; exact hi) (rou_go2 h)
theorem rou_once {g : zB} {i : Nat} (hI : batI g) (hi : i < bn g) (h : rouW g) : rouW (onceB g i) := by
  unfold onceB
  split
  · exact rou_fle h
  · split
    · rename_i h1
      exact rou_act hI hi h1 h
    · exact h
theorem rou_passN {g : zB} (hI : batI g) (h : rouW g) : ∀ k, k ≤ bn g → rouW (passN g k)
  | 0, _ => h
  | k + 1, hk => by
    rw [passN]
    exact rou_once (batI_passN hI k (Nat.le_of_succ_le hk)) (by rw [bn_passN]; exact hk) (rou_passN hI h k (Nat.le_of_succ_le hk))
theorem rou_pass {g : zB} (hI : batI g) (h : rouW g) : rouW (passB g) := rou_upd (by decide) (by decide) (rou_passN hI h _ (Nat.le_refl _))
theorem rou_add {g : zB} {x y z v : Int32} (hn : bnI g) (h : rouW g) : rouW (addB g x y z v) := fun k hk => by
  rw [bn_addB hn] at hk
  by_cases e : k = bn g
  · subst e
    intro q
    rw [addB_at (by decide), show adv x y z v 7 = 0 from rfl] at q
    exact absurd q (by decide)
  · unfold rouP
    rw [addB_ne (by decide) e, addB_ne (by decide) e]
    exact h k (by omega)
theorem rou_ord {g : zB} {i : Nat} {x : Int32} (h : rouW g) : rouW (bs g i 6 x) := rou_w (by decide) (by decide) (by decide) h
theorem rou_ral {g : zB} {i : Nat} (h : rouW g) : rouW (ralB g i) := by
  have hq : jq g i = 3 ∨ jq g i = 4 := by
    unfold jq
    by_cases e : bf g i 0 = 0
    · exact Or.inl (if_pos e)
    · exact Or.inr (if_neg e)
  have h1 : rouW (useB g i) := rou_upd (by omega) (by omega) h
  refine rou_res (g0 := useB g i) bn_bs h1 (fun k _ e => ?_)
  rw [bf_bsI (by decide) (by decide) e, bf_bsI (by decide) (by decide) e]
  exact ⟨rfl, rfl⟩
end ZP7
