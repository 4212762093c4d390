section ZK2
theorem div_of {a d : Nat} (ha : a < 100000) (h0 : 0 < d) (hd : d < 100000) {D : Int32} (hD : D = nI d) : nI a / D = nI (a / d) := by
  rw [hD]; exact pk_div (by omega) h0 (by omega)
theorem attB_of {g : zB} {i : Nat} (h : lineW g i) : ∃ a, a ≤ 40 ∧ attB g i = nI a := by
  obtain ⟨-, -, -, -, ⟨s, hs, e⟩, -⟩ := h
  unfold attB
  rw [e]
  split
  · exact ⟨s / 4, by omega, div_of (by omega) (by decide) (by decide) rfl⟩
  · split
    · refine ⟨s / 5 + 2, by omega, ?_⟩
      rw [div_of (a := s) (d := 5) (D := 5) (by omega) (by decide) (by decide) rfl, show (2 : Int32) = nI 2 from rfl, nI_add]
    · split
      · exact ⟨s / 3, by omega, div_of (by omega) (by decide) (by decide) rfl⟩
      · refine ⟨s / 6 + 1, by omega, ?_⟩
        rw [div_of (a := s) (d := 6) (D := 6) (by omega) (by decide) (by decide) rfl, show (1 : Int32) = nI 1 from rfl, nI_add]
theorem cntB_of {g : zB} {i : Nat} (h : lineW g i) : ∃ a, a ≤ 40 ∧ cntB g i = nI a := by
  obtain ⟨-, -, -, -, ⟨s, hs, e⟩, -⟩ := h
  unfold cntB
  rw [e]
  split
  · exact ⟨s / 8, by omega, div_of (by omega) (by decide) (by decide) rfl⟩
  · split
    · exact ⟨s / 4, by omega, div_of (by omega) (by decide) (by decide) rfl⟩
    · split
      · exact ⟨s / 10, by omega, div_of (by omega) (by decide) (by decide) rfl⟩
      · exact ⟨s / 6, by omega, div_of (by omega) (by decide) (by decide) rfl⟩
theorem supN_of {g : zB} {i : Nat} : ∀ k, ∃ a, a ≤ k ∧ supN g i k = nI a
  | 0 => ⟨0, Nat.le_refl _, rfl⟩
  | k + 1 => by
    obtain ⟨a, ha, e⟩ := supN_of (g := g) (i := i) k
    rw [supN, e]
    split
    · exact ⟨a + 1, by omega, nI_1 a⟩
    · exact ⟨a, by omega, Int32.add_zero _⟩
theorem supB_of {g : zB} {i : Nat} (h : bn g ≤ 12) : ∃ a, a ≤ 12 ∧ supB g i = nI a := by
  obtain ⟨a, ha, e⟩ := supN_of (g := g) (i := i) (bn g)
  exact ⟨a, by omega, e⟩
theorem damB_of {g : zB} {i : Nat} {ch : Prop} [Decidable ch] (hb : bn g ≤ 12) (h : lineW g i) : ∃ a, a ≤ 100 ∧ damB g i ch = nI a := by
  obtain ⟨a, ha, e1⟩ := attB_of h
  obtain ⟨b, hb, e2⟩ := supB_of (i := i) hb
  unfold damB
  rw [e1, e2, show (2 : Int32) = nI 2 from rfl, pk_mul, nI_add]
  split
  · exact ⟨a + 2 * b + 6, by omega, by rw [show (6 : Int32) = nI 6 from rfl, nI_add]⟩
  · exact ⟨a + 2 * b, by omega, Int32.add_zero _⟩
theorem losB_o {g : zB} {i k w : Nat} {d : Int32} (hw : w < 9) (h : ¬ k = i) : bf (losB g i d) k w = bf g k w := by
  unfold losB
  rw [bf_bsI (by decide) hw h, bf_bsI (by decide) hw h]
theorem losB_w {g : zB} {i w : Nat} {d : Int32} (h4 : ¬ w = 4) (h5 : ¬ w = 5) : bf (losB g i d) i w = bf g i w := by
  unfold losB
  rw [bf_bsW h5, bf_bsW h4]
theorem losB_lo {g : zB} {i q : Nat} {d : Int32} (h : q < 5) : losB g i d q = g q := by
  unfold losB
  rw [bs_lo h, bs_lo h]
theorem batW_los {g : zB} {i a : Nat} {d : Int32} (h : batW g) (hi : i < bn g) (ha : a ≤ 1000) (hd : d = nI a) : batW (losB g i d) := by
  obtain ⟨-, -, -, -, ⟨s, hs, e4⟩, ⟨t, ht, e5⟩, -⟩ := h.2.2.1 i hi
  unfold losB
  rw [e4, e5, hd, div_of (d := 3) (D := 3) (a := a) (by omega) (by decide) (by decide) rfl]
  exact batW_5 (batW_4 h (mx_of (by decide) hs (nI_pos' (by omega)))) (mx_of (by decide) ht (nI_pos' (by omega)))
theorem setB_o {g : zB} {i k w : Nat} (hw : w < 9) (h : ¬ k = i) : bf (setB g i) k w = bf g k w := by
  unfold setB
  split
  · exact bf_bsI (by decide) hw h
  · split
    · exact bf_bsI (by decide) hw h
    · rfl
theorem setB_w {g : zB} {i w : Nat} (h : ¬ w = 7) : bf (setB g i) i w = bf g i w := by
  unfold setB
  split
  · exact bf_bsW h
  · split
    · exact bf_bsW h
    · rfl
theorem setB_lo {g : zB} {i q : Nat} (h : q < 5) : setB g i q = g q := by
  unfold setB
  split
  · exact bs_lo h
  · split
    · exact bs_lo h
    · rfl
theorem batW_set {g : zB} {i : Nat} (h : batW g) : batW (setB g i) := by
  unfold setB
  split
  · exact batW_7 h (Or.inr (Or.inr rfl)) (fun q => absurd rfl q)
  · split
    · rename_i h0
      exact batW_7 h (Or.inr (Or.inl rfl)) (fun _ q => by rw [h0.1] at q; exact absurd q (by decide))
    · exact h
theorem setB_iff {g : zB} {i : Nat} (h7 : ¬ bf g i 7 = 2) : iffW (setB g i) i := by
  unfold setB iffW
  split
  · rename_i h4
    rw [bf_bs, bf_bsW (by decide)]
    exact ⟨fun _ => h4, fun _ => rfl⟩
  · rename_i h4
    split
    · rw [bf_bs, bf_bsW (by decide)]
      exact ⟨fun q => absurd q (by decide), fun q => absurd q h4⟩
    · exact ⟨fun q => absurd q h7, fun q => absurd q h4⟩
theorem iffW_of {g g' : zB} {k : Nat} (h7 : bf g' k 7 = bf g k 7) (h4 : bf g' k 4 = bf g k 4) (h : iffW g k) : iffW g' k := by
  unfold iffW
  rw [h7, h4]
  exact h
theorem cells_los {g : zB} {i : Nat} {d : Int32} : cellsOf (losB g i d) = cellsOf g := by
  refine cellsOf_congr bn_losB (fun k _ => ?_)
  by_cases hk : k = i
  · subst hk
    rw [losB_w (by decide) (by decide), losB_w (by decide) (by decide), losB_w (by decide) (by decide)]
    exact ⟨Iff.rfl, rfl, rfl⟩
  · rw [losB_o (by decide) hk, losB_o (by decide) hk, losB_o (by decide) hk]
    exact ⟨Iff.rfl, rfl, rfl⟩
theorem nI_lane {a b : Nat} (ha : a < 100000) (hb : b < 100000) (h : nI a = nI b) : a = b := (nI_eq (by omega) (by omega)).mp h
/-- a line falls: its cell is empty -/
theorem cells_fall {g : zB} {i a b : Nat} (hu : uniB g) (hi : i < bn g) (h7 : ¬ bf g i 7 = 2) (ha : a < 3) (hb : b < 10) (h1 : bf g i 1 = nI a) (h2 : bf g i 2 = nI b) : cellsOf (bs g i 7 2) = upd (cellsOf g) (a * 10 + b) (-1) := by
  funext k
  unfold upd
  by_cases hk : k < 30
  · have e : ∀ j, ¬ bf (bs g i 7 2) j 7 = 2 → ¬ j = i ∧ ¬ bf g j 7 = 2 := by
      intro j hj
      by_cases hji : j = i
      · subst hji; rw [bf_bs] at hj; exact absurd rfl hj
      · rw [bf_bsI (by decide) (by decide) hji] at hj; exact ⟨hji, hj⟩
    have ew : ∀ j w, w < 9 → ¬ w = 7 → bf (bs g i 7 2) j w = bf g j w := by
      intro j w hw hw7
      by_cases hji : j = i
      · subst hji; exact bf_bsW hw7
      · exact bf_bsI (by decide) hw hji
    have hA : cellsOf (bs g i 7 2) k = cellB (bs g i 7 2) (nI (k / 10)) (nI (k % 10)) := by unfold cellsOf; rw [if_pos hk]
    have hB : cellsOf g k = cellB g (nI (k / 10)) (nI (k % 10)) := by unfold cellsOf; rw [if_pos hk]
    rw [hA, hB]
    by_cases hq : k = a * 10 + b
    · rw [if_pos hq]
      refine cellB_none (fun j hj q => ?_)
      rw [bn_bs] at hj
      obtain ⟨q1, q2⟩ := e j q.1
      rw [ew j 1 (by decide) (by decide), ew j 2 (by decide) (by decide)] at q
      exact q1 (hu j i hj hi q2 h7 (q.2.1.trans (by rw [h1]; congr 1; omega)) (q.2.2.trans (by rw [h2]; congr 1; omega)))
    · rw [if_neg hq]
      rcases cellB_spec g (nI (k / 10)) (nI (k % 10)) with ⟨c1, c2⟩ | ⟨j, c1, c2, c3, c4, c5⟩
      · rw [c1]
        refine cellB_none (fun j hj q => ?_)
        rw [bn_bs] at hj
        obtain ⟨q1, q2⟩ := e j q.1
        rw [ew j 1 (by decide) (by decide), ew j 2 (by decide) (by decide)] at q
        exact c2 j hj ⟨q2, q.2⟩
      · rw [c2]
        have hji : ¬ j = i := by
          intro hji
          subst hji
          have z1 := nI_lane (by omega) (by omega) (h1.symm.trans c4)
          have z2 := nI_lane (by omega) (by omega) (h2.symm.trans c5)
          omega
        refine cellB_at (g := bs g i 7 2) ?_ (by rw [bn_bs]; exact c1) (by rw [bf_bsI (by decide) (by decide) hji]; exact c3) (by rw [ew j 1 (by decide) (by decide)]; exact c4) (by rw [ew j 2 (by decide) (by decide)]; exact c5)
        exact uni_bs (by decide) (by decide) (by decide) (fun _ q => absurd rfl q) hu
  · rw [if_neg (by omega)]
    unfold cellsOf
    rw [if_neg hk, if_neg hk]
theorem cells_set {g : zB} {i a b : Nat} (hu : uniB g) (hi : i < bn g) (h7 : ¬ bf g i 7 = 2) (ha : a < 3) (hb : b < 10) (h1 : bf g i 1 = nI a) (h2 : bf g i 2 = nI b) : cellsOf (setB g i) = if bf g i 4 = 0 then upd (cellsOf g) (a * 10 + b) (-1) else cellsOf g := by
  unfold setB
  split
  · exact cells_fall hu hi h7 ha hb h1 h2
  · split
    · rename_i h0
      refine cellsOf_congr bn_bs (fun k _ => ?_)
      by_cases hk : k = i
      · subst hk
        rw [bf_bs, bf_bsW (by decide), bf_bsW (by decide)]
        exact ⟨⟨fun q => absurd q (by decide), fun q => absurd q h7⟩, rfl, rfl⟩
      · rw [bf_bsI (by decide) (by decide) hk, bf_bsI (by decide) (by decide) hk, bf_bsI (by decide) (by decide) hk]
        exact ⟨Iff.rfl, rfl, rfl⟩
    · rfl
/-- a step into an empty cell -/
theorem cells_step {g : zB} {i a b b' : Nat} (hn : bn g ≤ 12) (hu : uniB g) (hi : i < bn g) (h7 : ¬ bf g i 7 = 2) (ha : a < 3) (hb : b < 10) (hb' : b' < 10) (h1 : bf g i 1 = nI a) (h2 : bf g i 2 = nI b) (hc : cellB g (nI a) (nI b') = -1) : uniB (bs g i 2 (nI b')) ∧ cellsOf (bs g i 2 (nI b')) = upd (upd (cellsOf g) (a * 10 + b) (-1)) (a * 10 + b') (nI i) := by
  have free : ∀ j, j < bn g → ¬ (¬ bf g j 7 = 2 ∧ bf g j 1 = nI a ∧ bf g j 2 = nI b') := by
    rcases cellB_spec g (nI a) (nI b') with ⟨-, q⟩ | ⟨j, q0, q, -⟩
    · exact q
    · exact absurd (q.symm.trans hc) (nI_ne_m1 (by omega))
  have ew : ∀ j w, w < 9 → ¬ w = 2 → bf (bs g i 2 (nI b')) j w = bf g j w := by
    intro j w hw hw7
    by_cases hji : j = i
    · subst hji; exact bf_bsW hw7
    · exact bf_bsI (by decide) hw hji
  have eo : ∀ j, ¬ j = i → bf (bs g i 2 (nI b')) j 2 = bf g j 2 := fun j hj => bf_bsI (by decide) (by decide) hj
  have hu' : uniB (bs g i 2 (nI b')) := by
    intro x y hx hy x7 y7 e1 e2
    rw [bn_bs] at hx hy
    rw [ew x 7 (by decide) (by decide)] at x7
    rw [ew y 7 (by decide) (by decide)] at y7
    rw [ew x 1 (by decide) (by decide), ew y 1 (by decide) (by decide)] at e1
    by_cases hxi : x = i
    · by_cases hyi : y = i
      · rw [hxi, hyi]
      · subst hxi
        rw [bf_bs, eo y hyi] at e2
        exact absurd ⟨y7, e1.symm.trans h1, e2.symm⟩ (free y hy)
    · by_cases hyi : y = i
      · subst hyi
        rw [bf_bs, eo x hxi] at e2
        exact absurd ⟨x7, e1.trans h1, e2⟩ (free x hx)
      · rw [eo x hxi, eo y hyi] at e2
        exact hu x y hx hy x7 y7 e1 e2
  refine ⟨hu', ?_⟩
  funext k
  unfold upd
  by_cases hk : k < 30
  · have hA : cellsOf (bs g i 2 (nI b')) k = cellB (bs g i 2 (nI b')) (nI (k / 10)) (nI (k % 10)) := by unfold cellsOf; rw [if_pos hk]
    have hB : cellsOf g k = cellB g (nI (k / 10)) (nI (k % 10)) := by unfold cellsOf; rw [if_pos hk]
    rw [hA, hB]
    by_cases hq' : k = a * 10 + b'
    · rw [if_pos hq']
      refine cellB_at hu' (by rw [bn_bs]; exact hi) (by rw [ew i 7 (by decide) (by decide)]; exact h7) ?_ ?_
      · rw [ew i 1 (by decide) (by decide), h1]; congr 1; omega
      · rw [bf_bs]; congr 1; omega
    · rw [if_neg hq']
      by_cases hq : k = a * 10 + b
      · rw [if_pos hq]
        refine cellB_none (fun j hj q => ?_)
        rw [bn_bs] at hj
        rw [ew j 7 (by decide) (by decide), ew j 1 (by decide) (by decide)] at q
        by_cases hji : j = i
        · subst hji
          rw [bf_bs] at q
          have z2 := nI_lane (by omega) (by omega) q.2.2
          omega
        · rw [eo j hji] at q
          exact hji (hu j i hj hi q.1 h7 (q.2.1.trans (by rw [h1]; congr 1; omega)) (q.2.2.trans (by rw [h2]; congr 1; omega)))
      · rw [if_neg hq]
        rcases cellB_spec g (nI (k / 10)) (nI (k % 10)) with ⟨c1, c2⟩ | ⟨j, c1, c2, c3, c4, c5⟩
        · rw [c1]
          refine cellB_none (fun j hj q => ?_)
          rw [bn_bs] at hj
          rw [ew j 7 (by decide) (by decide), ew j 1 (by decide) (by decide)] at q
          by_cases hji : j = i
          · subst hji
            rw [bf_bs] at q
            have z1 := nI_lane (by omega) (by omega) (h1.symm.trans q.2.1)
            have z2 := nI_lane (by omega) (by omega) q.2.2
            omega
          · rw [eo j hji] at q
            exact c2 j hj q
        · rw [c2]
          have hji : ¬ j = i := by
            intro hji
            subst hji
            have z1 := nI_lane (by omega) (by omega) (h1.symm.trans c4)
            have z2 := nI_lane (by omega) (by omega) (h2.symm.trans c5)
            omega
          exact cellB_at hu' (by rw [bn_bs]; exact c1) (by rw [ew j 7 (by decide) (by decide)]; exact c3) (by rw [ew j 1 (by decide) (by decide)]; exact c4) (by rw [eo j hji]; exact c5)
  · rw [if_neg (by omega), if_neg (by omega)]
    unfold cellsOf
    rw [if_neg hk, if_neg hk]
end ZK2
