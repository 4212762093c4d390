section ZPT
/-- the sign c stands at p -/
abbrev chAt (y : Nat → Int32) (n0 p0 : Nat) (z : Int32) : Prop := p0 < n0 ∧ y p0 = z
/-- a digit stands at p -/
abbrev dgAt (y : Nat → Int32) (n0 p0 : Nat) : Prop := p0 < n0 ∧ 48 ≤ y p0 ∧ y p0 ≤ 57
def pkB (y : Nat → Int32) (n0 p0 : Nat) : Int32 := if p0 < n0 then y p0 else 0
/-- the signs are from 32 to 126 -/
abbrev txW (y : Nat → Int32) (n0 : Nat) : Prop := ∀ q, q < n0 → ∃ b : Nat, 32 ≤ b ∧ b < 127 ∧ y q = nI b
/-- a word from p on: whether it is there, and where the reading stops -/
def wdB (y : Nat → Int32) (n0 : Nat) : List Int32 → Nat → Bool × Nat
  | [], p0 => (true, p0)
  | z :: w, p0 => if chAt y n0 p0 z then wdB y n0 w (p0 + 1) else (false, p0)
/-- a blank and a digit -/
def n1B (y : Nat → Int32) (n0 p0 : Nat) : Bool × Nat × Int32 := if chAt y n0 p0 32 then (if dgAt y n0 (p0 + 1) then (true, p0 + 1 + 1, y (p0 + 1) - 48) else (false, p0 + 1, -1)) else (false, p0, -1)
/-- a blank and a number of one or two digits -/
def nmB (y : Nat → Int32) (n0 p0 : Nat) : Bool × Nat × Int32 := if chAt y n0 p0 32 then (if dgAt y n0 (p0 + 1) then (if dgAt y n0 (p0 + 1 + 1) then (true, p0 + 1 + 1 + 1, (y (p0 + 1) - 48) * 10 + (y (p0 + 1 + 1) - 48)) else (true, p0 + 1 + 1, y (p0 + 1) - 48)) else (false, p0 + 1, -1)) else (false, p0, -1)
/-- a blank and a sign of a kind -/
def sgB (K : Int32 → Prop) [DecidablePred K] (y : Nat → Int32) (n0 p0 : Nat) (z0 : Int32) : Bool × Nat × Int32 := if chAt y n0 p0 32 then (if p0 + 1 < n0 ∧ K (y (p0 + 1)) then (true, p0 + 1 + 1, y (p0 + 1)) else (false, p0 + 1, pkB y n0 (p0 + 1))) else (false, p0, z0)
/-- two numbers of a digit each -/
def plB2 (b : Bool × Nat × Int32) (v : Int32) : Bool × Nat × Int32 × Int32 := (b.1, b.2.1, v, b.2.2)
def plB1 (y : Nat → Int32) (n0 : Nat) (a : Bool × Nat × Int32) (xs : Int32) : Bool × Nat × Int32 × Int32 := if a.1 = true then plB2 (n1B y n0 a.2.1) a.2.2 else (false, a.2.1, a.2.2, xs)
def plB (y : Nat → Int32) (n0 p0 : Nat) (xs : Int32) : Bool × Nat × Int32 × Int32 := plB1 y n0 (n1B y n0 p0) xs
theorem plB1_f {y : Nat → Int32} {n0 q : Nat} {v xs : Int32} : plB1 y n0 (false, q, v) xs = (false, q, v, xs) := rfl
theorem plB1_t {y : Nat → Int32} {n0 q : Nat} {v xs : Int32} : plB1 y n0 (true, q, v) xs = plB2 (n1B y n0 q) v := rfl
theorem n1_c (y : Nat → Int32) (n0 p0 : Nat) : (¬ chAt y n0 p0 32 ∧ n1B y n0 p0 = (false, p0, -1)) ∨ (chAt y n0 p0 32 ∧ ¬ dgAt y n0 (p0 + 1) ∧ n1B y n0 p0 = (false, p0 + 1, -1)) ∨ (chAt y n0 p0 32 ∧ dgAt y n0 (p0 + 1) ∧ n1B y n0 p0 = (true, p0 + 1 + 1, y (p0 + 1) - 48)) := by
  by_cases h1 : chAt y n0 p0 32
  · by_cases h2 : dgAt y n0 (p0 + 1)
    · exact Or.inr (Or.inr ⟨h1, h2, by rw [n1B, if_pos h1, if_pos h2]⟩)
    · exact Or.inr (Or.inl ⟨h1, h2, by rw [n1B, if_pos h1, if_neg h2]⟩)
  · exact Or.inl ⟨h1, by rw [n1B, if_neg h1]⟩
theorem nm_c (y : Nat → Int32) (n0 p0 : Nat) : (¬ chAt y n0 p0 32 ∧ nmB y n0 p0 = (false, p0, -1)) ∨ (chAt y n0 p0 32 ∧ ¬ dgAt y n0 (p0 + 1) ∧ nmB y n0 p0 = (false, p0 + 1, -1)) ∨ (chAt y n0 p0 32 ∧ dgAt y n0 (p0 + 1) ∧ ¬ dgAt y n0 (p0 + 1 + 1) ∧ nmB y n0 p0 = (true, p0 + 1 + 1, y (p0 + 1) - 48)) ∨ (chAt y n0 p0 32 ∧ dgAt y n0 (p0 + 1) ∧ dgAt y n0 (p0 + 1 + 1) ∧ nmB y n0 p0 = (true, p0 + 1 + 1 + 1, (y (p0 + 1) - 48) * 10 + (y (p0 + 1 + 1) - 48))) := by
  by_cases h1 : chAt y n0 p0 32
  · by_cases h2 : dgAt y n0 (p0 + 1)
    · by_cases h3 : dgAt y n0 (p0 + 1 + 1)
      · exact Or.inr (Or.inr (Or.inr ⟨h1, h2, h3, by rw [nmB, if_pos h1, if_pos h2, if_pos h3]⟩))
      · exact Or.inr (Or.inr (Or.inl ⟨h1, h2, h3, by rw [nmB, if_pos h1, if_pos h2, if_neg h3]⟩))
    · exact Or.inr (Or.inl ⟨h1, h2, by rw [nmB, if_pos h1, if_neg h2]⟩)
  · exact Or.inl ⟨h1, by rw [nmB, if_neg h1]⟩
theorem sg_c (K : Int32 → Prop) [DecidablePred K] (y : Nat → Int32) (n0 p0 : Nat) (z0 : Int32) : (¬ chAt y n0 p0 32 ∧ sgB K y n0 p0 z0 = (false, p0, z0)) ∨ (chAt y n0 p0 32 ∧ ¬ (p0 + 1 < n0 ∧ K (y (p0 + 1))) ∧ sgB K y n0 p0 z0 = (false, p0 + 1, pkB y n0 (p0 + 1))) ∨ (chAt y n0 p0 32 ∧ (p0 + 1 < n0 ∧ K (y (p0 + 1))) ∧ sgB K y n0 p0 z0 = (true, p0 + 1 + 1, y (p0 + 1))) := by
  by_cases h1 : chAt y n0 p0 32
  · by_cases h2 : p0 + 1 < n0 ∧ K (y (p0 + 1))
    · exact Or.inr (Or.inr ⟨h1, h2, by rw [sgB, if_pos h1, if_pos h2]⟩)
    · exact Or.inr (Or.inl ⟨h1, h2, by rw [sgB, if_pos h1, if_neg h2]⟩)
  · exact Or.inl ⟨h1, by rw [sgB, if_neg h1]⟩
theorem pkB_in {y : Nat → Int32} {n0 p0 : Nat} (h : p0 < n0) : pkB y n0 p0 = y p0 := if_pos h
theorem pkB_out {y : Nat → Int32} {n0 p0 : Nat} (h : ¬ p0 < n0) : pkB y n0 p0 = 0 := if_neg h
theorem pk_yes {y : Nat → Int32} {n0 p0 : Nat} {z : Int32} (h : chAt y n0 p0 z) : pkB y n0 p0 = z := (pkB_in h.1).trans h.2
theorem pk_no {y : Nat → Int32} {n0 p0 : Nat} {z : Int32} (h : ¬ chAt y n0 p0 z) (hz : ¬ z = 0) : ¬ pkB y n0 p0 = z := fun q => by
  by_cases w : p0 < n0
  · rw [pkB_in w] at q; exact h ⟨w, q⟩
  · rw [pkB_out w] at q; exact hz q.symm
theorem pk_at {y : Nat → Int32} {n0 p0 : Nat} {z : Int32} (h : pkB y n0 p0 = z) (hz : ¬ z = 0) : chAt y n0 p0 z := Classical.byContradiction (fun q => pk_no q hz h)
theorem tx_b {y : Nat → Int32} {n0 p0 : Nat} (hy : txW y n0) : ∃ b : Nat, b < 127 ∧ pkB y n0 p0 = nI b := by
  by_cases w : p0 < n0
  · obtain ⟨b, -, h2, h3⟩ := hy p0 w
    exact ⟨b, h2, (pkB_in w).trans h3⟩
  · exact ⟨0, by decide, pkB_out w⟩
theorem pk_nar {y : Nat → Int32} {n0 p0 : Nat} (hy : txW y n0) : narrow .char (.int (pkB y n0 p0)) = .int (pkB y n0 p0) := by
  obtain ⟨b, h1, h2⟩ := tx_b (p0 := p0) hy
  rw [h2]; exact (pk_charN (by omega)).1
theorem pk_fit {y : Nat → Int32} {n0 p0 : Nat} (hy : txW y n0) : fits .char (.int (pkB y n0 p0)) = true := by
  obtain ⟨b, h1, h2⟩ := tx_b (p0 := p0) hy
  rw [h2]; exact (pk_charN (by omega)).2
theorem y_nar {y : Nat → Int32} {n0 p0 : Nat} (hy : txW y n0) (h : p0 < n0) : narrow .char (.int (y p0)) = .int (y p0) := by
  have q := pk_nar (p0 := p0) hy
  rw [pkB_in h] at q; exact q
theorem y_fit {y : Nat → Int32} {n0 p0 : Nat} (hy : txW y n0) (h : p0 < n0) : fits .char (.int (y p0)) = true := by
  have q := pk_fit (p0 := p0) hy
  rw [pkB_in h] at q; exact q
theorem y_ne0 {y : Nat → Int32} {n0 p0 : Nat} (hy : txW y n0) (h : p0 < n0) : ¬ y p0 = 0 := by
  obtain ⟨b, h1, h2, h3⟩ := hy p0 h
  rw [h3]; exact nI_ne0 (by omega) (by omega)
/-- a digit's value -/
theorem dg_v {y : Nat → Int32} {n0 p0 : Nat} (h : dgAt y n0 p0) : ∃ a : Nat, a < 10 ∧ y p0 - 48 = nI a := by
  obtain ⟨j, hj, e⟩ := nI_of (x := y p0) (fun q => absurd (Int32.le_trans h.2.1 (Int32.le_of_lt q)) (by decide))
  have h1 := h.2.1
  have h2 := h.2.2
  rw [e] at h1 h2
  have a1 : 48 ≤ j := (nI_leI (a := 48) (by decide) hj).mp h1
  have a2 : j ≤ 57 := (nI_leI (b := 57) hj (by decide)).mp h2
  exact ⟨j - 48, by omega, by rw [e, show (48 : Int32) = nI 48 from rfl, pk_sub a1]⟩
theorem dg_ne {y : Nat → Int32} {n0 p0 : Nat} (h : dgAt y n0 p0) : ¬ y p0 - 48 = -1 := by
  obtain ⟨a, h1, h2⟩ := dg_v h
  rw [h2]; exact nI_ne_m1 (by omega)
theorem sg_n {K : Int32 → Prop} {y : Nat → Int32} {n0 p0 : Nat} (h0 : ¬ K 0) (h : ¬ (p0 < n0 ∧ K (y p0))) : ¬ K (pkB y n0 p0) := fun q => by
  by_cases w : p0 < n0
  · rw [pkB_in w] at q; exact h ⟨w, q⟩
  · rw [pkB_out w] at q; exact h0 q
theorem sB_nz : ∀ i, i < 45 → ∀ b ∈ sB i, ¬ b = 0 := by decide +kernel
theorem sBa_nz {i j : Nat} (hi : i < 45) (hj : j < (sB i).length) : ¬ sBa i j = 0 := by
  refine sB_nz i hi _ ?_
  rw [sBa, List.getD_eq_getElem?_getD, List.getElem?_eq_getElem hj]
  exact List.getElem_mem hj
theorem wd_step {y : Nat → Int32} {n0 p0 i j : Nat} (hj : j < (sB i).length) : wdB y n0 ((sB i).drop j) p0 = if chAt y n0 p0 (sBa i j) then wdB y n0 ((sB i).drop (j + 1)) (p0 + 1) else (false, p0) := by
  have e : sBa i j = (sB i)[j] := by rw [sBa, List.getD_eq_getElem?_getD, List.getElem?_eq_getElem hj]; rfl
  rw [List.drop_eq_getElem_cons hj, wdB, e]
theorem wd_end {y : Nat → Int32} {n0 p0 i : Nat} : wdB y n0 ((sB i).drop (sB i).length) p0 = (true, p0) := by rw [List.drop_length]; rfl
/-- the reading never passes the end -/
theorem wd_le {y : Nat → Int32} {n0 : Nat} : ∀ (w : List Int32) (p0 : Nat), p0 ≤ n0 → p0 ≤ (wdB y n0 w p0).2 ∧ (wdB y n0 w p0).2 ≤ n0
  | [], p0, h => ⟨Nat.le_refl _, h⟩
  | z :: w, p0, h => by
    rw [wdB]
    by_cases q : chAt y n0 p0 z
    · rw [if_pos q]
      have := wd_le (y := y) w (p0 + 1) q.1
      exact ⟨by omega, this.2⟩
    · rw [if_neg q]; exact ⟨Nat.le_refl _, h⟩
theorem n1_le {y : Nat → Int32} {n0 p0 : Nat} (h : p0 ≤ n0) : p0 ≤ (n1B y n0 p0).2.1 ∧ (n1B y n0 p0).2.1 ≤ n0 := by
  rcases n1_c y n0 p0 with ⟨-, e⟩ | ⟨h1, -, e⟩ | ⟨-, h2, e⟩
  · rw [e]; exact ⟨Nat.le_refl _, h⟩
  · rw [e]; exact ⟨Nat.le_succ _, h1.1⟩
  · rw [e]; exact ⟨show p0 ≤ p0 + 1 + 1 by omega, h2.1⟩
theorem nm_le {y : Nat → Int32} {n0 p0 : Nat} (h : p0 ≤ n0) : p0 ≤ (nmB y n0 p0).2.1 ∧ (nmB y n0 p0).2.1 ≤ n0 := by
  rcases nm_c y n0 p0 with ⟨-, e⟩ | ⟨h1, -, e⟩ | ⟨-, h2, -, e⟩ | ⟨-, -, h3, e⟩
  · rw [e]; exact ⟨Nat.le_refl _, h⟩
  · rw [e]; exact ⟨Nat.le_succ _, h1.1⟩
  · rw [e]; exact ⟨show p0 ≤ p0 + 1 + 1 by omega, h2.1⟩
  · rw [e]; exact ⟨show p0 ≤ p0 + 1 + 1 + 1 by omega, h3.1⟩
theorem sg_le {K : Int32 → Prop} [DecidablePred K] {y : Nat → Int32} {n0 p0 : Nat} {z0 : Int32} (h : p0 ≤ n0) : p0 ≤ (sgB K y n0 p0 z0).2.1 ∧ (sgB K y n0 p0 z0).2.1 ≤ n0 := by
  rcases sg_c K y n0 p0 z0 with ⟨-, e⟩ | ⟨h1, -, e⟩ | ⟨-, h2, e⟩
  · rw [e]; exact ⟨Nat.le_refl _, h⟩
  · rw [e]; exact ⟨Nat.le_succ _, h1.1⟩
  · rw [e]; exact ⟨show p0 ≤ p0 + 1 + 1 by omega, h2.1⟩
theorem pl_le {y : Nat → Int32} {n0 p0 : Nat} {xs : Int32} (h : p0 ≤ n0) : p0 ≤ (plB y n0 p0 xs).2.1 ∧ (plB y n0 p0 xs).2.1 ≤ n0 := by
  have h1 := n1_le (y := y) h
  rw [plB, plB1]
  by_cases q : (n1B y n0 p0).1 = true
  · rw [if_pos q]
    have h2 := n1_le (y := y) h1.2
    exact ⟨Nat.le_trans h1.1 h2.1, h2.2⟩
  · rw [if_neg q]; exact h1
/-- the text's numbers: length, position, initial, first, second, sign, number -/
def xT (n0 p0 : Nat) (xi xf xs xc xv : Int32) : Nat → Int32
  | 0 => nI n0
  | 1 => nI p0
  | 2 => xi
  | 3 => xf
  | 4 => xs
  | 5 => xc
  | 6 => xv
  | _ => 0
theorem xT_0 {n0 p0 : Nat} {xi xf xs xc xv : Int32} {q : Nat} : upd (xT n0 p0 xi xf xs xc xv) 0 (nI q) = xT q p0 xi xf xs xc xv := by
  funext w
  unfold upd
  by_cases h : w = 0
  · subst h; rfl
  · rw [if_neg h]
    match w, h with
    | 0, h => exact absurd rfl h
    | 1, _ => rfl
    | 2, _ => rfl
    | 3, _ => rfl
    | 4, _ => rfl
    | 5, _ => rfl
    | 6, _ => rfl
    | _ + 7, _ => rfl
theorem xT_1 {n0 p0 : Nat} {xi xf xs xc xv : Int32} {q : Nat} : upd (xT n0 p0 xi xf xs xc xv) 1 (nI q) = xT n0 q xi xf xs xc xv := by
  funext w
  unfold upd
  by_cases h : w = 1
  · subst h; rfl
  · rw [if_neg h]
    match w, h with
    | 0, _ => rfl
    | 1, h => exact absurd rfl h
    | 2, _ => rfl
    | 3, _ => rfl
    | 4, _ => rfl
    | 5, _ => rfl
    | 6, _ => rfl
    | _ + 7, _ => rfl
theorem xT_2 {n0 p0 : Nat} {xi xf xs xc xv : Int32} {z : Int32} : upd (xT n0 p0 xi xf xs xc xv) 2 z = xT n0 p0 z xf xs xc xv := by
  funext w
  unfold upd
  by_cases h : w = 2
  · subst h; rfl
  · rw [if_neg h]
    match w, h with
    | 0, _ => rfl
    | 1, _ => rfl
    | 2, h => exact absurd rfl h
    | 3, _ => rfl
    | 4, _ => rfl
    | 5, _ => rfl
    | 6, _ => rfl
    | _ + 7, _ => rfl
theorem xT_3 {n0 p0 : Nat} {xi xf xs xc xv : Int32} {z : Int32} : upd (xT n0 p0 xi xf xs xc xv) 3 z = xT n0 p0 xi z xs xc xv := by
  funext w
  unfold upd
  by_cases h : w = 3
  · subst h; rfl
  · rw [if_neg h]
    match w, h with
    | 0, _ => rfl
    | 1, _ => rfl
    | 2, _ => rfl
    | 3, h => exact absurd rfl h
    | 4, _ => rfl
    | 5, _ => rfl
    | 6, _ => rfl
    | _ + 7, _ => rfl
theorem xT_4 {n0 p0 : Nat} {xi xf xs xc xv : Int32} {z : Int32} : upd (xT n0 p0 xi xf xs xc xv) 4 z = xT n0 p0 xi xf z xc xv := by
  funext w
  unfold upd
  by_cases h : w = 4
  · subst h; rfl
  · rw [if_neg h]
    match w, h with
    | 0, _ => rfl
    | 1, _ => rfl
    | 2, _ => rfl
    | 3, _ => rfl
    | 4, h => exact absurd rfl h
    | 5, _ => rfl
    | 6, _ => rfl
    | _ + 7, _ => rfl
theorem xT_5 {n0 p0 : Nat} {xi xf xs xc xv : Int32} {z : Int32} : upd (xT n0 p0 xi xf xs xc xv) 5 z = xT n0 p0 xi xf xs z xv := by
  funext w
  unfold upd
  by_cases h : w = 5
  · subst h; rfl
  · rw [if_neg h]
    match w, h with
    | 0, _ => rfl
    | 1, _ => rfl
    | 2, _ => rfl
    | 3, _ => rfl
    | 4, _ => rfl
    | 5, h => exact absurd rfl h
    | 6, _ => rfl
    | _ + 7, _ => rfl
theorem xT_6 {n0 p0 : Nat} {xi xf xs xc xv : Int32} {z : Int32} : upd (xT n0 p0 xi xf xs xc xv) 6 z = xT n0 p0 xi xf xs xc z := by
  funext w
  unfold upd
  by_cases h : w = 6
  · subst h; rfl
  · rw [if_neg h]
    match w, h with
    | 0, _ => rfl
    | 1, _ => rfl
    | 2, _ => rfl
    | 3, _ => rfl
    | 4, _ => rfl
    | 5, _ => rfl
    | 6, h => exact absurd rfl h
    | _ + 7, _ => rfl
end ZPT
