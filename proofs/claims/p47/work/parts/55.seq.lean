section ZSQ
theorem pl_ind {y : Nat → Int32} {n0 q : Nat} {xs : Int32} : (plB y n0 q xs).1 = (plB y n0 q 0).1 ∧ (plB y n0 q xs).2.1 = (plB y n0 q 0).2.1 ∧ ((plB y n0 q 0).1 = true → plB y n0 q xs = plB y n0 q 0) := by
  unfold plB plB1
  by_cases h : (n1B y n0 q).1 = true
  · rw [if_pos h, if_pos h]; exact ⟨rfl, rfl, fun _ => rfl⟩
  · rw [if_neg h, if_neg h]; exact ⟨rfl, rfl, fun w => Bool.noConfusion w⟩
theorem sg_ind {K : Int32 → Prop} [DecidablePred K] {y : Nat → Int32} {n0 q : Nat} {z : Int32} : (sgB K y n0 q z).1 = (sgB K y n0 q 0).1 ∧ (sgB K y n0 q z).2.1 = (sgB K y n0 q 0).2.1 ∧ ((sgB K y n0 q 0).1 = true → sgB K y n0 q z = sgB K y n0 q 0) := by
  unfold sgB
  by_cases h : chAt y n0 q 32
  · rw [if_pos h, if_pos h]
    exact ⟨rfl, rfl, fun _ => rfl⟩
  · rw [if_neg h, if_neg h]; exact ⟨rfl, rfl, fun w => Bool.noConfusion w⟩
abbrev okC (y : Nat → Int32) (n0 p0 : Nat) : Prop := (comB y n0 p0 0 0 0 0).1 = true
abbrev enC (y : Nat → Int32) (n0 p0 : Nat) : Nat := (comB y n0 p0 0 0 0 0).2.1
abbrev kdC (y : Nat → Int32) (n0 p0 : Nat) : Int32 := (comB y n0 p0 0 0 0 0).2.2.1
abbrev fiC (y : Nat → Int32) (n0 p0 : Nat) : Int32 := (comB y n0 p0 0 0 0 0).2.2.2.1
abbrev seC (y : Nat → Int32) (n0 p0 : Nat) : Int32 := (comB y n0 p0 0 0 0 0).2.2.2.2.1
abbrev siC (y : Nat → Int32) (n0 p0 : Nat) : Int32 := (comB y n0 p0 0 0 0 0).2.2.2.2.2.1
abbrev nuC (y : Nat → Int32) (n0 p0 : Nat) : Int32 := (comB y n0 p0 0 0 0 0).2.2.2.2.2.2
/-- what the numbers before a command was read do to it: nothing that matters -/
def indP (r r0 : zC7) : Prop := r.1 = r0.1 ∧ r.2.1 = r0.2.1 ∧ (r0.1 = true → r.2.2.1 = r0.2.2.1 ∧ (r0.2.2.1 = 108 → r = r0) ∧ (r0.2.2.1 = 111 → r.2.2.2.2.2 = r0.2.2.2.2.2) ∧ (r0.2.2.1 = 114 → r.2.2.2.2.2.2 = r0.2.2.2.2.2.2))
theorem indP_f {p0 : Nat} {r r0 : zC7} (h1 : r.1 = false) (h2 : r0.1 = false) (h3 : r.2.1 = p0) (h4 : r0.2.1 = p0) : indP r r0 := ⟨h1.trans h2.symm, h3.trans h4.symm, fun q => by rw [h2] at q; exact Bool.noConfusion q⟩
theorem com_ind {y : Nat → Int32} {n0 p0 : Nat} {xf xs xc xv : Int32} : indP (comB y n0 p0 xf xs xc xv) (comB y n0 p0 0 0 0 0) := by
  unfold comB
  by_cases k1 : pkB y n0 p0 = 108
  · rw [if_pos k1, if_pos k1]
    unfold cmL1
    by_cases h1 : (wdB y n0 (sB 26) p0).1 = true
    · rw [if_pos h1, if_pos h1]
      obtain ⟨e1, e2, e3⟩ := pl_ind (y := y) (n0 := n0) (q := (wdB y n0 (sB 26) p0).2) (xs := xs)
      unfold cmL2
      by_cases h2 : (plB y n0 (wdB y n0 (sB 26) p0).2 0).1 = true
      · rw [if_pos (e1.trans h2), if_pos h2, e3 h2]
        obtain ⟨f1, f2, f3⟩ := sg_ind (K := kinO) (y := y) (n0 := n0) (q := (plB y n0 (wdB y n0 (sB 26) p0).2 0).2.1) (z := xc)
        unfold cmL3
        by_cases h3 : (sgB kinO y n0 (plB y n0 (wdB y n0 (sB 26) p0).2 0).2.1 0).1 = true
        · rw [if_pos (f1.trans h3), if_pos h3, f3 h3]
          exact ⟨rfl, rfl, fun _ => ⟨rfl, fun _ => rfl, fun _ => rfl, fun _ => rfl⟩⟩
        · rw [if_neg (fun w => h3 (f1.symm.trans w)), if_neg h3]
          exact indP_f rfl rfl f2 rfl
      · rw [if_neg (fun w => h2 (e1.symm.trans w)), if_neg h2]
        exact indP_f rfl rfl e2 rfl
    · rw [if_neg h1, if_neg h1]
      exact indP_f rfl rfl rfl rfl
  · rw [if_neg k1, if_neg k1]
    by_cases k2 : pkB y n0 p0 = 111
    · rw [if_pos k2, if_pos k2]
      unfold cmO1
      by_cases h1 : (wdB y n0 (sB 28) p0).1 = true
      · rw [if_pos h1, if_pos h1]
        unfold cmO2
        by_cases h2 : (nmB y n0 (wdB y n0 (sB 28) p0).2).1 = true
        · rw [if_pos h2, if_pos h2]
          obtain ⟨f1, f2, f3⟩ := sg_ind (K := ordO) (y := y) (n0 := n0) (q := (nmB y n0 (wdB y n0 (sB 28) p0).2).2.1) (z := xc)
          refine ⟨f1, f2, fun w => ⟨rfl, fun q => absurd q (show ¬ (111 : Int32) = 108 by decide), fun _ => ?_, fun q => absurd q (show ¬ (111 : Int32) = 114 by decide)⟩⟩
          show ((sgB ordO y n0 (nmB y n0 (wdB y n0 (sB 28) p0).2).2.1 xc).2.2, _) = _
          rw [f3 w]
          rfl
        · rw [if_neg h2, if_neg h2]
          exact indP_f rfl rfl rfl rfl
      · rw [if_neg h1, if_neg h1]
        exact indP_f rfl rfl rfl rfl
    · rw [if_neg k2, if_neg k2]
      by_cases k3 : pkB y n0 p0 = 114
      · rw [if_pos k3, if_pos k3]
        unfold cmR1
        by_cases h1 : (wdB y n0 (sB 30) p0).1 = true
        · rw [if_pos h1, if_pos h1]
          exact ⟨rfl, rfl, fun _ => ⟨rfl, fun q => absurd q (show ¬ (114 : Int32) = 108 by decide), fun q => absurd q (show ¬ (114 : Int32) = 111 by decide), fun _ => rfl⟩⟩
        · rw [if_neg h1, if_neg h1]
          exact indP_f rfl rfl rfl rfl
      · rw [if_neg k3, if_neg k3]
        exact ⟨rfl, rfl, fun _ => ⟨rfl, fun q => absurd q k1, fun q => absurd q k2, fun q => absurd q k3⟩⟩
/-- a word that is there is as long as it is -/
theorem wd_len {y : Nat → Int32} {n0 : Nat} : ∀ (w : List Int32) (p0 : Nat), (wdB y n0 w p0).1 = true → (wdB y n0 w p0).2 = p0 + w.length
  | [], p0, _ => rfl
  | z :: w, p0, h => by
    rw [wdB] at h ⊢
    by_cases q : chAt y n0 p0 z
    · rw [if_pos q] at h ⊢
      rw [wd_len w (p0 + 1) h, List.length_cons]; omega
    · rw [if_neg q] at h; exact Bool.noConfusion h
theorem enC_b {y : Nat → Int32} {n0 p0 : Nat} (hp : p0 ≤ n0) : enC y n0 p0 ≤ n0 ∧ (okC y n0 p0 → p0 + 4 ≤ enC y n0 p0) := by
  have L := fun i => wd_le (y := y) (n0 := n0) (sB i) p0 hp
  unfold okC enC comB
  by_cases k1 : pkB y n0 p0 = 108
  · rw [if_pos k1]
    unfold cmL1
    by_cases h1 : (wdB y n0 (sB 26) p0).1 = true
    · rw [if_pos h1]
      have e := wd_len _ _ h1
      have q1 := pl_le (y := y) (xs := 0) (L 26).2
      unfold cmL2
      by_cases h2 : (plB y n0 (wdB y n0 (sB 26) p0).2 0).1 = true
      · rw [if_pos h2]
        have q2 := sg_le (K := kinO) (y := y) (z0 := 0) q1.2
        unfold cmL3
        by_cases h3 : (sgB kinO y n0 (plB y n0 (wdB y n0 (sB 26) p0).2 0).2.1 0).1 = true
        · rw [if_pos h3]
          have q3 := nm_le (y := y) q2.2
          refine ⟨q3.2, fun _ => ?_⟩
          have e4 : (sB 26).length = 4 := rfl
          have := q1.1; have := q2.1; have := q3.1
          show p0 + 4 ≤ (nmB y n0 _).2.1
          omega
        · rw [if_neg h3]; exact ⟨q2.2, fun w => Bool.noConfusion w⟩
      · rw [if_neg h2]; exact ⟨q1.2, fun w => Bool.noConfusion w⟩
    · rw [if_neg h1]; exact ⟨(L 26).2, fun w => Bool.noConfusion w⟩
  · rw [if_neg k1]
    by_cases k2 : pkB y n0 p0 = 111
    · rw [if_pos k2]
      unfold cmO1
      by_cases h1 : (wdB y n0 (sB 28) p0).1 = true
      · rw [if_pos h1]
        have e := wd_len _ _ h1
        have q1 := nm_le (y := y) (L 28).2
        unfold cmO2
        by_cases h2 : (nmB y n0 (wdB y n0 (sB 28) p0).2).1 = true
        · rw [if_pos h2]
          have q2 := sg_le (K := ordO) (y := y) (z0 := 0) q1.2
          refine ⟨q2.2, fun _ => ?_⟩
          have e4 : (sB 28).length = 5 := rfl
          have := q1.1; have := q2.1
          show p0 + 4 ≤ (sgB ordO y n0 _ 0).2.1
          omega
        · rw [if_neg h2]; exact ⟨q1.2, fun w => Bool.noConfusion w⟩
      · rw [if_neg h1]; exact ⟨(L 28).2, fun w => Bool.noConfusion w⟩
    · rw [if_neg k2]
      by_cases k3 : pkB y n0 p0 = 114
      · rw [if_pos k3]
        unfold cmR1
        by_cases h1 : (wdB y n0 (sB 30) p0).1 = true
        · rw [if_pos h1]
          have e := wd_len _ _ h1
          have q1 := nm_le (y := y) (L 30).2
          refine ⟨q1.2, fun _ => ?_⟩
          have e4 : (sB 30).length = 5 := rfl
          have := q1.1
          show p0 + 4 ≤ (nmB y n0 _).2.1
          omega
        · rw [if_neg h1]; exact ⟨(L 30).2, fun w => Bool.noConfusion w⟩
      · rw [if_neg k3]
        refine ⟨(L 31).2, fun w => ?_⟩
        have e := wd_len _ _ (show (wdB y n0 (sB 31) p0).1 = true from w)
        have e4 : (sB 31).length = 4 := rfl
        show p0 + 4 ≤ (wdB y n0 (sB 31) p0).2
        omega
/-- where command j begins -/
def stB (y : Nat → Int32) (n0 : Nat) : Nat → Nat
  | 0 => 0
  | j + 1 => enC y n0 (stB y n0 j) + 1
/-- the first j are commands, and a ; behind each -/
def godN (y : Nat → Int32) (n0 j : Nat) : Prop := ∀ w, w < j → okC y n0 (stB y n0 w) ∧ chAt y n0 (enC y n0 (stB y n0 w)) 59
theorem stB_b {y : Nat → Int32} {n0 : Nat} : ∀ j, godN y n0 j → 5 * j ≤ stB y n0 j ∧ stB y n0 j ≤ n0
  | 0, _ => ⟨Nat.le_refl _, Nat.zero_le _⟩
  | j + 1, h => by
    have h1 := stB_b j (fun w hw => h w (Nat.lt_succ_of_lt hw))
    obtain ⟨q1, q2⟩ := h j (Nat.lt_succ_self j)
    have h2 := (enC_b (y := y) h1.2).2 q1
    have h3 := q2.1
    show 5 * (j + 1) ≤ enC y n0 (stB y n0 j) + 1 ∧ enC y n0 (stB y n0 j) + 1 ≤ n0
    omega
/-- how a text ends behind j good commands -/
def fitT (y : Nat → Int32) (n0 j : Nat) : Prop := okC y n0 (stB y n0 j) ∧ n0 ≤ enC y n0 (stB y n0 j)
def badT (y : Nat → Int32) (n0 j : Nat) : Prop := ¬ okC y n0 (stB y n0 j) ∨ (okC y n0 (stB y n0 j) ∧ enC y n0 (stB y n0 j) < n0 ∧ ¬ y (enC y n0 (stB y n0 j)) = 59)
theorem seq_ex (y : Nat → Int32) (n0 : Nat) : ∀ d j, godN y n0 j → n0 - stB y n0 j ≤ d → ∃ K, godN y n0 K ∧ (fitT y n0 K ∨ badT y n0 K) := by
  intro d
  induction d with
  | zero =>
    intro j hg hd
    refine ⟨j, hg, ?_⟩
    by_cases h1 : okC y n0 (stB y n0 j)
    · have h2 := (enC_b (y := y) (stB_b j hg).2).2 h1
      exact Or.inl ⟨h1, by omega⟩
    · exact Or.inr (Or.inl h1)
  | succ d ih =>
    intro j hg hd
    by_cases h1 : okC y n0 (stB y n0 j)
    · by_cases h2 : n0 ≤ enC y n0 (stB y n0 j)
      · exact ⟨j, hg, Or.inl ⟨h1, h2⟩⟩
      · by_cases h3 : y (enC y n0 (stB y n0 j)) = 59
        · have hg2 : godN y n0 (j + 1) := fun w hw => by
            rcases Nat.lt_succ_iff_lt_or_eq.mp hw with q | q
            · exact hg w q
            · rw [q]; exact ⟨h1, Nat.lt_of_not_le h2, h3⟩
          refine ih (j + 1) hg2 ?_
          have h4 := (enC_b (y := y) (stB_b j hg).2).2 h1
          show n0 - (enC y n0 (stB y n0 j) + 1) ≤ d
          omega
        · exact ⟨j, hg, Or.inr (Or.inr ⟨h1, Nat.lt_of_not_le h2, h3⟩)⟩
    · exact ⟨j, hg, Or.inr (Or.inl h1)⟩
theorem seq_K (y : Nat → Int32) (n0 : Nat) : ∃ K, godN y n0 K ∧ (fitT y n0 K ∨ badT y n0 K) := seq_ex y n0 n0 0 (fun w hw => absurd hw (Nat.not_lt_zero w)) (Nat.sub_le _ _)
/-- the values that the reference writes for a command -/
def cmO (C : Nat → Int32) (q : Nat) (r : zC7) : Prop := (r.2.2.1 = 108 → C q = 108 ∧ C (q + 1) = r.2.2.2.1 ∧ C (q + 2) = r.2.2.2.2.1 ∧ C (q + 3) = r.2.2.2.2.2.1 ∧ C (q + 4) = r.2.2.2.2.2.2) ∧ (r.2.2.1 = 111 → C q = 111 ∧ C (q + 1) = r.2.2.2.2.2.2 ∧ C (q + 2) = r.2.2.2.2.2.1) ∧ (r.2.2.1 = 114 → C q = 114 ∧ C (q + 1) = r.2.2.2.2.2.2) ∧ (¬ r.2.2.1 = 108 → ¬ r.2.2.1 = 111 → ¬ r.2.2.1 = 114 → ¬ C q = 108 ∧ ¬ C q = 111 ∧ ¬ C q = 114)
theorem upd_lt {a : Nat → Int32} {q w : Nat} {x : Int32} (h : w < q) : upd a q x w = a w := if_neg (by omega)
theorem upd_gt {a : Nat → Int32} {q w : Nat} {x : Int32} (h : q < w) : upd a q x w = a w := if_neg (by omega)
theorem c5_at (M : Nat → Int32) (q : Nat) (v0 v1 v2 v3 v4 : Int32) : let C := upd (upd (upd (upd (upd M q v0) (q + 1) v1) (q + 2) v2) (q + 3) v3) (q + 4) v4; C q = v0 ∧ C (q + 1) = v1 ∧ C (q + 2) = v2 ∧ C (q + 3) = v3 ∧ C (q + 4) = v4 := by
  refine ⟨?_, ?_, ?_, ?_, ?_⟩
  · rw [upd_lt (by omega), upd_lt (by omega), upd_lt (by omega), upd_lt (by omega)]; exact if_pos rfl
  · rw [upd_lt (by omega), upd_lt (by omega), upd_lt (by omega)]; exact if_pos rfl
  · rw [upd_lt (by omega), upd_lt (by omega)]; exact if_pos rfl
  · rw [upd_lt (by omega)]; exact if_pos rfl
  · exact if_pos rfl
theorem c3_at (M : Nat → Int32) (q : Nat) (v0 v1 v2 : Int32) : let C := upd (upd (upd M q v0) (q + 1) v1) (q + 2) v2; C q = v0 ∧ C (q + 1) = v1 ∧ C (q + 2) = v2 := by
  refine ⟨?_, ?_, ?_⟩
  · rw [upd_lt (by omega), upd_lt (by omega)]; exact if_pos rfl
  · rw [upd_lt (by omega)]; exact if_pos rfl
  · exact if_pos rfl
theorem c2_at (M : Nat → Int32) (q : Nat) (v0 v1 : Int32) : let C := upd (upd M q v0) (q + 1) v1; C q = v0 ∧ C (q + 1) = v1 := by
  refine ⟨?_, ?_⟩
  · rw [upd_lt (by omega)]; exact if_pos rfl
  · exact if_pos rfl
end ZSQ
