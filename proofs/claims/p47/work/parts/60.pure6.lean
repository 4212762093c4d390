section ZP6
/-! counts -/
theorem sm_01 {f : Nat → Int32} : ∀ n, (∀ k, k < n → f k = 0 ∨ f k = 1) → ∃ q, q ≤ n ∧ sm f n = nI q
  | 0, _ => ⟨0, Nat.le_refl _, rfl⟩
  | n + 1, h => by
    obtain ⟨q, h1, h2⟩ := sm_01 n (fun k hk => h k (by omega))
    rw [sm, h2]
    rcases h n (by omega) with e | e
    · rw [e]; exact ⟨q, by omega, Int32.add_zero _⟩
    · rw [e]; exact ⟨q + 1, by omega, nI_1 q⟩
theorem sm_20 {f : Nat → Int32} : ∀ n, (∀ k, k < n → ∃ a, a ≤ 20 ∧ f k = nI a) → ∃ q, q ≤ 20 * n ∧ sm f n = nI q
  | 0, _ => ⟨0, Nat.le_refl _, rfl⟩
  | n + 1, h => by
    obtain ⟨q, h1, h2⟩ := sm_20 n (fun k hk => h k (by omega))
    obtain ⟨a, h3, h4⟩ := h n (by omega)
    rw [sm, h2, h4, nI_add]
    exact ⟨q + a, by omega, rfl⟩
theorem sm_1 : ∀ n, sm (fun _ => 1) n = nI n
  | 0 => rfl
  | n + 1 => by rw [sm, sm_1 n]; exact nI_1 n
theorem ali_sum {g : zB} (h : batI g) : aliB g + falB g 0 + falB g 1 = nI (bn g) := by
  unfold aliB falB
  rw [← sm_add, ← sm_add, ← sm_1 (bn g)]
  refine sm_ext (fun k hk => ?_)
  unfold aliF falF
  rcases (h.1.2.2.1 k hk).1 with e | e
  · by_cases q : bf g k 7 = 2
    · rw [if_pos q, if_pos ⟨e, q⟩, if_neg (fun w => absurd (e.symm.trans w.1) (by decide))]; decide
    · rw [if_neg q, if_neg (fun w => q w.2), if_neg (fun w => q w.2)]; decide
  · by_cases q : bf g k 7 = 2
    · rw [if_pos q, if_neg (fun w => absurd (e.symm.trans w.1) (by decide)), if_pos ⟨e, q⟩]; decide
    · rw [if_neg q, if_neg (fun w => q w.2), if_neg (fun w => q w.2)]; decide
theorem ali_eq {g : zB} (h : batI g) : g 0 - falB g 0 - falB g 1 = aliB g := by
  rw [h.1.1.2, ← ali_sum h, Int32.add_assoc, Int32.add_comm (falB g 0), ← Int32.add_assoc, Int32.add_sub_cancel, Int32.add_sub_cancel]
theorem ali_of {g : zB} (h : batI g) : ∃ q, q ≤ 12 ∧ aliB g = nI q := by
  obtain ⟨q, h1, h2⟩ := sm_01 (f := aliF g) (bn g) (fun k _ => by
    unfold aliF
    by_cases q : bf g k 7 = 2
    · rw [if_pos q]; exact Or.inl rfl
    · rw [if_neg q]; exact Or.inr rfl)
  have := h.1.1.1
  exact ⟨q, by omega, h2⟩
theorem sta_of {g : zB} (h : batI g) : ∃ q, q ≤ 12 ∧ staB g = nI q := by
  obtain ⟨q, h1, h2⟩ := sm_01 (f := staF g) (bn g) (fun k _ => by
    unfold staF
    by_cases q : bf g k 7 = 0
    · rw [if_pos q]; exact Or.inr rfl
    · rw [if_neg q]; exact Or.inl rfl)
  have := h.1.1.1
  exact ⟨q, by omega, h2⟩
theorem mor_of {g : zB} (h : batI g) : ∃ q, q ≤ 240 ∧ morB g = nI q := by
  obtain ⟨q, h1, h2⟩ := sm_20 (f := morF g) (bn g) (fun k hk => by
    unfold morF
    by_cases q : bf g k 7 = 2
    · rw [if_pos q]; exact ⟨0, by omega, rfl⟩
    · rw [if_neg q]; exact (h.1.2.2.1 k hk).2.2.2.2.2.1)
  have := h.1.1.1
  exact ⟨q, by omega, h2⟩
/-! quotients of small numbers are numbers -/
theorem dd_nan : ∀ a, a < 241 → ∀ b, b < 13 → 0 < b → FP.ddiv (FP.i2d (nI a)) (FP.i2d (nI b)) &&& 0x7fffffffffffffff ≤ 0x7ff0000000000000 := by decide +kernel
theorem dd_cmp : ∀ a, a < 241 → ∀ b, b < 13 → 0 < b → FP.cmpInt (-1) (FP.dcmp (FP.ddiv (FP.i2d (nI a)) (FP.i2d (nI b))) (FP.ddiv (FP.i2d (nI a)) (FP.i2d (nI b)))) = 0 := by decide +kernel
theorem ff_nan : ∀ a, a < 13 → ∀ b, b < 13 → 0 < b → FP.fdiv (FP.i2f (nI a)) (FP.i2f (nI b)) &&& 0x7fffffff ≤ 0x7f800000 := by decide +kernel
theorem fd_nan : ∀ a, a < 13 → ∀ b, b < 13 → 0 < b → FP.f2d (FP.fdiv (FP.i2f (nI a)) (FP.i2f (nI b))) &&& 0x7fffffffffffffff ≤ 0x7ff0000000000000 := by decide +kernel
theorem fd_cmp : ∀ a, a < 13 → ∀ b, b < 13 → 0 < b → FP.cmpInt (-1) (FP.dcmp (FP.f2d (FP.fdiv (FP.i2f (nI a)) (FP.i2f (nI b)))) (FP.f2d (FP.fdiv (FP.i2f (nI a)) (FP.i2f (nI b))))) = 0 := by decide +kernel
/-! pigeons -/
theorem php : ∀ (n : Nat) (f : Nat → Nat), (∀ i, i < n + 1 → f i < n) → ∃ i j, i < j ∧ j < n + 1 ∧ f i = f j := by
  intro n
  induction n with
  | zero => intro f h; exact absurd (h 0 (by omega)) (by omega)
  | succ n ih =>
    intro f h
    by_cases hc : ∃ i, i < n + 1 ∧ f i = f (n + 1)
    · obtain ⟨i, h1, h2⟩ := hc
      exact ⟨i, n + 1, h1, by omega, h2⟩
    · have hc' : ∀ i, i < n + 1 → ¬ f i = f (n + 1) := fun i hi e => hc ⟨i, hi, e⟩
      obtain ⟨i, j, h1, h2, h3⟩ := ih (fun i => if f i = n then f (n + 1) else f i) (fun i hi => by
        have q1 := h i (by omega)
        have q2 := h (n + 1) (by omega)
        have q3 := hc' i hi
        by_cases q : f i = n
        · simp only [q, if_true]; omega
        · simp only [q, if_false]; omega)
      have qi := hc' i (by omega)
      have qj := hc' j (by omega)
      by_cases ei : f i = n
      · by_cases ej : f j = n
        · exact ⟨i, j, h1, by omega, ei.trans ej.symm⟩
        · simp only [ei, ej, if_true, if_false] at h3
          exact absurd h3.symm qj
      · by_cases ej : f j = n
        · simp only [ei, ej, if_true, if_false] at h3
          exact absurd h3 qi
        · simp only [ei, ej, if_false] at h3
          exact ⟨i, j, h1, by omega, h3⟩
theorem php_onto {n : Nat} {f : Nat → Nat} (h : ∀ i, i < n → f i < n) (hi : ∀ i j, i < j → j < n → ¬ f i = f j) {r : Nat} (hr : r < n) : ∃ i, i < n ∧ f i = r := by
  apply Classical.byContradiction
  intro hc
  have hc' : ∀ i, i < n → ¬ f i = r := fun i hi e => hc ⟨i, hi, e⟩
  obtain ⟨m, rfl⟩ : ∃ m, n = m + 1 := ⟨n - 1, by omega⟩
  obtain ⟨i, j, h1, h2, h3⟩ := php m (fun i => if r < f i then f i - 1 else f i) (fun i hi => by
    have q1 := h i hi
    have q2 := hc' i hi
    by_cases q : r < f i
    · simp only [q, if_true]; omega
    · simp only [q, if_false]; omega)
  have q1 := hc' i (by omega)
  have q2 := hc' j h2
  have q3 := hi i j h1 h2
  by_cases ei : r < f i
  · by_cases ej : r < f j
    · simp only [ei, ej, if_true] at h3; omega
    · simp only [ei, ej, if_true, if_false] at h3; omega
  · by_cases ej : r < f j
    · simp only [ei, ej, if_true, if_false] at h3; omega
    · simp only [ei, ej, if_false] at h3; omega
/-- how many below n -/
def cnN (P : Nat → Prop) [DecidablePred P] : Nat → Nat
  | 0 => 0
  | n + 1 => cnN P n + (if P n then 1 else 0)
theorem cn_le {P Q : Nat → Prop} [DecidablePred P] [DecidablePred Q] : ∀ n, (∀ k, k < n → P k → Q k) → cnN P n ≤ cnN Q n
  | 0, _ => Nat.le_refl _
  | n + 1, h => by
    have h1 := cn_le n (fun k hk => h k (by omega))
    have h2 := h n (by omega)
    rw [cnN, cnN]
    by_cases p : P n
    · rw [if_pos p, if_pos (h2 p)]; omega
    · rw [if_neg p]; omega
theorem cn_lt {P Q : Nat → Prop} [DecidablePred P] [DecidablePred Q] {j : Nat} (hq : Q j) (hp : ¬ P j) : ∀ n, (∀ k, k < n → P k → Q k) → j < n → cnN P n < cnN Q n
  | 0, _, hj => absurd hj (Nat.not_lt_zero j)
  | n + 1, h, hj => by
    rw [cnN, cnN]
    by_cases e : j = n
    · have h1 := cn_le n (fun k hk => h k (by omega))
      subst e
      rw [if_neg hp, if_pos hq]; omega
    · have h1 := cn_lt hq hp n (fun k hk => h k (by omega)) (by omega)
      have h2 := h n (by omega)
      by_cases p : P n
      · rw [if_pos p, if_pos (h2 p)]; omega
      · rw [if_neg p]; omega
theorem cn_all {P : Nat → Prop} [DecidablePred P] : ∀ n, cnN P n ≤ n
  | 0 => Nat.le_refl _
  | n + 1 => by
    have h1 := cn_all (P := P) n
    rw [cnN]
    by_cases p : P n
    · rw [if_pos p]; omega
    · rw [if_neg p]; omega
theorem cn_sm {P : Nat → Prop} [DecidablePred P] : ∀ n, sm (fun k => if P k then (1 : Int32) else 0) n = nI (cnN P n)
  | 0 => rfl
  | n + 1 => by
    rw [sm, cn_sm n, cnN]
    by_cases p : P n
    · rw [if_pos p, if_pos p]; exact nI_1 _
    · rw [if_neg p, if_neg p]; exact Int32.add_zero _
/-! ranks -/
def skN (g : zB) (i : Nat) : Nat := (bf g i 4).toNatClampNeg
abbrev tpN (g : zB) (i k : Nat) : Prop := skN g i < skN g k ∨ (skN g k = skN g i ∧ k < i)
theorem sk_of {g : zB} (h : batI g) {i : Nat} (hi : i < bn g) : skN g i ≤ 99 ∧ bf g i 4 = nI (skN g i) := by
  obtain ⟨a, h1, h2⟩ := (h.1.2.2.1 i hi).2.2.2.2.1
  have e : skN g i = a := by unfold skN; rw [h2]; exact nI_clamp (by omega)
  exact ⟨by omega, by rw [e]; exact h2⟩
theorem tp_iff {g : zB} (h : batI g) {i k : Nat} (hi : i < bn g) (hk : k < bn g) : topB g i k ↔ tpN g i k := by
  obtain ⟨a1, a2⟩ := sk_of h hi
  obtain ⟨b1, b2⟩ := sk_of h hk
  have h12 := h.1.1.1
  unfold topB
  rw [a2, b2, nI_ltI (by omega) (by omega), nI_eq (by omega) (by omega), nI_ltI (by omega) (by omega)]
def rkN (g : zB) (i : Nat) : Nat := cnN (tpN g i) (bn g)
theorem rk_eq {g : zB} (h : batI g) {i : Nat} (hi : i < bn g) : rankB g i = nI (rkN g i) := by
  unfold rankB rkN
  rw [← cn_sm]
  refine sm_ext (fun k hk => ?_)
  unfold topF
  by_cases q : topB g i k
  · rw [if_pos q, if_pos ((tp_iff h hi hk).mp q)]
  · rw [if_neg q, if_neg (fun w => q ((tp_iff h hi hk).mpr w))]
theorem rk_lt {g : zB} {i : Nat} (hi : i < bn g) : rkN g i < bn g := by
  have h1 : cnN (tpN g i) (bn g) < cnN (fun _ => True) (bn g) := cn_lt (j := i) trivial (by unfold tpN; omega) (bn g) (fun _ _ _ => trivial) hi
  exact Nat.lt_of_lt_of_le h1 (cn_all _)
theorem rk_inj {g : zB} {i j : Nat} (hij : i < j) (hj : j < bn g) : ¬ rkN g i = rkN g j := by
  have key : ∀ i j, i < bn g → j < bn g → tpN g i j → rkN g j < rkN g i := by
    intro i j hi hj ht
    exact cn_lt (j := j) ht (by unfold tpN; omega) (bn g) (fun k _ q => by unfold tpN at *; omega) hj
  intro e
  have ht : tpN g i j ∨ tpN g j i := by unfold tpN; omega
  rcases ht with q | q
  · have := key i j (by omega) hj q; omega
  · have := key j i hj (by omega) q; omega
/-- each rank has its line, and one only -/
theorem rk_yes {g : zB} (h : batI g) {r : Nat} (hr : r < bn g) : ∃ i, i < bn g ∧ rankB g i = nI r ∧ ∀ j, j < bn g → ¬ j = i → ¬ rankB g j = nI r := by
  obtain ⟨i, h1, h2⟩ := php_onto (n := bn g) (f := rkN g) (fun i hi => rk_lt hi) (fun i j h1 h2 => rk_inj h1 h2) hr
  have h12 := h.1.1.1
  refine ⟨i, h1, by rw [rk_eq h h1, h2], fun j hj hne e => ?_⟩
  rw [rk_eq h hj] at e
  have q := rk_lt hj
  have e2 : rkN g j = r := (nI_eq (by omega) (by omega)).mp e
  rcases Nat.lt_or_gt_of_ne hne with w | w
  · exact rk_inj w h1 (e2.trans h2.symm)
  · exact rk_inj w hj (h2.trans e2.symm)
theorem rk_no {g : zB} (h : batI g) {x : Int32} (hx : ¬ (0 ≤ x ∧ x ≤ g 0 - 1)) : ∀ j, j < bn g → ¬ rankB g j = x := fun j hj e => hx (by
  rw [← e, rk_eq h hj]
  exact isl_in h.1.1 (rk_lt hj))
/-! a lane's text: its length and its signs after some columns -/
def ltB (g : zB) (i : Nat) : Int32 := if bf g i 0 = 0 then bf g i 3 else bf g i 3 - 32
def lnS (g : zB) (a : Nat) (W0 : Nat → Int32) : Nat → Nat × (Nat → Int32)
  | 0 => (0, W0)
  | k + 1 => if cellB g (nI a) (nI k) < 0 then ((lnS g a W0 k).1 + 1, upd (lnS g a W0 k).2 (lnS g a W0 k).1 46)
    else if bf g (cellB g (nI a) (nI k)).toNatClampNeg 7 = 1 then ((lnS g a W0 k).1 + 1 + 1, upd (upd (lnS g a W0 k).2 (lnS g a W0 k).1 (ltB g (cellB g (nI a) (nI k)).toNatClampNeg)) ((lnS g a W0 k).1 + 1) 33)
    else ((lnS g a W0 k).1 + 1, upd (lnS g a W0 k).2 (lnS g a W0 k).1 (ltB g (cellB g (nI a) (nI k)).toNatClampNeg))
theorem ln_le {g : zB} {a : Nat} {W0 : Nat → Int32} : ∀ k, (lnS g a W0 k).1 ≤ 2 * k
  | 0 => Nat.le_refl _
  | k + 1 => by
    have h := ln_le (g := g) (a := a) (W0 := W0) k
    rw [lnS]
    by_cases q : cellB g (nI a) (nI k) < 0
    · rw [if_pos q]; show _ + 1 ≤ _; omega
    · rw [if_neg q]
      by_cases q2 : bf g (cellB g (nI a) (nI k)).toNatClampNeg 7 = 1
      · rw [if_pos q2]; show _ + 1 + 1 ≤ _; omega
      · rw [if_neg q2]; show _ + 1 ≤ _; omega
theorem ln_n {g : zB} {a k : Nat} {W0 : Nat → Int32} (h : cellB g (nI a) (nI k) < 0) : lnS g a W0 (k + 1) = ((lnS g a W0 k).1 + 1, upd (lnS g a W0 k).2 (lnS g a W0 k).1 46) := by rw [lnS, if_pos h]
theorem ln_r {g : zB} {a k i : Nat} {W0 : Nat → Int32} (hi : i < 100000) (h : cellB g (nI a) (nI k) = nI i) (h7 : bf g i 7 = 1) : lnS g a W0 (k + 1) = ((lnS g a W0 k).1 + 1 + 1, upd (upd (lnS g a W0 k).2 (lnS g a W0 k).1 (ltB g i)) ((lnS g a W0 k).1 + 1) 33) := by
  rw [lnS, h, nI_clamp (by omega), if_neg (nn_i hi), if_pos h7]
theorem ln_s {g : zB} {a k i : Nat} {W0 : Nat → Int32} (hi : i < 100000) (h : cellB g (nI a) (nI k) = nI i) (h7 : ¬ bf g i 7 = 1) : lnS g a W0 (k + 1) = ((lnS g a W0 k).1 + 1, upd (lnS g a W0 k).2 (lnS g a W0 k).1 (ltB g i)) := by
  rw [lnS, h, nI_clamp (by omega), if_neg (nn_i hi), if_neg h7]
theorem vp_of {ty : FieldType} {v : Int32} (h : narrow ty (.int v) = .int v) : vp_nar ty v = v := by
  unfold vp_nar
  rw [h]
/-- a letter is a sign from 67 to 115 -/
theorem lt_of {g : zB} {i : Nat} (h : lineW g i) : ∃ b : Nat, b < 127 ∧ ltB g i = nI b := by
  unfold ltB
  rcases h.2.2.2.1 with q | q | q | q
  all_goals
    rw [q]
    by_cases e : bf g i 0 = 0
    · rw [if_pos e]; first | exact ⟨112, by decide, rfl⟩ | exact ⟨110, by decide, rfl⟩ | exact ⟨99, by decide, rfl⟩ | exact ⟨115, by decide, rfl⟩
    · rw [if_neg e]; first | exact ⟨80, by decide, rfl⟩ | exact ⟨78, by decide, rfl⟩ | exact ⟨67, by decide, rfl⟩ | exact ⟨83, by decide, rfl⟩
theorem i2c_n {b : Nat} (h : b < 65536) : ((nI b).toUInt32 % 65536).toInt32 = nI b := by
  rw [pk_char, pk_tn (by omega), Nat.mod_eq_of_lt h]
end ZP6
