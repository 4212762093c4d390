section ZKE
theorem fb_rngZ (x : Int32) : -2147483648 ≤ x.toInt ∧ x.toInt < 2147483648 := ⟨Int32.le_toInt x, Int32.toInt_lt x⟩
theorem lineW_o {g : zB} {i j w : Nat} {x : Int32} (hw : w < 9) (hj : ¬ j = i) (h : lineW g j) : lineW (bs g i w x) j := by
  unfold lineW at h ⊢
  rw [bf_bsI hw (by decide) hj, bf_bsI hw (by decide) hj, bf_bsI hw (by decide) hj, bf_bsI hw (by decide) hj, bf_bsI hw (by decide) hj, bf_bsI hw (by decide) hj, bf_bsI hw (by decide) hj, bf_bsI hw (by decide) hj]
  exact h
theorem lineW_2 {g : zB} {i : Nat} {x : Int32} (hx : ∃ a, a < 10 ∧ x = nI a) (h : lineW g i) : lineW (bs g i 2 x) i := by
  unfold lineW at h ⊢
  rw [bf_bs, bf_bsW (w' := 0) (by decide), bf_bsW (w' := 1) (by decide), bf_bsW (w' := 3) (by decide), bf_bsW (w' := 4) (by decide), bf_bsW (w' := 5) (by decide), bf_bsW (w' := 6) (by decide), bf_bsW (w' := 7) (by decide)]
  exact ⟨h.1, h.2.1, hx, h.2.2.2⟩
theorem lineW_4 {g : zB} {i : Nat} {x : Int32} (hx : ∃ a, a ≤ 99 ∧ x = nI a) (h : lineW g i) : lineW (bs g i 4 x) i := by
  unfold lineW at h ⊢
  rw [bf_bs, bf_bsW (w' := 0) (by decide), bf_bsW (w' := 1) (by decide), bf_bsW (w' := 2) (by decide), bf_bsW (w' := 3) (by decide), bf_bsW (w' := 5) (by decide), bf_bsW (w' := 6) (by decide), bf_bsW (w' := 7) (by decide)]
  exact ⟨h.1, h.2.1, h.2.2.1, h.2.2.2.1, hx, h.2.2.2.2.2⟩
theorem lineW_5 {g : zB} {i : Nat} {x : Int32} (hx : ∃ a, a ≤ 20 ∧ x = nI a) (h : lineW g i) : lineW (bs g i 5 x) i := by
  unfold lineW at h ⊢
  rw [bf_bs, bf_bsW (w' := 0) (by decide), bf_bsW (w' := 1) (by decide), bf_bsW (w' := 2) (by decide), bf_bsW (w' := 3) (by decide), bf_bsW (w' := 4) (by decide), bf_bsW (w' := 6) (by decide), bf_bsW (w' := 7) (by decide)]
  exact ⟨h.1, h.2.1, h.2.2.1, h.2.2.2.1, h.2.2.2.2.1, hx, h.2.2.2.2.2.2⟩
theorem lineW_6 {g : zB} {i : Nat} {x : Int32} (hx : x = 104 ∨ x = 97 ∨ x = 99) (h : lineW g i) : lineW (bs g i 6 x) i := by
  unfold lineW at h ⊢
  rw [bf_bs, bf_bsW (w' := 0) (by decide), bf_bsW (w' := 1) (by decide), bf_bsW (w' := 2) (by decide), bf_bsW (w' := 3) (by decide), bf_bsW (w' := 4) (by decide), bf_bsW (w' := 5) (by decide), bf_bsW (w' := 7) (by decide)]
  exact ⟨h.1, h.2.1, h.2.2.1, h.2.2.2.1, h.2.2.2.2.1, h.2.2.2.2.2.1, hx, h.2.2.2.2.2.2.2⟩
theorem lineW_7 {g : zB} {i : Nat} {x : Int32} (hx : x = 0 ∨ x = 1 ∨ x = 2) (h : lineW g i) : lineW (bs g i 7 x) i := by
  unfold lineW at h ⊢
  rw [bf_bs, bf_bsW (w' := 0) (by decide), bf_bsW (w' := 1) (by decide), bf_bsW (w' := 2) (by decide), bf_bsW (w' := 3) (by decide), bf_bsW (w' := 4) (by decide), bf_bsW (w' := 5) (by decide), bf_bsW (w' := 6) (by decide)]
  exact ⟨h.1, h.2.1, h.2.2.1, h.2.2.2.1, h.2.2.2.2.1, h.2.2.2.2.2.1, h.2.2.2.2.2.2.1, hx⟩
theorem lineW_8 {g : zB} {i : Nat} {x : Int32} (h : lineW g i) : lineW (bs g i 8 x) i := by
  unfold lineW at h ⊢
  rw [bf_bsW (w' := 0) (by decide), bf_bsW (w' := 1) (by decide), bf_bsW (w' := 2) (by decide), bf_bsW (w' := 3) (by decide), bf_bsW (w' := 4) (by decide), bf_bsW (w' := 5) (by decide), bf_bsW (w' := 6) (by decide), bf_bsW (w' := 7) (by decide)]
  exact h
theorem uni_bs {g : zB} {i w : Nat} {x : Int32} (hw : w < 9) (h1 : ¬ w = 1) (h2 : ¬ w = 2) (h7 : w = 7 → ¬ x = 2 → ¬ bf g i 7 = 2) (h : uniB g) : uniB (bs g i w x) := by
  have key : ∀ k : Nat, (¬ bf (bs g i w x) k 7 = 2 → ¬ bf g k 7 = 2) ∧ bf (bs g i w x) k 1 = bf g k 1 ∧ bf (bs g i w x) k 2 = bf g k 2 := by
    intro k
    by_cases hk : k = i
    · subst hk
      rw [bf_bsW (w' := 1) (fun e => h1 e.symm), bf_bsW (w' := 2) (fun e => h2 e.symm)]
      refine ⟨?_, rfl, rfl⟩
      by_cases q : w = 7
      · subst q
        rw [bf_bs]
        exact h7 rfl
      · rw [bf_bsW (w' := 7) (fun e => q e.symm)]
        exact id
    · rw [bf_bsI hw (by decide) hk, bf_bsI hw (by decide) hk, bf_bsI hw (by decide) hk]
      exact ⟨id, rfl, rfl⟩
  intro a b ha hb ha7 hb7 e1 e2
  rw [bn_bs] at ha hb
  rw [(key a).2.1, (key b).2.1] at e1
  rw [(key a).2.2, (key b).2.2] at e2
  exact h a b ha hb ((key a).1 ha7) ((key b).1 hb7) e1 e2
theorem batW_bs {g : zB} {i w : Nat} {x : Int32} (hw : w < 9) (h : batW g) (hl : i < bn g → lineW g i → lineW (bs g i w x) i) (hu : uniB (bs g i w x)) : batW (bs g i w x) := by
  refine ⟨⟨by rw [bn_bs]; exact h.1.1, by rw [bn_bs, bs_lo (by decide)]; exact h.1.2⟩, ⟨by rw [bs_lo (by decide)]; exact h.2.1.1, by rw [bs_lo (by decide)]; exact h.2.1.2⟩, fun j hj => ?_, hu⟩
  rw [bn_bs] at hj
  by_cases hji : j = i
  · subst hji; exact hl hj (h.2.2.1 j hj)
  · exact lineW_o hw hji (h.2.2.1 j hj)
theorem batW_4 {g : zB} {i : Nat} {x : Int32} (h : batW g) (hx : ∃ a, a ≤ 99 ∧ x = nI a) : batW (bs g i 4 x) := batW_bs (by decide) h (fun _ => lineW_4 hx) (uni_bs (by decide) (by decide) (by decide) (fun e => absurd e (by decide)) h.2.2.2)
theorem batW_5 {g : zB} {i : Nat} {x : Int32} (h : batW g) (hx : ∃ a, a ≤ 20 ∧ x = nI a) : batW (bs g i 5 x) := batW_bs (by decide) h (fun _ => lineW_5 hx) (uni_bs (by decide) (by decide) (by decide) (fun e => absurd e (by decide)) h.2.2.2)
theorem batW_6 {g : zB} {i : Nat} {x : Int32} (h : batW g) (hx : x = 104 ∨ x = 97 ∨ x = 99) : batW (bs g i 6 x) := batW_bs (by decide) h (fun _ => lineW_6 hx) (uni_bs (by decide) (by decide) (by decide) (fun e => absurd e (by decide)) h.2.2.2)
theorem batW_8 {g : zB} {i : Nat} {x : Int32} (h : batW g) : batW (bs g i 8 x) := batW_bs (by decide) h (fun _ => lineW_8) (uni_bs (by decide) (by decide) (by decide) (fun e => absurd e (by decide)) h.2.2.2)
theorem batW_7 {g : zB} {i : Nat} {x : Int32} (h : batW g) (hx : x = 0 ∨ x = 1 ∨ x = 2) (h7 : ¬ x = 2 → ¬ bf g i 7 = 2) : batW (bs g i 7 x) := batW_bs (by decide) h (fun _ => lineW_7 hx) (uni_bs (by decide) (by decide) (by decide) (fun _ => h7) h.2.2.2)
/-- a number below, cut at 0 -/
theorem mx_of {a M : Nat} {d : Int32} (hM : M < 100000) (ha : a ≤ M) (hd : 0 ≤ d) : ∃ b, b ≤ M ∧ mx (nI a - d) = nI b := by
  unfold mx
  have q0 : (0 : Int32).toInt = 0 := by decide
  have hd' : 0 ≤ d.toInt := by simpa [q0] using Int32.le_iff_toInt_le.mp hd
  have hda := fb_rngZ d
  have ea : (nI a).toInt = (a : Int) := nI_toInt (by omega)
  by_cases h : 0 < nI a - d
  · rw [if_pos h]
    have h1 := Int32.lt_iff_toInt_lt.mp h
    have e1 : (nI a - d).toInt = (a : Int) - d.toInt := by
      rw [Int32.toInt_sub, ea]
      exact Int.bmod_eq_of_le (by omega) (by omega)
    rw [q0, e1] at h1
    refine ⟨((a : Int) - d.toInt).toNat, by omega, ?_⟩
    apply Int32.toInt_inj.mp
    rw [e1, nI_toInt (by omega)]
    omega
  · rw [if_neg h]
    exact ⟨0, Nat.zero_le _, rfl⟩
theorem mn_of {a c : Nat} (ha : a ≤ 20) (hc : c ≤ 100) : ∃ b, b ≤ 20 ∧ mn (nI a + nI c) = nI b := by
  unfold mn
  rw [nI_add]
  by_cases h : nI (a + c) < 20
  · rw [if_pos h]
    have := (nI_ltI (b := 20) (show a + c < 2 ^ 31 by omega) (by decide)).mp h
    exact ⟨a + c, by omega, rfl⟩
  · rw [if_neg h]
    exact ⟨20, Nat.le_refl _, rfl⟩
end ZKE
