section ZRE
theorem rl_ok {K : Int32 → Prop} [DecidablePred K] {y : Nat → Int32} {n0 q : Nat} {z : Int32} (h : (sgB K y n0 q z).1 = true) : rlB y n0 q = (sgB K y n0 q z).2.2 := by
  rcases sg_c K y n0 q z with ⟨-, e⟩ | ⟨-, -, e⟩ | ⟨h1, h2, e⟩
  · rw [e] at h; exact Bool.noConfusion h
  · rw [e] at h; exact Bool.noConfusion h
  · rw [e, rlB, if_pos h1, bhB_in h2.1]
theorem bh_k {y : Nat → Int32} {n0 p0 : Nat} {z : Int32} (hz : ¬ z = 0) (hz1 : ¬ z = -1) (h : ¬ pkB y n0 p0 = z) : ¬ bhB y n0 p0 = z := bh_no (fun q => h (pk_yes q)) hz1
theorem ok_rc (l : Launch) {g : zG} {κ : zKp} {μ : zMu} {ω : zOm} {n0 p0 m0 : Nat} {a b y : Nat → Int32} (hY : μ 7 = y) (hn : n0 ≤ 60) (ha4 : a 4 = nI n0) (hp : p0 ≤ n0) (hm : 5 * m0 + 4 < 300) : ∃ C : Nat → Int32, (∀ q, q < 5 * m0 → C q = μ 8 q) ∧ ((comB y n0 p0 0 0 0 0).1 = true → cmO C (5 * m0) (comB y n0 p0 0 0 0 0)) ∧ zM l g yX5_readCommand cX5_readCommand 3 none 7 0 [.ref (gA g 10 0 0)] κ (zN μ (rT a p0 0 m0) b) ω κ (zN (zRm μ 8 C) (rT a (comB y n0 p0 0 0 0 0).2.1 (wrB (comB y n0 p0 0 0 0 0).1) (m0 + 1)) b) ω none := by
  have s1 : sB 26 = sB 38 := rfl
  have s2 : sB 28 = sB 40 := rfl
  have s3 : sB 30 = sB 41 := rfl
  have s4 : sB 31 = sB 42 := rfl
  by_cases k1 : chAt y n0 p0 108
  · have e0 : pkB y n0 p0 = 108 := pk_yes k1
    by_cases h_w : (wdB y n0 (sB 38) p0).1 = true
    · by_cases h_a : (n1B y n0 (wdB y n0 (sB 38) p0).2).1 = true
      · by_cases h_b : (n1B y n0 (n1B y n0 (wdB y n0 (sB 38) p0).2).2.1).1 = true
        · by_cases h_d : (sgB kinO y n0 (n1B y n0 (n1B y n0 (wdB y n0 (sB 38) p0).2).2.1).2.1 0).1 = true
          · skip
            have hR : comB y n0 p0 0 0 0 0 = ((nmB y n0 (sgB kinO y n0 (n1B y n0 (n1B y n0 (wdB y n0 (sB 38) p0).2).2.1).2.1 0).2.1).1, (nmB y n0 (sgB kinO y n0 (n1B y n0 (n1B y n0 (wdB y n0 (sB 38) p0).2).2.1).2.1 0).2.1).2.1, 108, (n1B y n0 (wdB y n0 (sB 38) p0).2).2.2, (n1B y n0 (n1B y n0 (wdB y n0 (sB 38) p0).2).2.1).2.2, (sgB kinO y n0 (n1B y n0 (n1B y n0 (wdB y n0 (sB 38) p0).2).2.1).2.1 0).2.2, (nmB y n0 (sgB kinO y n0 (n1B y n0 (n1B y n0 (wdB y n0 (sB 38) p0).2).2.1).2.1 0).2.1).2.2) := by simp only [comB, e0, s1, cmL1, h_w, cmL2, plB, plB1, h_a, plB2, h_b, cmL3, h_d, cmL4, reduceIte] <;> rfl
            rw [hR]
            refine ⟨_, ?_, ?_, rc_l4 l hY hn ha4 hp hm k1 h_w h_a h_b h_d⟩
            · intro q hq; rw [upd_lt (by omega), upd_lt (by omega), upd_lt (by omega), upd_lt (by omega), upd_lt (by omega)]
            · exact fun w => ⟨fun _ => ⟨(c5_at _ _ _ _ _ _ _).1, (c5_at _ _ _ _ _ _ _).2.1.trans (if_pos h_a), (c5_at _ _ _ _ _ _ _).2.2.1.trans (if_pos h_b), (c5_at _ _ _ _ _ _ _).2.2.2.1.trans (rl_ok h_d), (c5_at _ _ _ _ _ _ _).2.2.2.2.trans (if_pos w)⟩, fun q => absurd (show (108 : Int32) = 111 from q) (by decide), fun q => absurd (show (108 : Int32) = 114 from q) (by decide), fun q => absurd rfl q⟩
          · skip
            have hR : comB y n0 p0 0 0 0 0 = (false, (sgB kinO y n0 (n1B y n0 (n1B y n0 (wdB y n0 (sB 38) p0).2).2.1).2.1 0).2.1, 108, (n1B y n0 (wdB y n0 (sB 38) p0).2).2.2, (n1B y n0 (n1B y n0 (wdB y n0 (sB 38) p0).2).2.1).2.2, (sgB kinO y n0 (n1B y n0 (n1B y n0 (wdB y n0 (sB 38) p0).2).2.1).2.1 0).2.2, 0) := by simp only [comB, e0, s1, cmL1, h_w, cmL2, plB, plB1, h_a, plB2, h_b, cmL3, h_d, reduceIte] <;> rfl
            rw [hR]
            refine ⟨_, ?_, ?_, rc_l3 l hY hn ha4 hp hm k1 h_w h_a h_b h_d⟩
            · intro q hq; rw [upd_lt (by omega), upd_lt (by omega), upd_lt (by omega), upd_lt (by omega), upd_lt (by omega)]
            · exact fun w => Bool.noConfusion w
        · skip
          have hR : comB y n0 p0 0 0 0 0 = (false, (n1B y n0 (n1B y n0 (wdB y n0 (sB 38) p0).2).2.1).2.1, 108, (n1B y n0 (wdB y n0 (sB 38) p0).2).2.2, (n1B y n0 (n1B y n0 (wdB y n0 (sB 38) p0).2).2.1).2.2, 0, 0) := by simp only [comB, e0, s1, cmL1, h_w, cmL2, plB, plB1, h_a, plB2, h_b, reduceIte] <;> rfl
          rw [hR]
          refine ⟨_, ?_, ?_, rc_l2 l hY hn ha4 hp hm k1 h_w h_a h_b⟩
          · intro q hq; rw [upd_lt (by omega), upd_lt (by omega), upd_lt (by omega), upd_lt (by omega), upd_lt (by omega)]
          · exact fun w => Bool.noConfusion w
      · skip
        have hR : comB y n0 p0 0 0 0 0 = (false, (n1B y n0 (wdB y n0 (sB 38) p0).2).2.1, 108, (n1B y n0 (wdB y n0 (sB 38) p0).2).2.2, 0, 0, 0) := by simp only [comB, e0, s1, cmL1, h_w, cmL2, plB, plB1, h_a, reduceIte] <;> rfl
        rw [hR]
        refine ⟨_, ?_, ?_, rc_l1 l hY hn ha4 hp hm k1 h_w h_a⟩
        · intro q hq; rw [upd_lt (by omega), upd_lt (by omega), upd_lt (by omega), upd_lt (by omega), upd_lt (by omega)]
        · exact fun w => Bool.noConfusion w
    · skip
      have hR : comB y n0 p0 0 0 0 0 = (false, (wdB y n0 (sB 38) p0).2, 108, 0, 0, 0, 0) := by simp only [comB, e0, s1, cmL1, h_w, reduceIte] <;> rfl
      rw [hR]
      refine ⟨_, ?_, ?_, rc_l0 l hY hn ha4 hp hm k1 h_w⟩
      · intro q hq; rw [upd_lt (by omega), upd_lt (by omega), upd_lt (by omega), upd_lt (by omega), upd_lt (by omega)]
      · exact fun w => Bool.noConfusion w
  · have e0 : ¬ pkB y n0 p0 = 108 := fun q => k1 (pk_at q (by decide))
    by_cases k2 : chAt y n0 p0 111
    · have e2 : pkB y n0 p0 = 111 := pk_yes k2
      by_cases h_w : (wdB y n0 (sB 40) p0).1 = true
      · by_cases h_n : (nmB y n0 (wdB y n0 (sB 40) p0).2).1 = true
        · skip
          have hR : comB y n0 p0 0 0 0 0 = ((sgB ordO y n0 (nmB y n0 (wdB y n0 (sB 40) p0).2).2.1 0).1, (sgB ordO y n0 (nmB y n0 (wdB y n0 (sB 40) p0).2).2.1 0).2.1, 111, 0, 0, (sgB ordO y n0 (nmB y n0 (wdB y n0 (sB 40) p0).2).2.1 0).2.2, (nmB y n0 (wdB y n0 (sB 40) p0).2).2.2) := by simp only [comB, e2, show ¬ (111 : Int32) = 108 by decide, s2, cmO1, h_w, cmO2, h_n, cmO3, reduceIte] <;> rfl
          rw [hR]
          refine ⟨_, ?_, ?_, rc_o2 l hY hn ha4 hp hm k2 h_w h_n⟩
          · intro q hq; rw [upd_lt (by omega), upd_lt (by omega), upd_lt (by omega)]
          · exact fun w => ⟨fun q => absurd (show (111 : Int32) = 108 from q) (by decide), fun _ => ⟨(c3_at _ _ _ _ _).1, (c3_at _ _ _ _ _).2.1.trans (if_pos h_n), (c3_at _ _ _ _ _).2.2.trans (rl_ok w)⟩, fun q => absurd (show (111 : Int32) = 114 from q) (by decide), fun _ q => absurd rfl q⟩
        · skip
          have hR : comB y n0 p0 0 0 0 0 = (false, (nmB y n0 (wdB y n0 (sB 40) p0).2).2.1, 111, 0, 0, 0, (nmB y n0 (wdB y n0 (sB 40) p0).2).2.2) := by simp only [comB, e2, show ¬ (111 : Int32) = 108 by decide, s2, cmO1, h_w, cmO2, h_n, reduceIte] <;> rfl
          rw [hR]
          refine ⟨_, ?_, ?_, rc_o1 l hY hn ha4 hp hm k2 h_w h_n⟩
          · intro q hq; rw [upd_lt (by omega), upd_lt (by omega), upd_lt (by omega)]
          · exact fun w => Bool.noConfusion w
      · skip
        have hR : comB y n0 p0 0 0 0 0 = (false, (wdB y n0 (sB 40) p0).2, 111, 0, 0, 0, 0) := by simp only [comB, e2, show ¬ (111 : Int32) = 108 by decide, s2, cmO1, h_w, reduceIte] <;> rfl
        rw [hR]
        refine ⟨_, ?_, ?_, rc_o0 l hY hn ha4 hp hm k2 h_w⟩
        · intro q hq; rw [upd_lt (by omega), upd_lt (by omega), upd_lt (by omega)]
        · exact fun w => Bool.noConfusion w
    · have e2 : ¬ pkB y n0 p0 = 111 := fun q => k2 (pk_at q (by decide))
      by_cases k3 : chAt y n0 p0 114
      · have e3 : pkB y n0 p0 = 114 := pk_yes k3
        by_cases h_w : (wdB y n0 (sB 41) p0).1 = true
        · skip
          have hR : comB y n0 p0 0 0 0 0 = ((nmB y n0 (wdB y n0 (sB 41) p0).2).1, (nmB y n0 (wdB y n0 (sB 41) p0).2).2.1, 114, 0, 0, 0, (nmB y n0 (wdB y n0 (sB 41) p0).2).2.2) := by simp only [comB, e3, show ¬ (114 : Int32) = 108 by decide, show ¬ (114 : Int32) = 111 by decide, s3, cmR1, h_w, cmR2, reduceIte] <;> rfl
          rw [hR]
          refine ⟨_, ?_, ?_, rc_r1 l hY hn ha4 hp hm k3 h_w⟩
          · intro q hq; rw [upd_lt (by omega), upd_lt (by omega)]
          · exact fun w => ⟨fun q => absurd (show (114 : Int32) = 108 from q) (by decide), fun q => absurd (show (114 : Int32) = 111 from q) (by decide), fun _ => ⟨(c2_at _ _ _ _).1, (c2_at _ _ _ _).2.trans (if_pos w)⟩, fun _ _ q => absurd rfl q⟩
        · skip
          have hR : comB y n0 p0 0 0 0 0 = (false, (wdB y n0 (sB 41) p0).2, 114, 0, 0, 0, 0) := by simp only [comB, e3, show ¬ (114 : Int32) = 108 by decide, show ¬ (114 : Int32) = 111 by decide, s3, cmR1, h_w, reduceIte] <;> rfl
          rw [hR]
          refine ⟨_, ?_, ?_, rc_r0 l hY hn ha4 hp hm k3 h_w⟩
          · intro q hq; rw [upd_lt (by omega), upd_lt (by omega)]
          · exact fun w => Bool.noConfusion w
      · have e3 : ¬ pkB y n0 p0 = 114 := fun q => k3 (pk_at q (by decide))
        have hR : comB y n0 p0 0 0 0 0 = ((wdB y n0 (sB 42) p0).1, (wdB y n0 (sB 42) p0).2, pkB y n0 p0, 0, 0, 0, 0) := by simp only [comB, e0, e2, e3, s4, cmT1, reduceIte]
        rw [hR]
        have f1 := bh_k (y := y) (n0 := n0) (p0 := p0) (z := 108) (by decide) (by decide) e0
        have f2 := bh_k (y := y) (n0 := n0) (p0 := p0) (z := 111) (by decide) (by decide) e2
        have f3 := bh_k (y := y) (n0 := n0) (p0 := p0) (z := 114) (by decide) (by decide) e3
        refine ⟨_, ?_, ?_, rc_t l hY hn ha4 hp hm f1 f2 f3⟩
        · intro q hq; rw [upd_lt (by omega)]
        · exact fun w => ⟨fun q => absurd q e0, fun q => absurd q e2, fun q => absurd q e3, fun _ _ _ => by
            have h9 : upd (μ 8) (5 * m0) (bhB y n0 p0) (5 * m0) = bhB y n0 p0 := if_pos rfl
            rw [h9]; exact ⟨f1, f2, f3⟩⟩
end ZRE
