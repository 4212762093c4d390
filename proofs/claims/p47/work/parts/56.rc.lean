section ZRE
theorem rl_ok {K : Int32 → Prop} [DecidablePred K] {y : Nat → Int32} {n0 q : Nat} {z : Int32} (h : (sgB K y n0 q z).1 = true) : rlB y n0 q = (sgB K y n0 q z).2.2 := by
  rcases sg_c K y n0 q z with ⟨-, e⟩ | ⟨-, -, e⟩ | ⟨h1, h2, e⟩
  · rw [e] at h; exact Bool.noConfusion h
  · rw [e] at h; exact Bool.noConfusion h
  · rw [e, rlB, if_pos h1, bhB_in h2.1]
theorem bh_k {y : Nat → Int32} {n0 p0 : Nat} {z : Int32} (hz : ¬ z = 0) (hz1 : ¬ z = -1) (h : ¬ pkB y n0 p0 = z) : ¬ bhB y n0 p0 = z := bh_no (fun q => h (pk_yes q)) hz1
end ZRE
