section ZRD
def bhB (y : Nat → Int32) (n0 p0 : Nat) : Int32 := if p0 < n0 then y p0 else -1
theorem bhB_in {y : Nat → Int32} {n0 p0 : Nat} (h : p0 < n0) : bhB y n0 p0 = y p0 := if_pos h
theorem bhB_out {y : Nat → Int32} {n0 p0 : Nat} (h : ¬ p0 < n0) : bhB y n0 p0 = -1 := if_neg h
theorem bh_yes {y : Nat → Int32} {n0 p0 : Nat} {z : Int32} (h : chAt y n0 p0 z) : bhB y n0 p0 = z := (bhB_in h.1).trans h.2
theorem bh_no {y : Nat → Int32} {n0 p0 : Nat} {z : Int32} (h : ¬ chAt y n0 p0 z) (hz : ¬ z = -1) : ¬ bhB y n0 p0 = z := fun q => by
  by_cases w : p0 < n0
  · rw [bhB_in w] at q; exact h ⟨w, q⟩
  · rw [bhB_out w] at q; exact hz q.symm
theorem sBa_m1 {i j : Nat} (hi : i < 43) (hj : j < (sB i).length) : ¬ sBa i j = -1 := by
  obtain ⟨b, h1, h2⟩ := sB_b hi hj
  rw [h2]; exact nI_ne_m1 (by omega)
theorem bg_n {K : Int32 → Prop} {y : Nat → Int32} {n0 p0 : Nat} (h0 : ¬ K (-1)) (h : ¬ (p0 < n0 ∧ K (y p0))) : ¬ K (bhB y n0 p0) := fun q => by
  by_cases w : p0 < n0
  · rw [bhB_in w] at q; exact h ⟨w, q⟩
  · rw [bhB_out w] at q; exact h0 q
/-- the reader's numbers: the place, whether it is wrong, how many commands -/
def rT (a : Nat → Int32) (p0 : Nat) (xw : Int32) (m0 : Nat) : Nat → Int32 := upd (upd (upd a 5 (nI p0)) 6 xw) 9 (nI m0)
theorem upd_c {a : Nat → Int32} {q w : Nat} {x z : Int32} (h : ¬ q = w) : upd (upd a q x) w z = upd (upd a w z) q x := by
  funext j
  unfold upd
  by_cases h1 : j = w
  · rw [if_pos h1, if_neg (by omega), if_pos h1]
  · by_cases h2 : j = q
    · rw [if_neg h1, if_pos h2, if_pos h2]
    · rw [if_neg h1, if_neg h2, if_neg h2, if_neg h1]
theorem rT_5 {a : Nat → Int32} {p0 q m0 : Nat} {xw : Int32} : upd (rT a p0 xw m0) 5 (nI q) = rT a q xw m0 := by
  unfold rT
  rw [upd_c (by decide : ¬ 9 = 5), upd_c (by decide : ¬ 6 = 5), upd_2]
theorem rT_6 {a : Nat → Int32} {p0 m0 : Nat} {xw z : Int32} : upd (rT a p0 xw m0) 6 z = rT a p0 z m0 := by
  unfold rT
  rw [upd_c (by decide : ¬ 9 = 6), upd_2]
theorem rT_9 {a : Nat → Int32} {p0 q m0 : Nat} {xw : Int32} : upd (rT a p0 xw m0) 9 (nI q) = rT a p0 xw q := by
  unfold rT
  rw [upd_2]
theorem wd_sp {y : Nat → Int32} {n0 p0 : Nat} : wdB y n0 (sB 39) p0 = if chAt y n0 p0 32 then (true, p0 + 1) else (false, p0) := rfl
/-- 1 for wrong -/
def wrB (x : Bool) : Int32 := if x = true then 0 else 1
set_option maxHeartbeats 4000000 in
set_option maxRecDepth 100000 in
theorem in_behind (l : Launch) {g : zG} {κ : zKp} {μ : zMu} {ω : zOm} {n0 p0 m0 : Nat} {a b y : Nat → Int32} (hY : μ 7 = y) (hn : n0 ≤ 60) (ha4 : a 4 = nI n0) (hp : p0 ≤ n0) {xw : Int32} (hq : p0 < n0)  : zM l g yX5_behind cX5_behind 1 (some .int) 1 0 [.ref (gA g 10 0 0)] κ (zN μ (rT a p0 xw m0) b) ω κ (zN μ (rT a p0 xw m0) b) ω (some (.int (y p0))) := by
  refine zM_of (by decide) (Nat.le_of_ble_eq_true rfl) (fun p e R s m args below meth c hX => ?_)
  show zZ p l e R s m args below meth c g 1 _ _ _ _ 0 0 [(0, .ref (gA g 10 0 0))] []
  refine z_aload_n hX dX5_behind_0 0 rfl ?_
  refine zg_X5_at hX fl_RX5_200 dX5_behind_1 ?_
  refine z_isv (show _ = nI (p0) from rfl) ?_
  refine z_aload_n hX dX5_behind_4 0 rfl ?_
  refine zg_X5_length hX fl_RX5_197 dX5_behind_5 ?_
  refine z_isv (show _ = nI (n0) from ha4) ?_
  refine z_icmp_ge (tgt := 23) hX dX5_behind_8 (by decide) (fun h8 => absurd h8 (nle_i hq (by omega))) (fun h8 => ?_)
  refine z_aload_n hX dX5_behind_11 0 rfl ?_
  refine zg_X5_text hX   fl_RX5_29 dX5_behind_12 ?_
  refine z_aload_n hX dX5_behind_15 0 rfl ?_
  refine zg_X5_at hX fl_RX5_200 dX5_behind_16 ?_
  refine z_isv (show _ = nI (p0) from rfl) ?_
  refine za_text hX  rfl (by omega) dX5_behind_19 ?_
  refine z_isv (congrFun hY p0) ?_
  refine z_goto (tgt := 24) hX dX5_behind_20 (by decide) ?_
  exact z_iretI hX dX5_behind_24 (by decide) rfl (fun _ h => h)
set_option maxHeartbeats 4000000 in
set_option maxRecDepth 100000 in
theorem out_behind (l : Launch) {g : zG} {κ : zKp} {μ : zMu} {ω : zOm} {n0 p0 m0 : Nat} {a b y : Nat → Int32} (hY : μ 7 = y) (hn : n0 ≤ 60) (ha4 : a 4 = nI n0) (hp : p0 ≤ n0) {xw : Int32} (hq : ¬ p0 < n0)  : zM l g yX5_behind cX5_behind 1 (some .int) 1 0 [.ref (gA g 10 0 0)] κ (zN μ (rT a p0 xw m0) b) ω κ (zN μ (rT a p0 xw m0) b) ω (some (.int (-1))) := by
  refine zM_of (by decide) (Nat.le_of_ble_eq_true rfl) (fun p e R s m args below meth c hX => ?_)
  show zZ p l e R s m args below meth c g 1 _ _ _ _ 0 0 [(0, .ref (gA g 10 0 0))] []
  refine z_aload_n hX dX5_behind_0 0 rfl ?_
  refine zg_X5_at hX fl_RX5_200 dX5_behind_1 ?_
  refine z_isv (show _ = nI (p0) from rfl) ?_
  refine z_aload_n hX dX5_behind_4 0 rfl ?_
  refine zg_X5_length hX fl_RX5_197 dX5_behind_5 ?_
  refine z_isv (show _ = nI (n0) from ha4) ?_
  refine z_icmp_ge (tgt := 23) hX dX5_behind_8 (by decide) (fun h8 => ?_) (fun h8 => absurd h8 (Classical.not_not.mpr (le_i (by omega) (by omega))))
  refine z_iconst (v := -1) hX dX5_behind_23 (by decide) ?_
  exact z_iretI hX dX5_behind_24 (by decide) rfl (fun _ h => h)
theorem ok_behind (l : Launch) {g : zG} {κ : zKp} {μ : zMu} {ω : zOm} {n0 p0 m0 : Nat} {a b y : Nat → Int32} (hY : μ 7 = y) (hn : n0 ≤ 60) (ha4 : a 4 = nI n0) (hp : p0 ≤ n0) {xw : Int32} : zM l g yX5_behind cX5_behind 1 (some .int) 1 0 [.ref (gA g 10 0 0)] κ (zN μ (rT a p0 xw m0) b) ω κ (zN μ (rT a p0 xw m0) b) ω (some (.int (bhB y n0 p0))) := by
  by_cases hq : p0 < n0
  · rw [bhB_in hq]; exact in_behind l hY hn ha4 hp hq
  · rw [bhB_out hq]; exact out_behind l hY hn ha4 hp hq
set_option maxHeartbeats 4000000 in
set_option maxRecDepth 100000 in
theorem ok_skip (l : Launch) {g : zG} {κ : zKp} {μ : zMu} {ω : zOm} {n0 p0 m0 : Nat} {a b y : Nat → Int32} (hY : μ 7 = y) (hn : n0 ≤ 60) (ha4 : a 4 = nI n0) (hp : p0 ≤ n0) {i : Nat} (hi : i < 43)  : zM l g yX5_skip cX5_skip 3 none 5 0 [.ref (gA g 10 0 0), .ref (gAK g i)] κ (zN μ (rT a p0 0 m0) b) ω κ (zN μ (rT a ((wdB y n0 (sB i) p0).2) (wrB (wdB y n0 (sB i) p0).1) m0) b) ω none := by
  have h9 := sB_lt i hi
  refine zM_of (by decide) (Nat.le_of_ble_eq_true rfl) (fun p e R s m args below meth c hX => ?_)
  show zZ p l e R s m args below meth c g 3 _ _ _ _ 0 0 [(0, .ref (gA g 10 0 0)), (1, .ref (gAK g i))] []
  refine z_iconst (v := 0) hX dX5_skip_0 (by decide) ?_
  refine z_istore_n (lv' := [(2, _), (0, _), (1, _)]) hX dX5_skip_1 (by decide) rfl ?_
  have hL : ∀ (dz : Nat) (q0 q1 : Nat), (sB i).length - q0 = dz → q0 ≤ (sB i).length → q1 ≤ n0 → wdB y n0 ((sB i).drop q0) q1 = wdB y n0 (sB i) p0 → zZ p l e R s m args below meth c g 3 (zQ g κ (zN μ (rT a ((wdB y n0 (sB i) p0).2) (wrB (wdB y n0 (sB i) p0).1) m0) b) ω none below args s 0) κ (zN μ (rT a q1 0 m0) b) ω 0 2 [(0, .ref (gA g 10 0 0)), (1, .ref (gAK g i)), (2, .int (nI q0))] [] := by
    intro dz
    induction dz with
    | zero =>
      intro q0 q1 hd hk hp1 hw
      have hkn : q0 = (sB i).length := by omega
      have hR : wdB y n0 (sB i) p0 = (true, q1) := by rw [← hw, hkn]; exact wd_end
      refine z_iload_n hX dX5_skip_2 2 rfl ?_
      refine z_aload_n hX dX5_skip_3 1 rfl ?_
      refine zk_callV1 hX hi rfl (ok_J0_length_8abf5 l hi) cv_RX5_203 dX5_skip_4 (by decide) rfl rfl (Nat.le_of_ble_eq_true rfl) ?_
      refine z_icmp_ge (tgt := 65) hX dX5_skip_7 (by decide) (fun h7 => ?_) (fun h7 => absurd h7 (Classical.not_not.mpr (le_i (by omega) (by omega))))
      exact z_vret hX dX5_skip_65 (by decide) (fun _ h => by rw [hR]; exact h)
    | succ dz ih =>
      intro q0 q1 hd hk hp1 hw
      have hkn : q0 < (sB i).length := by omega
      refine z_iload_n hX dX5_skip_2 2 rfl ?_
      refine z_aload_n hX dX5_skip_3 1 rfl ?_
      refine zk_callV1 hX hi rfl (ok_J0_length_8abf5 l hi) cv_RX5_203 dX5_skip_4 (by decide) rfl rfl (Nat.le_of_ble_eq_true rfl) ?_
      refine z_icmp_ge (tgt := 65) hX dX5_skip_7 (by decide) (fun h7 => absurd h7 (nle_i hkn (by omega))) (fun h7 => ?_)
      refine z_aload_n hX dX5_skip_10 0 rfl ?_
      refine zg_X5_isWrong hX fl_RX5_207 dX5_skip_11 ?_
      refine z_isv (show _ = 0 from rfl) ?_
      refine z_if_ne (tgt := 65) hX dX5_skip_14 (by decide) (fun h14 => absurd h14 (by decide)) (fun h14 => ?_)
      refine z_aload_n hX dX5_skip_17 0 rfl ?_
      refine z_aload_n hX dX5_skip_18 0 rfl ?_
      refine z_callV1 hX (ok_behind l hY hn ha4 hp1) cv_RX5_211 zRc10 dX5_skip_19 (by decide) rfl rfl (Nat.le_of_ble_eq_true rfl) ?_
      refine z_aload_n hX dX5_skip_22 1 rfl ?_
      refine z_iload_n hX dX5_skip_23 2 rfl ?_
      refine zk_callV1 hX hi rfl (ok_J0_charAt_5068e l hi hkn) cv_RX5_214 dX5_skip_24 (by decide) rfl rfl (Nat.le_of_ble_eq_true rfl) ?_
      by_cases hc : chAt y n0 q1 (sBa i q0)
      · skip
        refine z_icmp_eq (tgt := 34) hX dX5_skip_27 (by decide) (fun h27 => ?_) (fun h27 => absurd h27 (Classical.not_not.mpr (bh_yes hc)))
        refine z_iconst (v := 0) hX dX5_skip_34 (by decide) ?_
        refine zp_X5_isWrong hX rfl rfl fl_RX5_207 dX5_skip_35 ?_
        rw [rT_6]
        refine z_aload_n hX dX5_skip_38 0 rfl ?_
        refine z_dup hX dX5_skip_39 rfl ?_
        refine zg_X5_at hX fl_RX5_200 dX5_skip_40 ?_
        refine z_isv (show _ = nI (q1) from rfl) ?_
        refine z_aload_n hX dX5_skip_43 0 rfl ?_
        refine zg_X5_isWrong hX fl_RX5_207 dX5_skip_44 ?_
        refine z_isv (show _ = 0 from rfl) ?_
        refine z_if_eq (tgt := 54) hX dX5_skip_47 (by decide) (fun h47 => ?_) (fun h47 => absurd h47 (by decide))
        refine z_iconst (v := 1) hX dX5_skip_54 (by decide) ?_
        refine z_iadd hX dX5_skip_55 ?_
        refine z_isv (nI_1 q1) ?_
        refine zp_X5_at hX  fl_RX5_200 dX5_skip_56 ?_
        rw [rT_5]
        refine z_iinc (v := nI (q0 + 1)) (lv' := [(2, _), (0, _), (1, _)]) hX dX5_skip_59 2 rfl (nI_1 q0) (by decide) rfl ?_
        refine z_goto (tgt := 2) hX dX5_skip_62 (by decide) ?_
        refine z_sub [1, 2, 0] rfl ?_
        exact ih (q0 + 1) (q1 + 1) (by omega) hkn hc.1 (by rw [wd_step hkn, if_pos hc] at hw; exact hw)
      · have hR : wdB y n0 (sB i) p0 = (false, q1) := by rw [← hw, wd_step hkn, if_neg hc]
        refine z_icmp_eq (tgt := 34) hX dX5_skip_27 (by decide) (fun h27 => absurd h27 (bh_no hc (sBa_m1 hi hkn))) (fun h27 => ?_)
        refine z_iconst (v := 1) hX dX5_skip_30 (by decide) ?_
        refine z_goto (tgt := 35) hX dX5_skip_31 (by decide) ?_
        refine zp_X5_isWrong hX rfl rfl fl_RX5_207 dX5_skip_35 ?_
        rw [rT_6]
        refine z_aload_n hX dX5_skip_38 0 rfl ?_
        refine z_dup hX dX5_skip_39 rfl ?_
        refine zg_X5_at hX fl_RX5_200 dX5_skip_40 ?_
        refine z_isv (show _ = nI (q1) from rfl) ?_
        refine z_aload_n hX dX5_skip_43 0 rfl ?_
        refine zg_X5_isWrong hX fl_RX5_207 dX5_skip_44 ?_
        refine z_isv (show _ = 1 from rfl) ?_
        refine z_if_eq (tgt := 54) hX dX5_skip_47 (by decide) (fun h47 => absurd h47 (by decide)) (fun h47 => ?_)
        refine z_iconst (v := 0) hX dX5_skip_50 (by decide) ?_
        refine z_goto (tgt := 55) hX dX5_skip_51 (by decide) ?_
        refine z_iadd hX dX5_skip_55 ?_
        refine z_isv (Int32.add_zero _) ?_
        refine zp_X5_at hX  fl_RX5_200 dX5_skip_56 ?_
        rw [rT_5]
        refine z_iinc (v := nI (q0 + 1)) (lv' := [(2, _), (0, _), (1, _)]) hX dX5_skip_59 2 rfl (nI_1 q0) (by decide) rfl ?_
        refine z_goto (tgt := 2) hX dX5_skip_62 (by decide) ?_
        refine z_iload_n hX dX5_skip_2 0 rfl ?_
        refine z_aload_n hX dX5_skip_3 2 rfl ?_
        refine zk_callV1 hX hi rfl (ok_J0_length_8abf5 l hi) cv_RX5_203 dX5_skip_4 (by decide) rfl rfl (Nat.le_of_ble_eq_true rfl) ?_
        refine z_icmp_ge (tgt := 65) hX dX5_skip_7 (by decide) (fun h7 => ?_) (fun h7 => ?_)
        · skip
          exact z_vret hX dX5_skip_65 (by decide) (fun _ h => by rw [hR]; exact h)
        · skip
          refine z_aload_n hX dX5_skip_10 1 rfl ?_
          refine zg_X5_isWrong hX fl_RX5_207 dX5_skip_11 ?_
          refine z_isv (show _ = 1 from rfl) ?_
          refine z_if_ne (tgt := 65) hX dX5_skip_14 (by decide) (fun h14 => ?_) (fun h14 => absurd h14 (by decide))
          exact z_vret hX dX5_skip_65 (by decide) (fun _ h => by rw [hR]; exact h)
  refine z_sub [1, 2, 0] rfl ?_
  exact hL (sB i).length 0 p0 (Nat.sub_zero _) (Nat.zero_le _) hp (by rw [List.drop_zero])
set_option maxHeartbeats 4000000 in
set_option maxRecDepth 100000 in
theorem no_skip (l : Launch) {g : zG} {κ : zKp} {μ : zMu} {ω : zOm} {n0 p0 m0 : Nat} {a b y : Nat → Int32} (hY : μ 7 = y) (hn : n0 ≤ 60) (ha4 : a 4 = nI n0) {i : Nat} (hi : i < 43)  : zM l g yX5_skip cX5_skip 3 none 5 0 [.ref (gA g 10 0 0), .ref (gAK g i)] κ (zN μ (rT a p0 1 m0) b) ω κ (zN μ (rT a p0 1 m0) b) ω none := by
  refine zM_of (by decide) (Nat.le_of_ble_eq_true rfl) (fun p e R s m args below meth c hX => ?_)
  show zZ p l e R s m args below meth c g 3 _ _ _ _ 0 0 [(0, .ref (gA g 10 0 0)), (1, .ref (gAK g i))] []
  refine z_iconst (v := 0) hX dX5_skip_0 (by decide) ?_
  refine z_istore_n (lv' := [(2, _), (0, _), (1, _)]) hX dX5_skip_1 (by decide) rfl ?_
  refine z_iload_n hX dX5_skip_2 0 rfl ?_
  refine z_aload_n hX dX5_skip_3 2 rfl ?_
  refine zk_callV1 hX hi rfl (ok_J0_length_8abf5 l hi) cv_RX5_203 dX5_skip_4 (by decide) rfl rfl (Nat.le_of_ble_eq_true rfl) ?_
  refine z_icmp_ge (tgt := 65) hX dX5_skip_7 (by decide) (fun h7 => ?_) (fun h7 => ?_)
  · skip
    exact z_vret hX dX5_skip_65 (by decide) (fun _ h => h)
  · skip
    refine z_aload_n hX dX5_skip_10 1 rfl ?_
    refine zg_X5_isWrong hX fl_RX5_207 dX5_skip_11 ?_
    refine z_isv (show _ = 1 from rfl) ?_
    refine z_if_ne (tgt := 65) hX dX5_skip_14 (by decide) (fun h14 => ?_) (fun h14 => absurd h14 (by decide))
    exact z_vret hX dX5_skip_65 (by decide) (fun _ h => h)
set_option maxHeartbeats 4000000 in
set_option maxRecDepth 100000 in
theorem ok_isDigit (l : Launch) {g : zG} {κ : zKp} {μ : zMu} {ω : zOm} {n0 p0 m0 : Nat} {a b y : Nat → Int32} (hY : μ 7 = y) (hn : n0 ≤ 60) (ha4 : a 4 = nI n0) (hp : p0 ≤ n0) (hq : dgAt y n0 p0)  : zM l g yX5_isDigit cX5_isDigit 1 (some .boolean) 3 0 [.ref (gA g 10 0 0)] κ (zN μ (rT a p0 0 m0) b) ω κ (zN μ (rT a p0 0 m0) b) ω (some (.int 1)) := by
  refine zM_of (by decide) (Nat.le_of_ble_eq_true rfl) (fun p e R s m args below meth c hX => ?_)
  show zZ p l e R s m args below meth c g 1 _ _ _ _ 0 0 [(0, .ref (gA g 10 0 0))] []
  refine z_aload_n hX dX5_isDigit_0 0 rfl ?_
  refine zg_X5_isWrong hX fl_RX5_207 dX5_isDigit_1 ?_
  refine z_isv (show _ = 0 from rfl) ?_
  refine z_if_ne (tgt := 25) hX dX5_isDigit_4 (by decide) (fun h4 => absurd h4 (by decide)) (fun h4 => ?_)
  refine z_aload_n hX dX5_isDigit_7 0 rfl ?_
  refine z_callV1 hX (in_behind l hY hn ha4 hp hq.1) cv_RX5_211 zRc10 dX5_isDigit_8 (by decide) rfl rfl (Nat.le_of_ble_eq_true rfl) ?_
  refine z_bipush (v := 48) hX dX5_isDigit_11 (by decide) ?_
  refine z_bipush (v := 57) hX dX5_isDigit_13 (by decide) ?_
  refine z_callS1 hX (ok_X5_in l) cs_RX5_54 dX5_isDigit_15 (by decide) rfl rfl (Nat.le_of_ble_eq_true rfl) ?_
  refine z_isv (if_pos hq.2) ?_
  refine z_if_eq (tgt := 25) hX dX5_isDigit_18 (by decide) (fun h18 => absurd h18 (by decide)) (fun h18 => ?_)
  refine z_iconst (v := 1) hX dX5_isDigit_21 (by decide) ?_
  refine z_goto (tgt := 26) hX dX5_isDigit_22 (by decide) ?_
  exact z_iret hX dX5_isDigit_26 (by decide) rfl rfl (fun _ h => h)
set_option maxHeartbeats 4000000 in
set_option maxRecDepth 100000 in
theorem no_isDigit (l : Launch) {g : zG} {κ : zKp} {μ : zMu} {ω : zOm} {n0 p0 m0 : Nat} {a b y : Nat → Int32} (hY : μ 7 = y) (hn : n0 ≤ 60) (ha4 : a 4 = nI n0) (hp : p0 ≤ n0) (hq : ¬ dgAt y n0 p0)  : zM l g yX5_isDigit cX5_isDigit 1 (some .boolean) 3 0 [.ref (gA g 10 0 0)] κ (zN μ (rT a p0 0 m0) b) ω κ (zN μ (rT a p0 0 m0) b) ω (some (.int 0)) := by
  refine zM_of (by decide) (Nat.le_of_ble_eq_true rfl) (fun p e R s m args below meth c hX => ?_)
  show zZ p l e R s m args below meth c g 1 _ _ _ _ 0 0 [(0, .ref (gA g 10 0 0))] []
  refine z_aload_n hX dX5_isDigit_0 0 rfl ?_
  refine zg_X5_isWrong hX fl_RX5_207 dX5_isDigit_1 ?_
  refine z_isv (show _ = 0 from rfl) ?_
  refine z_if_ne (tgt := 25) hX dX5_isDigit_4 (by decide) (fun h4 => absurd h4 (by decide)) (fun h4 => ?_)
  refine z_aload_n hX dX5_isDigit_7 0 rfl ?_
  by_cases hw : p0 < n0
  · skip
    refine z_callV1 hX (in_behind l hY hn ha4 hp hw) cv_RX5_211 zRc10 dX5_isDigit_8 (by decide) rfl rfl (Nat.le_of_ble_eq_true rfl) ?_
    refine z_bipush (v := 48) hX dX5_isDigit_11 (by decide) ?_
    refine z_bipush (v := 57) hX dX5_isDigit_13 (by decide) ?_
    refine z_callS1 hX (ok_X5_in l) cs_RX5_54 dX5_isDigit_15 (by decide) rfl rfl (Nat.le_of_ble_eq_true rfl) ?_
    refine z_isv (if_neg (fun q => hq ⟨hw, q⟩)) ?_
    refine z_if_eq (tgt := 25) hX dX5_isDigit_18 (by decide) (fun h18 => ?_) (fun h18 => absurd h18 (by decide))
    refine z_iconst (v := 0) hX dX5_isDigit_25 (by decide) ?_
    exact z_iret hX dX5_isDigit_26 (by decide) rfl rfl (fun _ h => h)
  · skip
    refine z_callV1 hX (out_behind l hY hn ha4 hp hw) cv_RX5_211 zRc10 dX5_isDigit_8 (by decide) rfl rfl (Nat.le_of_ble_eq_true rfl) ?_
    refine z_bipush (v := 48) hX dX5_isDigit_11 (by decide) ?_
    refine z_bipush (v := 57) hX dX5_isDigit_13 (by decide) ?_
    refine z_callS1 hX (ok_X5_in l) cs_RX5_54 dX5_isDigit_15 (by decide) rfl rfl (Nat.le_of_ble_eq_true rfl) ?_
    refine z_isv (if_neg (by decide)) ?_
    refine z_if_eq (tgt := 25) hX dX5_isDigit_18 (by decide) (fun h18 => ?_) (fun h18 => absurd h18 (by decide))
    refine z_iconst (v := 0) hX dX5_isDigit_25 (by decide) ?_
    exact z_iret hX dX5_isDigit_26 (by decide) rfl rfl (fun _ h => h)
set_option maxHeartbeats 4000000 in
set_option maxRecDepth 100000 in
theorem wr_isDigit (l : Launch) {g : zG} {κ : zKp} {μ : zMu} {ω : zOm} {n0 p0 m0 : Nat} {a b y : Nat → Int32} (hY : μ 7 = y) (hn : n0 ≤ 60) (ha4 : a 4 = nI n0)  : zM l g yX5_isDigit cX5_isDigit 1 (some .boolean) 3 0 [.ref (gA g 10 0 0)] κ (zN μ (rT a p0 1 m0) b) ω κ (zN μ (rT a p0 1 m0) b) ω (some (.int 0)) := by
  refine zM_of (by decide) (Nat.le_of_ble_eq_true rfl) (fun p e R s m args below meth c hX => ?_)
  show zZ p l e R s m args below meth c g 1 _ _ _ _ 0 0 [(0, .ref (gA g 10 0 0))] []
  refine z_aload_n hX dX5_isDigit_0 0 rfl ?_
  refine zg_X5_isWrong hX fl_RX5_207 dX5_isDigit_1 ?_
  refine z_isv (show _ = 1 from rfl) ?_
  refine z_if_ne (tgt := 25) hX dX5_isDigit_4 (by decide) (fun h4 => ?_) (fun h4 => absurd h4 (by decide))
  refine z_iconst (v := 0) hX dX5_isDigit_25 (by decide) ?_
  exact z_iret hX dX5_isDigit_26 (by decide) rfl rfl (fun _ h => h)
set_option maxHeartbeats 4000000 in
set_option maxRecDepth 100000 in
theorem wr_readNumber (l : Launch) {g : zG} {κ : zKp} {μ : zMu} {ω : zOm} {n0 p0 m0 : Nat} {a b y : Nat → Int32} (hY : μ 7 = y) (hn : n0 ≤ 60) (ha4 : a 4 = nI n0) {x : Int32} (hx : ¬ x ≤ 0)  : zM l g yX5_readNumber cX5_readNumber 4 (some .int) 6 0 [.ref (gA g 10 0 0), .int x] κ (zN μ (rT a p0 1 m0) b) ω κ (zN μ (rT a p0 1 m0) b) ω (some (.int 0)) := by
  refine zM_of (by decide) (Nat.le_of_ble_eq_true rfl) (fun p e R s m args below meth c hX => ?_)
  show zZ p l e R s m args below meth c g 4 _ _ _ _ 0 0 [(0, .ref (gA g 10 0 0)), (1, .int x)] []
  refine z_aload_n hX dX5_readNumber_0 0 rfl ?_
  refine zk_ldc hX (i := 39) rfl dX5_readNumber_1 ?_
  refine z_callV0 hX (no_skip l hY hn ha4 (by decide : 39 < 43)) cv_RX5_220 zRc10 dX5_readNumber_3 (by decide) rfl rfl (Nat.le_of_ble_eq_true rfl) ?_
  refine z_aload_n hX dX5_readNumber_6 0 rfl ?_
  refine z_aload_n hX dX5_readNumber_7 0 rfl ?_
  refine zg_X5_isWrong hX fl_RX5_207 dX5_readNumber_8 ?_
  refine z_isv (show _ = 1 from rfl) ?_
  refine z_if_ne (tgt := 21) hX dX5_readNumber_11 (by decide) (fun h11 => ?_) (fun h11 => absurd h11 (by decide))
  refine z_iconst (v := 1) hX dX5_readNumber_21 (by decide) ?_
  refine z_goto (tgt := 26) hX dX5_readNumber_22 (by decide) ?_
  refine zp_X5_isWrong hX rfl rfl fl_RX5_207 dX5_readNumber_26 ?_
  rw [rT_6]
  refine z_iconst (v := 0) hX dX5_readNumber_29 (by decide) ?_
  refine z_istore_n (lv' := [(2, _), (0, _), (1, _)]) hX dX5_readNumber_30 (by decide) rfl ?_
  refine z_iconst (v := 0) hX dX5_readNumber_31 (by decide) ?_
  refine z_istore_n (lv' := [(3, _), (2, _), (0, _), (1, _)]) hX dX5_readNumber_32 (by decide) rfl ?_
  refine z_iload_n hX dX5_readNumber_33 0 rfl ?_
  refine z_iload_n hX dX5_readNumber_34 3 rfl ?_
  refine z_icmp_ge (tgt := 79) hX dX5_readNumber_35 (by decide) (fun h35 => absurd h35 hx) (fun h35 => ?_)
  refine z_aload_n hX dX5_readNumber_38 2 rfl ?_
  refine z_callV1 hX (wr_isDigit l hY hn ha4) cv_RX5_224 zRc10 dX5_readNumber_39 (by decide) rfl rfl (Nat.le_of_ble_eq_true rfl) ?_
  refine z_if_eq (tgt := 79) hX dX5_readNumber_42 (by decide) (fun h42 => ?_) (fun h42 => absurd h42 (by decide))
  refine z_iload_n hX dX5_readNumber_79 1 rfl ?_
  exact z_iretI hX dX5_readNumber_80 (by decide) rfl (fun _ h => h)
theorem rn_1 (z : Int32) : (10 * 0 + z) - 48 = z - 48 := by rw [Int32.mul_zero, Int32.zero_add]
theorem rn_2 (x z : Int32) : (10 * x + z) - 48 = x * 10 + (z - 48) := by rw [Int32.mul_comm, Int32.sub_eq_add_neg, Int32.sub_eq_add_neg, Int32.add_assoc]
set_option maxHeartbeats 4000000 in
set_option maxRecDepth 100000 in
theorem ok_rn1 (l : Launch) {g : zG} {κ : zKp} {μ : zMu} {ω : zOm} {n0 p0 m0 : Nat} {a b y : Nat → Int32} (hY : μ 7 = y) (hn : n0 ≤ 60) (ha4 : a 4 = nI n0) (hp : p0 ≤ n0)  : zM l g yX5_readNumber cX5_readNumber 4 (some .int) 6 0 [.ref (gA g 10 0 0), .int 1] κ (zN μ (rT a p0 0 m0) b) ω κ (zN μ (rT a ((n1B y n0 p0).2.1) (wrB (n1B y n0 p0).1) m0) b) ω (some (.int (if (n1B y n0 p0).1 = true then (n1B y n0 p0).2.2 else 0))) := by
  refine zM_of (by decide) (Nat.le_of_ble_eq_true rfl) (fun p e R s m args below meth c hX => ?_)
  show zZ p l e R s m args below meth c g 4 _ _ _ _ 0 0 [(0, .ref (gA g 10 0 0)), (1, .int 1)] []
  rcases n1_c y n0 p0 with ⟨h1, hR⟩ | ⟨h1, h2, hR⟩ | ⟨h1, h2, hR⟩
  · skip
    refine z_aload_n hX dX5_readNumber_0 0 rfl ?_
    refine zk_ldc hX (i := 39) rfl dX5_readNumber_1 ?_
    refine z_callV0 hX (ok_skip l hY hn ha4 hp (by decide : 39 < 43)) cv_RX5_220 zRc10 dX5_readNumber_3 (by decide) rfl rfl (Nat.le_of_ble_eq_true rfl) ?_
    refine z_world (μ' := zN μ (rT a p0 1 m0) b) (fun _ h => by rw [wd_sp, if_neg h1] at h; exact h) ?_
    refine z_aload_n hX dX5_readNumber_6 0 rfl ?_
    refine z_aload_n hX dX5_readNumber_7 0 rfl ?_
    refine zg_X5_isWrong hX fl_RX5_207 dX5_readNumber_8 ?_
    refine z_isv (show _ = 1 from rfl) ?_
    refine z_if_ne (tgt := 21) hX dX5_readNumber_11 (by decide) (fun h11 => ?_) (fun h11 => absurd h11 (by decide))
    refine z_iconst (v := 1) hX dX5_readNumber_21 (by decide) ?_
    refine z_goto (tgt := 26) hX dX5_readNumber_22 (by decide) ?_
    refine zp_X5_isWrong hX rfl rfl fl_RX5_207 dX5_readNumber_26 ?_
    rw [rT_6]
    refine z_iconst (v := 0) hX dX5_readNumber_29 (by decide) ?_
    refine z_istore_n (lv' := [(2, _), (0, _), (1, _)]) hX dX5_readNumber_30 (by decide) rfl ?_
    refine z_iconst (v := 0) hX dX5_readNumber_31 (by decide) ?_
    refine z_istore_n (lv' := [(3, _), (2, _), (0, _), (1, _)]) hX dX5_readNumber_32 (by decide) rfl ?_
    refine z_iload_n hX dX5_readNumber_33 0 rfl ?_
    refine z_iload_n hX dX5_readNumber_34 3 rfl ?_
    refine z_icmp_ge (tgt := 79) hX dX5_readNumber_35 (by decide) (fun h35 => absurd h35 (by decide)) (fun h35 => ?_)
    refine z_aload_n hX dX5_readNumber_38 2 rfl ?_
    refine z_callV1 hX (wr_isDigit l hY hn ha4) cv_RX5_224 zRc10 dX5_readNumber_39 (by decide) rfl rfl (Nat.le_of_ble_eq_true rfl) ?_
    refine z_if_eq (tgt := 79) hX dX5_readNumber_42 (by decide) (fun h42 => ?_) (fun h42 => absurd h42 (by decide))
    refine z_iload_n hX dX5_readNumber_79 1 rfl ?_
    exact z_iretI hX dX5_readNumber_80 (by decide) (by rw [hR]; rfl) (fun _ h => by rw [hR]; exact h)
  · skip
    refine z_aload_n hX dX5_readNumber_0 0 rfl ?_
    refine zk_ldc hX (i := 39) rfl dX5_readNumber_1 ?_
    refine z_callV0 hX (ok_skip l hY hn ha4 hp (by decide : 39 < 43)) cv_RX5_220 zRc10 dX5_readNumber_3 (by decide) rfl rfl (Nat.le_of_ble_eq_true rfl) ?_
    refine z_world (μ' := zN μ (rT a (p0 + 1) 0 m0) b) (fun _ h => by rw [wd_sp, if_pos h1] at h; exact h) ?_
    refine z_aload_n hX dX5_readNumber_6 0 rfl ?_
    refine z_aload_n hX dX5_readNumber_7 0 rfl ?_
    refine zg_X5_isWrong hX fl_RX5_207 dX5_readNumber_8 ?_
    refine z_isv (show _ = 0 from rfl) ?_
    refine z_if_ne (tgt := 21) hX dX5_readNumber_11 (by decide) (fun h11 => absurd h11 (by decide)) (fun h11 => ?_)
    refine z_aload_n hX dX5_readNumber_14 0 rfl ?_
    refine z_callV1 hX (no_isDigit l hY hn ha4 h1.1 h2) cv_RX5_224 zRc10 dX5_readNumber_15 (by decide) rfl rfl (Nat.le_of_ble_eq_true rfl) ?_
    refine z_if_ne (tgt := 25) hX dX5_readNumber_18 (by decide) (fun h18 => absurd h18 (by decide)) (fun h18 => ?_)
    refine z_iconst (v := 1) hX dX5_readNumber_21 (by decide) ?_
    refine z_goto (tgt := 26) hX dX5_readNumber_22 (by decide) ?_
    refine zp_X5_isWrong hX rfl rfl fl_RX5_207 dX5_readNumber_26 ?_
    rw [rT_6]
    refine z_iconst (v := 0) hX dX5_readNumber_29 (by decide) ?_
    refine z_istore_n (lv' := [(2, _), (0, _), (1, _)]) hX dX5_readNumber_30 (by decide) rfl ?_
    refine z_iconst (v := 0) hX dX5_readNumber_31 (by decide) ?_
    refine z_istore_n (lv' := [(3, _), (2, _), (0, _), (1, _)]) hX dX5_readNumber_32 (by decide) rfl ?_
    refine z_iload_n hX dX5_readNumber_33 0 rfl ?_
    refine z_iload_n hX dX5_readNumber_34 3 rfl ?_
    refine z_icmp_ge (tgt := 79) hX dX5_readNumber_35 (by decide) (fun h35 => absurd h35 (by decide)) (fun h35 => ?_)
    refine z_aload_n hX dX5_readNumber_38 2 rfl ?_
    refine z_callV1 hX (wr_isDigit l hY hn ha4) cv_RX5_224 zRc10 dX5_readNumber_39 (by decide) rfl rfl (Nat.le_of_ble_eq_true rfl) ?_
    refine z_if_eq (tgt := 79) hX dX5_readNumber_42 (by decide) (fun h42 => ?_) (fun h42 => absurd h42 (by decide))
    refine z_iload_n hX dX5_readNumber_79 1 rfl ?_
    exact z_iretI hX dX5_readNumber_80 (by decide) (by rw [hR]; rfl) (fun _ h => by rw [hR]; exact h)
  · skip
    refine z_aload_n hX dX5_readNumber_0 0 rfl ?_
    refine zk_ldc hX (i := 39) rfl dX5_readNumber_1 ?_
    refine z_callV0 hX (ok_skip l hY hn ha4 hp (by decide : 39 < 43)) cv_RX5_220 zRc10 dX5_readNumber_3 (by decide) rfl rfl (Nat.le_of_ble_eq_true rfl) ?_
    refine z_world (μ' := zN μ (rT a (p0 + 1) 0 m0) b) (fun _ h => by rw [wd_sp, if_pos h1] at h; exact h) ?_
    refine z_aload_n hX dX5_readNumber_6 0 rfl ?_
    refine z_aload_n hX dX5_readNumber_7 0 rfl ?_
    refine zg_X5_isWrong hX fl_RX5_207 dX5_readNumber_8 ?_
    refine z_isv (show _ = 0 from rfl) ?_
    refine z_if_ne (tgt := 21) hX dX5_readNumber_11 (by decide) (fun h11 => absurd h11 (by decide)) (fun h11 => ?_)
    refine z_aload_n hX dX5_readNumber_14 0 rfl ?_
    refine z_callV1 hX (ok_isDigit l hY hn ha4 h1.1 h2) cv_RX5_224 zRc10 dX5_readNumber_15 (by decide) rfl rfl (Nat.le_of_ble_eq_true rfl) ?_
    refine z_if_ne (tgt := 25) hX dX5_readNumber_18 (by decide) (fun h18 => ?_) (fun h18 => absurd h18 (by decide))
    refine z_iconst (v := 0) hX dX5_readNumber_25 (by decide) ?_
    refine zp_X5_isWrong hX rfl rfl fl_RX5_207 dX5_readNumber_26 ?_
    rw [rT_6]
    refine z_iconst (v := 0) hX dX5_readNumber_29 (by decide) ?_
    refine z_istore_n (lv' := [(2, _), (0, _), (1, _)]) hX dX5_readNumber_30 (by decide) rfl ?_
    refine z_iconst (v := 0) hX dX5_readNumber_31 (by decide) ?_
    refine z_istore_n (lv' := [(3, _), (2, _), (0, _), (1, _)]) hX dX5_readNumber_32 (by decide) rfl ?_
    refine z_iload_n hX dX5_readNumber_33 0 rfl ?_
    refine z_iload_n hX dX5_readNumber_34 3 rfl ?_
    refine z_icmp_ge (tgt := 79) hX dX5_readNumber_35 (by decide) (fun h35 => absurd h35 (by decide)) (fun h35 => ?_)
    refine z_aload_n hX dX5_readNumber_38 2 rfl ?_
    refine z_callV1 hX (ok_isDigit l hY hn ha4 h1.1 h2) cv_RX5_224 zRc10 dX5_readNumber_39 (by decide) rfl rfl (Nat.le_of_ble_eq_true rfl) ?_
    refine z_if_eq (tgt := 79) hX dX5_readNumber_42 (by decide) (fun h42 => absurd h42 (by decide)) (fun h42 => ?_)
    refine z_bipush (v := 10) hX dX5_readNumber_45 (by decide) ?_
    refine z_iload_n hX dX5_readNumber_47 1 rfl ?_
    refine z_imul hX dX5_readNumber_48 ?_
    refine z_aload_n hX dX5_readNumber_49 2 rfl ?_
    refine zg_X5_text hX   fl_RX5_29 dX5_readNumber_50 ?_
    refine z_aload_n hX dX5_readNumber_53 2 rfl ?_
    refine zg_X5_at hX fl_RX5_200 dX5_readNumber_54 ?_
    refine z_isv (show _ = nI (p0 + 1) from rfl) ?_
    refine za_text hX  rfl (by have := h2.1; omega) dX5_readNumber_57 ?_
    refine z_isv (congrFun hY _) ?_
    refine z_iadd hX dX5_readNumber_58 ?_
    refine z_bipush (v := 48) hX dX5_readNumber_59 (by decide) ?_
    refine z_isub hX dX5_readNumber_61 ?_
    refine z_isv (show _ = y (p0 + 1) - 48 from rn_1 _) ?_
    refine z_istore_n (lv' := [(2, _), (3, _), (0, _), (1, _)]) hX dX5_readNumber_62 (by decide) rfl ?_
    refine z_aload_n hX dX5_readNumber_63 2 rfl ?_
    refine z_dup hX dX5_readNumber_64 rfl ?_
    refine zg_X5_at hX fl_RX5_200 dX5_readNumber_65 ?_
    refine z_isv (show _ = nI (p0 + 1) from rfl) ?_
    refine z_iconst (v := 1) hX dX5_readNumber_68 (by decide) ?_
    refine z_iadd hX dX5_readNumber_69 ?_
    refine z_isv (nI_1 (p0 + 1)) ?_
    refine zp_X5_at hX  fl_RX5_200 dX5_readNumber_70 ?_
    rw [rT_5]
    skip
    · skip
      refine z_iinc (lv' := [(3, _), (2, _), (0, _), (1, _)]) hX dX5_readNumber_73 1 rfl rfl (by decide) rfl ?_
      refine z_goto (tgt := 33) hX dX5_readNumber_76 (by decide) ?_
      refine z_iload_n hX dX5_readNumber_33 0 rfl ?_
      refine z_iload_n hX dX5_readNumber_34 3 rfl ?_
      refine z_icmp_ge (tgt := 79) hX dX5_readNumber_35 (by decide) (fun h35 => ?_) (fun h35 => absurd h35 (Classical.not_not.mpr (by decide)))
      refine z_iload_n hX dX5_readNumber_79 1 rfl ?_
      exact z_iretI hX dX5_readNumber_80 (by decide) (by rw [hR]; rfl) (fun _ h => by rw [hR]; exact h)
set_option maxHeartbeats 4000000 in
set_option maxRecDepth 100000 in
theorem ok_rn2 (l : Launch) {g : zG} {κ : zKp} {μ : zMu} {ω : zOm} {n0 p0 m0 : Nat} {a b y : Nat → Int32} (hY : μ 7 = y) (hn : n0 ≤ 60) (ha4 : a 4 = nI n0) (hp : p0 ≤ n0)  : zM l g yX5_readNumber cX5_readNumber 4 (some .int) 6 0 [.ref (gA g 10 0 0), .int 2] κ (zN μ (rT a p0 0 m0) b) ω κ (zN μ (rT a ((nmB y n0 p0).2.1) (wrB (nmB y n0 p0).1) m0) b) ω (some (.int (if (nmB y n0 p0).1 = true then (nmB y n0 p0).2.2 else 0))) := by
  refine zM_of (by decide) (Nat.le_of_ble_eq_true rfl) (fun p e R s m args below meth c hX => ?_)
  show zZ p l e R s m args below meth c g 4 _ _ _ _ 0 0 [(0, .ref (gA g 10 0 0)), (1, .int 2)] []
  rcases nm_c y n0 p0 with ⟨h1, hR⟩ | ⟨h1, h2, hR⟩ | ⟨h1, h2, h3, hR⟩ | ⟨h1, h2, h3, hR⟩
  · skip
    refine z_aload_n hX dX5_readNumber_0 0 rfl ?_
    refine zk_ldc hX (i := 39) rfl dX5_readNumber_1 ?_
    refine z_callV0 hX (ok_skip l hY hn ha4 hp (by decide : 39 < 43)) cv_RX5_220 zRc10 dX5_readNumber_3 (by decide) rfl rfl (Nat.le_of_ble_eq_true rfl) ?_
    refine z_world (μ' := zN μ (rT a p0 1 m0) b) (fun _ h => by rw [wd_sp, if_neg h1] at h; exact h) ?_
    refine z_aload_n hX dX5_readNumber_6 0 rfl ?_
    refine z_aload_n hX dX5_readNumber_7 0 rfl ?_
    refine zg_X5_isWrong hX fl_RX5_207 dX5_readNumber_8 ?_
    refine z_isv (show _ = 1 from rfl) ?_
    refine z_if_ne (tgt := 21) hX dX5_readNumber_11 (by decide) (fun h11 => ?_) (fun h11 => absurd h11 (by decide))
    refine z_iconst (v := 1) hX dX5_readNumber_21 (by decide) ?_
    refine z_goto (tgt := 26) hX dX5_readNumber_22 (by decide) ?_
    refine zp_X5_isWrong hX rfl rfl fl_RX5_207 dX5_readNumber_26 ?_
    rw [rT_6]
    refine z_iconst (v := 0) hX dX5_readNumber_29 (by decide) ?_
    refine z_istore_n (lv' := [(2, _), (0, _), (1, _)]) hX dX5_readNumber_30 (by decide) rfl ?_
    refine z_iconst (v := 0) hX dX5_readNumber_31 (by decide) ?_
    refine z_istore_n (lv' := [(3, _), (2, _), (0, _), (1, _)]) hX dX5_readNumber_32 (by decide) rfl ?_
    refine z_iload_n hX dX5_readNumber_33 0 rfl ?_
    refine z_iload_n hX dX5_readNumber_34 3 rfl ?_
    refine z_icmp_ge (tgt := 79) hX dX5_readNumber_35 (by decide) (fun h35 => absurd h35 (by decide)) (fun h35 => ?_)
    refine z_aload_n hX dX5_readNumber_38 2 rfl ?_
    refine z_callV1 hX (wr_isDigit l hY hn ha4) cv_RX5_224 zRc10 dX5_readNumber_39 (by decide) rfl rfl (Nat.le_of_ble_eq_true rfl) ?_
    refine z_if_eq (tgt := 79) hX dX5_readNumber_42 (by decide) (fun h42 => ?_) (fun h42 => absurd h42 (by decide))
    refine z_iload_n hX dX5_readNumber_79 1 rfl ?_
    exact z_iretI hX dX5_readNumber_80 (by decide) (by rw [hR]; rfl) (fun _ h => by rw [hR]; exact h)
  · skip
    refine z_aload_n hX dX5_readNumber_0 0 rfl ?_
    refine zk_ldc hX (i := 39) rfl dX5_readNumber_1 ?_
    refine z_callV0 hX (ok_skip l hY hn ha4 hp (by decide : 39 < 43)) cv_RX5_220 zRc10 dX5_readNumber_3 (by decide) rfl rfl (Nat.le_of_ble_eq_true rfl) ?_
    refine z_world (μ' := zN μ (rT a (p0 + 1) 0 m0) b) (fun _ h => by rw [wd_sp, if_pos h1] at h; exact h) ?_
    refine z_aload_n hX dX5_readNumber_6 0 rfl ?_
    refine z_aload_n hX dX5_readNumber_7 0 rfl ?_
    refine zg_X5_isWrong hX fl_RX5_207 dX5_readNumber_8 ?_
    refine z_isv (show _ = 0 from rfl) ?_
    refine z_if_ne (tgt := 21) hX dX5_readNumber_11 (by decide) (fun h11 => absurd h11 (by decide)) (fun h11 => ?_)
    refine z_aload_n hX dX5_readNumber_14 0 rfl ?_
    refine z_callV1 hX (no_isDigit l hY hn ha4 h1.1 h2) cv_RX5_224 zRc10 dX5_readNumber_15 (by decide) rfl rfl (Nat.le_of_ble_eq_true rfl) ?_
    refine z_if_ne (tgt := 25) hX dX5_readNumber_18 (by decide) (fun h18 => absurd h18 (by decide)) (fun h18 => ?_)
    refine z_iconst (v := 1) hX dX5_readNumber_21 (by decide) ?_
    refine z_goto (tgt := 26) hX dX5_readNumber_22 (by decide) ?_
    refine zp_X5_isWrong hX rfl rfl fl_RX5_207 dX5_readNumber_26 ?_
    rw [rT_6]
    refine z_iconst (v := 0) hX dX5_readNumber_29 (by decide) ?_
    refine z_istore_n (lv' := [(2, _), (0, _), (1, _)]) hX dX5_readNumber_30 (by decide) rfl ?_
    refine z_iconst (v := 0) hX dX5_readNumber_31 (by decide) ?_
    refine z_istore_n (lv' := [(3, _), (2, _), (0, _), (1, _)]) hX dX5_readNumber_32 (by decide) rfl ?_
    refine z_iload_n hX dX5_readNumber_33 0 rfl ?_
    refine z_iload_n hX dX5_readNumber_34 3 rfl ?_
    refine z_icmp_ge (tgt := 79) hX dX5_readNumber_35 (by decide) (fun h35 => absurd h35 (by decide)) (fun h35 => ?_)
    refine z_aload_n hX dX5_readNumber_38 2 rfl ?_
    refine z_callV1 hX (wr_isDigit l hY hn ha4) cv_RX5_224 zRc10 dX5_readNumber_39 (by decide) rfl rfl (Nat.le_of_ble_eq_true rfl) ?_
    refine z_if_eq (tgt := 79) hX dX5_readNumber_42 (by decide) (fun h42 => ?_) (fun h42 => absurd h42 (by decide))
    refine z_iload_n hX dX5_readNumber_79 1 rfl ?_
    exact z_iretI hX dX5_readNumber_80 (by decide) (by rw [hR]; rfl) (fun _ h => by rw [hR]; exact h)
  · skip
    refine z_aload_n hX dX5_readNumber_0 0 rfl ?_
    refine zk_ldc hX (i := 39) rfl dX5_readNumber_1 ?_
    refine z_callV0 hX (ok_skip l hY hn ha4 hp (by decide : 39 < 43)) cv_RX5_220 zRc10 dX5_readNumber_3 (by decide) rfl rfl (Nat.le_of_ble_eq_true rfl) ?_
    refine z_world (μ' := zN μ (rT a (p0 + 1) 0 m0) b) (fun _ h => by rw [wd_sp, if_pos h1] at h; exact h) ?_
    refine z_aload_n hX dX5_readNumber_6 0 rfl ?_
    refine z_aload_n hX dX5_readNumber_7 0 rfl ?_
    refine zg_X5_isWrong hX fl_RX5_207 dX5_readNumber_8 ?_
    refine z_isv (show _ = 0 from rfl) ?_
    refine z_if_ne (tgt := 21) hX dX5_readNumber_11 (by decide) (fun h11 => absurd h11 (by decide)) (fun h11 => ?_)
    refine z_aload_n hX dX5_readNumber_14 0 rfl ?_
    refine z_callV1 hX (ok_isDigit l hY hn ha4 h1.1 h2) cv_RX5_224 zRc10 dX5_readNumber_15 (by decide) rfl rfl (Nat.le_of_ble_eq_true rfl) ?_
    refine z_if_ne (tgt := 25) hX dX5_readNumber_18 (by decide) (fun h18 => ?_) (fun h18 => absurd h18 (by decide))
    refine z_iconst (v := 0) hX dX5_readNumber_25 (by decide) ?_
    refine zp_X5_isWrong hX rfl rfl fl_RX5_207 dX5_readNumber_26 ?_
    rw [rT_6]
    refine z_iconst (v := 0) hX dX5_readNumber_29 (by decide) ?_
    refine z_istore_n (lv' := [(2, _), (0, _), (1, _)]) hX dX5_readNumber_30 (by decide) rfl ?_
    refine z_iconst (v := 0) hX dX5_readNumber_31 (by decide) ?_
    refine z_istore_n (lv' := [(3, _), (2, _), (0, _), (1, _)]) hX dX5_readNumber_32 (by decide) rfl ?_
    refine z_iload_n hX dX5_readNumber_33 0 rfl ?_
    refine z_iload_n hX dX5_readNumber_34 3 rfl ?_
    refine z_icmp_ge (tgt := 79) hX dX5_readNumber_35 (by decide) (fun h35 => absurd h35 (by decide)) (fun h35 => ?_)
    refine z_aload_n hX dX5_readNumber_38 2 rfl ?_
    refine z_callV1 hX (ok_isDigit l hY hn ha4 h1.1 h2) cv_RX5_224 zRc10 dX5_readNumber_39 (by decide) rfl rfl (Nat.le_of_ble_eq_true rfl) ?_
    refine z_if_eq (tgt := 79) hX dX5_readNumber_42 (by decide) (fun h42 => absurd h42 (by decide)) (fun h42 => ?_)
    refine z_bipush (v := 10) hX dX5_readNumber_45 (by decide) ?_
    refine z_iload_n hX dX5_readNumber_47 1 rfl ?_
    refine z_imul hX dX5_readNumber_48 ?_
    refine z_aload_n hX dX5_readNumber_49 2 rfl ?_
    refine zg_X5_text hX   fl_RX5_29 dX5_readNumber_50 ?_
    refine z_aload_n hX dX5_readNumber_53 2 rfl ?_
    refine zg_X5_at hX fl_RX5_200 dX5_readNumber_54 ?_
    refine z_isv (show _ = nI (p0 + 1) from rfl) ?_
    refine za_text hX  rfl (by have := h2.1; omega) dX5_readNumber_57 ?_
    refine z_isv (congrFun hY _) ?_
    refine z_iadd hX dX5_readNumber_58 ?_
    refine z_bipush (v := 48) hX dX5_readNumber_59 (by decide) ?_
    refine z_isub hX dX5_readNumber_61 ?_
    refine z_isv (show _ = y (p0 + 1) - 48 from rn_1 _) ?_
    refine z_istore_n (lv' := [(2, _), (3, _), (0, _), (1, _)]) hX dX5_readNumber_62 (by decide) rfl ?_
    refine z_aload_n hX dX5_readNumber_63 2 rfl ?_
    refine z_dup hX dX5_readNumber_64 rfl ?_
    refine zg_X5_at hX fl_RX5_200 dX5_readNumber_65 ?_
    refine z_isv (show _ = nI (p0 + 1) from rfl) ?_
    refine z_iconst (v := 1) hX dX5_readNumber_68 (by decide) ?_
    refine z_iadd hX dX5_readNumber_69 ?_
    refine z_isv (nI_1 (p0 + 1)) ?_
    refine zp_X5_at hX  fl_RX5_200 dX5_readNumber_70 ?_
    rw [rT_5]
    skip
    · skip
      refine z_iinc (lv' := [(3, _), (2, _), (0, _), (1, _)]) hX dX5_readNumber_73 1 rfl rfl (by decide) rfl ?_
      refine z_goto (tgt := 33) hX dX5_readNumber_76 (by decide) ?_
      refine z_iload_n hX dX5_readNumber_33 0 rfl ?_
      refine z_iload_n hX dX5_readNumber_34 3 rfl ?_
      refine z_icmp_ge (tgt := 79) hX dX5_readNumber_35 (by decide) (fun h35 => absurd h35 (by decide)) (fun h35 => ?_)
      refine z_aload_n hX dX5_readNumber_38 2 rfl ?_
      refine z_callV1 hX (no_isDigit l hY hn ha4 h2.1 h3) cv_RX5_224 zRc10 dX5_readNumber_39 (by decide) rfl rfl (Nat.le_of_ble_eq_true rfl) ?_
      refine z_if_eq (tgt := 79) hX dX5_readNumber_42 (by decide) (fun h42 => ?_) (fun h42 => absurd h42 (by decide))
      refine z_iload_n hX dX5_readNumber_79 1 rfl ?_
      exact z_iretI hX dX5_readNumber_80 (by decide) (by rw [hR]; rfl) (fun _ h => by rw [hR]; exact h)
  · skip
    refine z_aload_n hX dX5_readNumber_0 0 rfl ?_
    refine zk_ldc hX (i := 39) rfl dX5_readNumber_1 ?_
    refine z_callV0 hX (ok_skip l hY hn ha4 hp (by decide : 39 < 43)) cv_RX5_220 zRc10 dX5_readNumber_3 (by decide) rfl rfl (Nat.le_of_ble_eq_true rfl) ?_
    refine z_world (μ' := zN μ (rT a (p0 + 1) 0 m0) b) (fun _ h => by rw [wd_sp, if_pos h1] at h; exact h) ?_
    refine z_aload_n hX dX5_readNumber_6 0 rfl ?_
    refine z_aload_n hX dX5_readNumber_7 0 rfl ?_
    refine zg_X5_isWrong hX fl_RX5_207 dX5_readNumber_8 ?_
    refine z_isv (show _ = 0 from rfl) ?_
    refine z_if_ne (tgt := 21) hX dX5_readNumber_11 (by decide) (fun h11 => absurd h11 (by decide)) (fun h11 => ?_)
    refine z_aload_n hX dX5_readNumber_14 0 rfl ?_
    refine z_callV1 hX (ok_isDigit l hY hn ha4 h1.1 h2) cv_RX5_224 zRc10 dX5_readNumber_15 (by decide) rfl rfl (Nat.le_of_ble_eq_true rfl) ?_
    refine z_if_ne (tgt := 25) hX dX5_readNumber_18 (by decide) (fun h18 => ?_) (fun h18 => absurd h18 (by decide))
    refine z_iconst (v := 0) hX dX5_readNumber_25 (by decide) ?_
    refine zp_X5_isWrong hX rfl rfl fl_RX5_207 dX5_readNumber_26 ?_
    rw [rT_6]
    refine z_iconst (v := 0) hX dX5_readNumber_29 (by decide) ?_
    refine z_istore_n (lv' := [(2, _), (0, _), (1, _)]) hX dX5_readNumber_30 (by decide) rfl ?_
    refine z_iconst (v := 0) hX dX5_readNumber_31 (by decide) ?_
    refine z_istore_n (lv' := [(3, _), (2, _), (0, _), (1, _)]) hX dX5_readNumber_32 (by decide) rfl ?_
    refine z_iload_n hX dX5_readNumber_33 0 rfl ?_
    refine z_iload_n hX dX5_readNumber_34 3 rfl ?_
    refine z_icmp_ge (tgt := 79) hX dX5_readNumber_35 (by decide) (fun h35 => absurd h35 (by decide)) (fun h35 => ?_)
    refine z_aload_n hX dX5_readNumber_38 2 rfl ?_
    refine z_callV1 hX (ok_isDigit l hY hn ha4 h1.1 h2) cv_RX5_224 zRc10 dX5_readNumber_39 (by decide) rfl rfl (Nat.le_of_ble_eq_true rfl) ?_
    refine z_if_eq (tgt := 79) hX dX5_readNumber_42 (by decide) (fun h42 => absurd h42 (by decide)) (fun h42 => ?_)
    refine z_bipush (v := 10) hX dX5_readNumber_45 (by decide) ?_
    refine z_iload_n hX dX5_readNumber_47 1 rfl ?_
    refine z_imul hX dX5_readNumber_48 ?_
    refine z_aload_n hX dX5_readNumber_49 2 rfl ?_
    refine zg_X5_text hX   fl_RX5_29 dX5_readNumber_50 ?_
    refine z_aload_n hX dX5_readNumber_53 2 rfl ?_
    refine zg_X5_at hX fl_RX5_200 dX5_readNumber_54 ?_
    refine z_isv (show _ = nI (p0 + 1) from rfl) ?_
    refine za_text hX  rfl (by have := h2.1; omega) dX5_readNumber_57 ?_
    refine z_isv (congrFun hY _) ?_
    refine z_iadd hX dX5_readNumber_58 ?_
    refine z_bipush (v := 48) hX dX5_readNumber_59 (by decide) ?_
    refine z_isub hX dX5_readNumber_61 ?_
    refine z_isv (show _ = y (p0 + 1) - 48 from rn_1 _) ?_
    refine z_istore_n (lv' := [(2, _), (3, _), (0, _), (1, _)]) hX dX5_readNumber_62 (by decide) rfl ?_
    refine z_aload_n hX dX5_readNumber_63 2 rfl ?_
    refine z_dup hX dX5_readNumber_64 rfl ?_
    refine zg_X5_at hX fl_RX5_200 dX5_readNumber_65 ?_
    refine z_isv (show _ = nI (p0 + 1) from rfl) ?_
    refine z_iconst (v := 1) hX dX5_readNumber_68 (by decide) ?_
    refine z_iadd hX dX5_readNumber_69 ?_
    refine z_isv (nI_1 (p0 + 1)) ?_
    refine zp_X5_at hX  fl_RX5_200 dX5_readNumber_70 ?_
    rw [rT_5]
    skip
    · skip
      refine z_iinc (lv' := [(3, _), (2, _), (0, _), (1, _)]) hX dX5_readNumber_73 1 rfl rfl (by decide) rfl ?_
      refine z_goto (tgt := 33) hX dX5_readNumber_76 (by decide) ?_
      refine z_iload_n hX dX5_readNumber_33 0 rfl ?_
      refine z_iload_n hX dX5_readNumber_34 3 rfl ?_
      refine z_icmp_ge (tgt := 79) hX dX5_readNumber_35 (by decide) (fun h35 => absurd h35 (by decide)) (fun h35 => ?_)
      refine z_aload_n hX dX5_readNumber_38 2 rfl ?_
      refine z_callV1 hX (ok_isDigit l hY hn ha4 h2.1 h3) cv_RX5_224 zRc10 dX5_readNumber_39 (by decide) rfl rfl (Nat.le_of_ble_eq_true rfl) ?_
      refine z_if_eq (tgt := 79) hX dX5_readNumber_42 (by decide) (fun h42 => absurd h42 (by decide)) (fun h42 => ?_)
      refine z_bipush (v := 10) hX dX5_readNumber_45 (by decide) ?_
      refine z_iload_n hX dX5_readNumber_47 1 rfl ?_
      refine z_imul hX dX5_readNumber_48 ?_
      refine z_aload_n hX dX5_readNumber_49 2 rfl ?_
      refine zg_X5_text hX   fl_RX5_29 dX5_readNumber_50 ?_
      refine z_aload_n hX dX5_readNumber_53 2 rfl ?_
      refine zg_X5_at hX fl_RX5_200 dX5_readNumber_54 ?_
      refine z_isv (show _ = nI (p0 + 1 + 1) from rfl) ?_
      refine za_text hX  rfl (by have := h3.1; omega) dX5_readNumber_57 ?_
      refine z_isv (congrFun hY _) ?_
      refine z_iadd hX dX5_readNumber_58 ?_
      refine z_bipush (v := 48) hX dX5_readNumber_59 (by decide) ?_
      refine z_isub hX dX5_readNumber_61 ?_
      refine z_isv (show _ = (y (p0 + 1) - 48) * 10 + (y (p0 + 1 + 1) - 48) from rn_2 _ _) ?_
      refine z_istore_n (lv' := [(2, _), (3, _), (0, _), (1, _)]) hX dX5_readNumber_62 (by decide) rfl ?_
      skip
      · skip
        refine z_aload_n hX dX5_readNumber_63 2 rfl ?_
        refine z_dup hX dX5_readNumber_64 rfl ?_
        refine zg_X5_at hX fl_RX5_200 dX5_readNumber_65 ?_
        refine z_isv (show _ = nI (p0 + 1 + 1) from rfl) ?_
        refine z_iconst (v := 1) hX dX5_readNumber_68 (by decide) ?_
        refine z_iadd hX dX5_readNumber_69 ?_
        refine z_isv (nI_1 (p0 + 1 + 1)) ?_
        refine zp_X5_at hX  fl_RX5_200 dX5_readNumber_70 ?_
        rw [rT_5]
        refine z_iinc (lv' := [(3, _), (2, _), (0, _), (1, _)]) hX dX5_readNumber_73 1 rfl rfl (by decide) rfl ?_
        refine z_goto (tgt := 33) hX dX5_readNumber_76 (by decide) ?_
        refine z_iload_n hX dX5_readNumber_33 0 rfl ?_
        refine z_iload_n hX dX5_readNumber_34 3 rfl ?_
        refine z_icmp_ge (tgt := 79) hX dX5_readNumber_35 (by decide) (fun h35 => ?_) (fun h35 => absurd h35 (Classical.not_not.mpr (by decide)))
        refine z_iload_n hX dX5_readNumber_79 1 rfl ?_
        exact z_iretI hX dX5_readNumber_80 (by decide) (by rw [hR]; rfl) (fun _ h => by rw [hR]; exact h)
/-- what a letter's reading answers -/
def rlB (y : Nat → Int32) (n0 p0 : Nat) : Int32 := if chAt y n0 p0 32 then bhB y n0 (p0 + 1) else bhB y n0 p0
set_option maxHeartbeats 4000000 in
set_option maxRecDepth 100000 in
theorem ok_rl_k (l : Launch) {g : zG} {κ : zKp} {μ : zMu} {ω : zOm} {n0 p0 m0 : Nat} {a b y : Nat → Int32} (hY : μ 7 = y) (hn : n0 ≤ 60) (ha4 : a 4 = nI n0) (hp : p0 ≤ n0)  : zM l g yX5_readLetter cX5_readLetter 3 (some .int) 6 0 [.ref (gA g 10 0 0), .int 1] κ (zN μ (rT a p0 0 m0) b) ω κ (zN μ (rT a ((sgB kinO y n0 p0 0).2.1) (wrB (sgB kinO y n0 p0 0).1) m0) b) ω (some (.int (rlB y n0 p0))) := by
  refine zM_of (by decide) (Nat.le_of_ble_eq_true rfl) (fun p e R s m args below meth c hX => ?_)
  show zZ p l e R s m args below meth c g 3 _ _ _ _ 0 0 [(0, .ref (gA g 10 0 0)), (1, .int 1)] []
  rcases sg_c kinO y n0 p0 0 with ⟨h1, hR⟩ | ⟨h1, h2, hR⟩ | ⟨h1, h2, hR⟩
  · skip
    refine z_aload_n hX dX5_readLetter_0 0 rfl ?_
    refine zk_ldc hX (i := 39) rfl dX5_readLetter_1 ?_
    refine z_callV0 hX (ok_skip l hY hn ha4 hp (by decide : 39 < 43)) cv_RX5_220 zRc10 dX5_readLetter_3 (by decide) rfl rfl (Nat.le_of_ble_eq_true rfl) ?_
    refine z_world (μ' := zN μ (rT a p0 1 m0) b) (fun _ h => by rw [wd_sp, if_neg h1] at h; exact h) ?_
    refine z_aload_n hX dX5_readLetter_6 0 rfl ?_
    refine z_callV1 hX (ok_behind l hY hn ha4 hp) cv_RX5_211 zRc10 dX5_readLetter_7 (by decide) rfl rfl (Nat.le_of_ble_eq_true rfl) ?_
    refine z_istore_n (lv' := [(2, _), (0, _), (1, _)]) hX dX5_readLetter_10 (by decide) rfl ?_
    refine z_aload_n hX dX5_readLetter_11 1 rfl ?_
    refine z_aload_n hX dX5_readLetter_12 1 rfl ?_
    refine zg_X5_isWrong hX fl_RX5_207 dX5_readLetter_13 ?_
    refine z_isv (show _ = 1 from rfl) ?_
    refine z_if_ne (tgt := 40) hX dX5_readLetter_16 (by decide) (fun h16 => ?_) (fun h16 => absurd h16 (by decide))
    refine z_iconst (v := 1) hX dX5_readLetter_40 (by decide) ?_
    refine z_goto (tgt := 45) hX dX5_readLetter_41 (by decide) ?_
    refine zp_X5_isWrong hX rfl rfl fl_RX5_207 dX5_readLetter_45 ?_
    rw [rT_6]
    refine z_aload_n hX dX5_readLetter_48 1 rfl ?_
    refine z_dup hX dX5_readLetter_49 rfl ?_
    refine zg_X5_at hX fl_RX5_200 dX5_readLetter_50 ?_
    refine z_isv (show _ = nI (p0) from rfl) ?_
    refine z_aload_n hX dX5_readLetter_53 1 rfl ?_
    refine zg_X5_isWrong hX fl_RX5_207 dX5_readLetter_54 ?_
    refine z_isv (show _ = 1 from rfl) ?_
    refine z_if_eq (tgt := 64) hX dX5_readLetter_57 (by decide) (fun h57 => absurd h57 (by decide)) (fun h57 => ?_)
    refine z_iconst (v := 0) hX dX5_readLetter_60 (by decide) ?_
    refine z_goto (tgt := 65) hX dX5_readLetter_61 (by decide) ?_
    refine z_iadd hX dX5_readLetter_65 ?_
    refine z_isv (Int32.add_zero _) ?_
    refine zp_X5_at hX  fl_RX5_200 dX5_readLetter_66 ?_
    rw [rT_5]
    refine z_iload_n hX dX5_readLetter_69 0 rfl ?_
    exact z_iretI hX dX5_readLetter_70 (by decide) (by rw [rlB, if_neg h1]) (fun _ h => by rw [hR]; exact h)
  · skip
    refine z_aload_n hX dX5_readLetter_0 0 rfl ?_
    refine zk_ldc hX (i := 39) rfl dX5_readLetter_1 ?_
    refine z_callV0 hX (ok_skip l hY hn ha4 hp (by decide : 39 < 43)) cv_RX5_220 zRc10 dX5_readLetter_3 (by decide) rfl rfl (Nat.le_of_ble_eq_true rfl) ?_
    refine z_world (μ' := zN μ (rT a (p0 + 1) 0 m0) b) (fun _ h => by rw [wd_sp, if_pos h1] at h; exact h) ?_
    refine z_aload_n hX dX5_readLetter_6 0 rfl ?_
    refine z_callV1 hX (ok_behind l hY hn ha4 h1.1) cv_RX5_211 zRc10 dX5_readLetter_7 (by decide) rfl rfl (Nat.le_of_ble_eq_true rfl) ?_
    refine z_istore_n (lv' := [(2, _), (0, _), (1, _)]) hX dX5_readLetter_10 (by decide) rfl ?_
    refine z_aload_n hX dX5_readLetter_11 1 rfl ?_
    refine z_aload_n hX dX5_readLetter_12 1 rfl ?_
    refine zg_X5_isWrong hX fl_RX5_207 dX5_readLetter_13 ?_
    refine z_isv (show _ = 0 from rfl) ?_
    refine z_if_ne (tgt := 40) hX dX5_readLetter_16 (by decide) (fun h16 => absurd h16 (by decide)) (fun h16 => ?_)
    refine z_iload_n hX dX5_readLetter_19 2 rfl ?_
    refine z_if_eq (tgt := 33) hX dX5_readLetter_20 (by decide) (fun h20 => absurd h20 (by decide)) (fun h20 => ?_)
    refine z_iload_n hX dX5_readLetter_23 0 rfl ?_
    refine z_callS1 hX (ok_X5_isKind l) cs_RX5_137 dX5_readLetter_24 (by decide) rfl rfl (Nat.le_of_ble_eq_true rfl) ?_
    refine z_if_eqB (tgt := 40) hX dX5_readLetter_27 (by decide) (fun h27 => ?_) (fun h27 => absurd h27 (bg_n (K := kinO) (by decide) h2))
    refine z_iconst (v := 1) hX dX5_readLetter_40 (by decide) ?_
    refine z_goto (tgt := 45) hX dX5_readLetter_41 (by decide) ?_
    refine zp_X5_isWrong hX rfl rfl fl_RX5_207 dX5_readLetter_45 ?_
    rw [rT_6]
    refine z_aload_n hX dX5_readLetter_48 1 rfl ?_
    refine z_dup hX dX5_readLetter_49 rfl ?_
    refine zg_X5_at hX fl_RX5_200 dX5_readLetter_50 ?_
    refine z_isv (show _ = nI (p0 + 1) from rfl) ?_
    refine z_aload_n hX dX5_readLetter_53 1 rfl ?_
    refine zg_X5_isWrong hX fl_RX5_207 dX5_readLetter_54 ?_
    refine z_isv (show _ = 1 from rfl) ?_
    refine z_if_eq (tgt := 64) hX dX5_readLetter_57 (by decide) (fun h57 => absurd h57 (by decide)) (fun h57 => ?_)
    refine z_iconst (v := 0) hX dX5_readLetter_60 (by decide) ?_
    refine z_goto (tgt := 65) hX dX5_readLetter_61 (by decide) ?_
    refine z_iadd hX dX5_readLetter_65 ?_
    refine z_isv (Int32.add_zero _) ?_
    refine zp_X5_at hX  fl_RX5_200 dX5_readLetter_66 ?_
    rw [rT_5]
    refine z_iload_n hX dX5_readLetter_69 0 rfl ?_
    exact z_iretI hX dX5_readLetter_70 (by decide) (by rw [rlB, if_pos h1]) (fun _ h => by rw [hR]; exact h)
  · skip
    refine z_aload_n hX dX5_readLetter_0 0 rfl ?_
    refine zk_ldc hX (i := 39) rfl dX5_readLetter_1 ?_
    refine z_callV0 hX (ok_skip l hY hn ha4 hp (by decide : 39 < 43)) cv_RX5_220 zRc10 dX5_readLetter_3 (by decide) rfl rfl (Nat.le_of_ble_eq_true rfl) ?_
    refine z_world (μ' := zN μ (rT a (p0 + 1) 0 m0) b) (fun _ h => by rw [wd_sp, if_pos h1] at h; exact h) ?_
    refine z_aload_n hX dX5_readLetter_6 0 rfl ?_
    refine z_callV1 hX (in_behind l hY hn ha4 h1.1 h2.1) cv_RX5_211 zRc10 dX5_readLetter_7 (by decide) rfl rfl (Nat.le_of_ble_eq_true rfl) ?_
    refine z_istore_n (lv' := [(2, _), (0, _), (1, _)]) hX dX5_readLetter_10 (by decide) rfl ?_
    refine z_aload_n hX dX5_readLetter_11 1 rfl ?_
    refine z_aload_n hX dX5_readLetter_12 1 rfl ?_
    refine zg_X5_isWrong hX fl_RX5_207 dX5_readLetter_13 ?_
    refine z_isv (show _ = 0 from rfl) ?_
    refine z_if_ne (tgt := 40) hX dX5_readLetter_16 (by decide) (fun h16 => absurd h16 (by decide)) (fun h16 => ?_)
    refine z_iload_n hX dX5_readLetter_19 2 rfl ?_
    refine z_if_eq (tgt := 33) hX dX5_readLetter_20 (by decide) (fun h20 => absurd h20 (by decide)) (fun h20 => ?_)
    refine z_iload_n hX dX5_readLetter_23 0 rfl ?_
    refine z_callS1 hX (ok_X5_isKind l) cs_RX5_137 dX5_readLetter_24 (by decide) rfl rfl (Nat.le_of_ble_eq_true rfl) ?_
    refine z_if_eqB (tgt := 40) hX dX5_readLetter_27 (by decide) (fun h27 => absurd h27 (Classical.not_not.mpr h2.2)) (fun h27 => ?_)
    refine z_goto (tgt := 44) hX dX5_readLetter_30 (by decide) ?_
    refine z_iconst (v := 0) hX dX5_readLetter_44 (by decide) ?_
    refine zp_X5_isWrong hX rfl rfl fl_RX5_207 dX5_readLetter_45 ?_
    rw [rT_6]
    refine z_aload_n hX dX5_readLetter_48 1 rfl ?_
    refine z_dup hX dX5_readLetter_49 rfl ?_
    refine zg_X5_at hX fl_RX5_200 dX5_readLetter_50 ?_
    refine z_isv (show _ = nI (p0 + 1) from rfl) ?_
    refine z_aload_n hX dX5_readLetter_53 1 rfl ?_
    refine zg_X5_isWrong hX fl_RX5_207 dX5_readLetter_54 ?_
    refine z_isv (show _ = 0 from rfl) ?_
    refine z_if_eq (tgt := 64) hX dX5_readLetter_57 (by decide) (fun h57 => ?_) (fun h57 => absurd h57 (by decide))
    refine z_iconst (v := 1) hX dX5_readLetter_64 (by decide) ?_
    refine z_iadd hX dX5_readLetter_65 ?_
    refine z_isv (nI_1 (p0 + 1)) ?_
    refine zp_X5_at hX  fl_RX5_200 dX5_readLetter_66 ?_
    rw [rT_5]
    refine z_iload_n hX dX5_readLetter_69 0 rfl ?_
    exact z_iretI hX dX5_readLetter_70 (by decide) (by rw [rlB, if_pos h1, bhB_in h2.1]) (fun _ h => by rw [hR]; exact h)
set_option maxHeartbeats 4000000 in
set_option maxRecDepth 100000 in
theorem wr_rl_k (l : Launch) {g : zG} {κ : zKp} {μ : zMu} {ω : zOm} {n0 p0 m0 : Nat} {a b y : Nat → Int32} (hY : μ 7 = y) (hn : n0 ≤ 60) (ha4 : a 4 = nI n0) (hp : p0 ≤ n0)  : zM l g yX5_readLetter cX5_readLetter 3 (some .int) 6 0 [.ref (gA g 10 0 0), .int 1] κ (zN μ (rT a p0 1 m0) b) ω κ (zN μ (rT a p0 1 m0) b) ω (some (.int (bhB y n0 p0))) := by
  refine zM_of (by decide) (Nat.le_of_ble_eq_true rfl) (fun p e R s m args below meth c hX => ?_)
  show zZ p l e R s m args below meth c g 3 _ _ _ _ 0 0 [(0, .ref (gA g 10 0 0)), (1, .int 1)] []
  refine z_aload_n hX dX5_readLetter_0 0 rfl ?_
  refine zk_ldc hX (i := 39) rfl dX5_readLetter_1 ?_
  refine z_callV0 hX (no_skip l hY hn ha4 (by decide : 39 < 43)) cv_RX5_220 zRc10 dX5_readLetter_3 (by decide) rfl rfl (Nat.le_of_ble_eq_true rfl) ?_
  refine z_aload_n hX dX5_readLetter_6 0 rfl ?_
  refine z_callV1 hX (ok_behind l hY hn ha4 hp) cv_RX5_211 zRc10 dX5_readLetter_7 (by decide) rfl rfl (Nat.le_of_ble_eq_true rfl) ?_
  refine z_istore_n (lv' := [(2, _), (0, _), (1, _)]) hX dX5_readLetter_10 (by decide) rfl ?_
  refine z_aload_n hX dX5_readLetter_11 1 rfl ?_
  refine z_aload_n hX dX5_readLetter_12 1 rfl ?_
  refine zg_X5_isWrong hX fl_RX5_207 dX5_readLetter_13 ?_
  refine z_isv (show _ = 1 from rfl) ?_
  refine z_if_ne (tgt := 40) hX dX5_readLetter_16 (by decide) (fun h16 => ?_) (fun h16 => absurd h16 (by decide))
  refine z_iconst (v := 1) hX dX5_readLetter_40 (by decide) ?_
  refine z_goto (tgt := 45) hX dX5_readLetter_41 (by decide) ?_
  refine zp_X5_isWrong hX rfl rfl fl_RX5_207 dX5_readLetter_45 ?_
  rw [rT_6]
  refine z_aload_n hX dX5_readLetter_48 1 rfl ?_
  refine z_dup hX dX5_readLetter_49 rfl ?_
  refine zg_X5_at hX fl_RX5_200 dX5_readLetter_50 ?_
  refine z_isv (show _ = nI (p0) from rfl) ?_
  refine z_aload_n hX dX5_readLetter_53 1 rfl ?_
  refine zg_X5_isWrong hX fl_RX5_207 dX5_readLetter_54 ?_
  refine z_isv (show _ = 1 from rfl) ?_
  refine z_if_eq (tgt := 64) hX dX5_readLetter_57 (by decide) (fun h57 => absurd h57 (by decide)) (fun h57 => ?_)
  refine z_iconst (v := 0) hX dX5_readLetter_60 (by decide) ?_
  refine z_goto (tgt := 65) hX dX5_readLetter_61 (by decide) ?_
  refine z_iadd hX dX5_readLetter_65 ?_
  refine z_isv (Int32.add_zero _) ?_
  refine zp_X5_at hX  fl_RX5_200 dX5_readLetter_66 ?_
  rw [rT_5]
  refine z_iload_n hX dX5_readLetter_69 0 rfl ?_
  exact z_iretI hX dX5_readLetter_70 (by decide) rfl (fun _ h => h)
set_option maxHeartbeats 4000000 in
set_option maxRecDepth 100000 in
theorem ok_rl_o (l : Launch) {g : zG} {κ : zKp} {μ : zMu} {ω : zOm} {n0 p0 m0 : Nat} {a b y : Nat → Int32} (hY : μ 7 = y) (hn : n0 ≤ 60) (ha4 : a 4 = nI n0) (hp : p0 ≤ n0)  : zM l g yX5_readLetter cX5_readLetter 3 (some .int) 6 0 [.ref (gA g 10 0 0), .int 0] κ (zN μ (rT a p0 0 m0) b) ω κ (zN μ (rT a ((sgB ordO y n0 p0 0).2.1) (wrB (sgB ordO y n0 p0 0).1) m0) b) ω (some (.int (rlB y n0 p0))) := by
  refine zM_of (by decide) (Nat.le_of_ble_eq_true rfl) (fun p e R s m args below meth c hX => ?_)
  show zZ p l e R s m args below meth c g 3 _ _ _ _ 0 0 [(0, .ref (gA g 10 0 0)), (1, .int 0)] []
  rcases sg_c ordO y n0 p0 0 with ⟨h1, hR⟩ | ⟨h1, h2, hR⟩ | ⟨h1, h2, hR⟩
  · skip
    refine z_aload_n hX dX5_readLetter_0 0 rfl ?_
    refine zk_ldc hX (i := 39) rfl dX5_readLetter_1 ?_
    refine z_callV0 hX (ok_skip l hY hn ha4 hp (by decide : 39 < 43)) cv_RX5_220 zRc10 dX5_readLetter_3 (by decide) rfl rfl (Nat.le_of_ble_eq_true rfl) ?_
    refine z_world (μ' := zN μ (rT a p0 1 m0) b) (fun _ h => by rw [wd_sp, if_neg h1] at h; exact h) ?_
    refine z_aload_n hX dX5_readLetter_6 0 rfl ?_
    refine z_callV1 hX (ok_behind l hY hn ha4 hp) cv_RX5_211 zRc10 dX5_readLetter_7 (by decide) rfl rfl (Nat.le_of_ble_eq_true rfl) ?_
    refine z_istore_n (lv' := [(2, _), (0, _), (1, _)]) hX dX5_readLetter_10 (by decide) rfl ?_
    refine z_aload_n hX dX5_readLetter_11 1 rfl ?_
    refine z_aload_n hX dX5_readLetter_12 1 rfl ?_
    refine zg_X5_isWrong hX fl_RX5_207 dX5_readLetter_13 ?_
    refine z_isv (show _ = 1 from rfl) ?_
    refine z_if_ne (tgt := 40) hX dX5_readLetter_16 (by decide) (fun h16 => ?_) (fun h16 => absurd h16 (by decide))
    refine z_iconst (v := 1) hX dX5_readLetter_40 (by decide) ?_
    refine z_goto (tgt := 45) hX dX5_readLetter_41 (by decide) ?_
    refine zp_X5_isWrong hX rfl rfl fl_RX5_207 dX5_readLetter_45 ?_
    rw [rT_6]
    refine z_aload_n hX dX5_readLetter_48 1 rfl ?_
    refine z_dup hX dX5_readLetter_49 rfl ?_
    refine zg_X5_at hX fl_RX5_200 dX5_readLetter_50 ?_
    refine z_isv (show _ = nI (p0) from rfl) ?_
    refine z_aload_n hX dX5_readLetter_53 1 rfl ?_
    refine zg_X5_isWrong hX fl_RX5_207 dX5_readLetter_54 ?_
    refine z_isv (show _ = 1 from rfl) ?_
    refine z_if_eq (tgt := 64) hX dX5_readLetter_57 (by decide) (fun h57 => absurd h57 (by decide)) (fun h57 => ?_)
    refine z_iconst (v := 0) hX dX5_readLetter_60 (by decide) ?_
    refine z_goto (tgt := 65) hX dX5_readLetter_61 (by decide) ?_
    refine z_iadd hX dX5_readLetter_65 ?_
    refine z_isv (Int32.add_zero _) ?_
    refine zp_X5_at hX  fl_RX5_200 dX5_readLetter_66 ?_
    rw [rT_5]
    refine z_iload_n hX dX5_readLetter_69 0 rfl ?_
    exact z_iretI hX dX5_readLetter_70 (by decide) (by rw [rlB, if_neg h1]) (fun _ h => by rw [hR]; exact h)
  · skip
    refine z_aload_n hX dX5_readLetter_0 0 rfl ?_
    refine zk_ldc hX (i := 39) rfl dX5_readLetter_1 ?_
    refine z_callV0 hX (ok_skip l hY hn ha4 hp (by decide : 39 < 43)) cv_RX5_220 zRc10 dX5_readLetter_3 (by decide) rfl rfl (Nat.le_of_ble_eq_true rfl) ?_
    refine z_world (μ' := zN μ (rT a (p0 + 1) 0 m0) b) (fun _ h => by rw [wd_sp, if_pos h1] at h; exact h) ?_
    refine z_aload_n hX dX5_readLetter_6 0 rfl ?_
    refine z_callV1 hX (ok_behind l hY hn ha4 h1.1) cv_RX5_211 zRc10 dX5_readLetter_7 (by decide) rfl rfl (Nat.le_of_ble_eq_true rfl) ?_
    refine z_istore_n (lv' := [(2, _), (0, _), (1, _)]) hX dX5_readLetter_10 (by decide) rfl ?_
    refine z_aload_n hX dX5_readLetter_11 1 rfl ?_
    refine z_aload_n hX dX5_readLetter_12 1 rfl ?_
    refine zg_X5_isWrong hX fl_RX5_207 dX5_readLetter_13 ?_
    refine z_isv (show _ = 0 from rfl) ?_
    refine z_if_ne (tgt := 40) hX dX5_readLetter_16 (by decide) (fun h16 => absurd h16 (by decide)) (fun h16 => ?_)
    refine z_iload_n hX dX5_readLetter_19 2 rfl ?_
    refine z_if_eq (tgt := 33) hX dX5_readLetter_20 (by decide) (fun h20 => ?_) (fun h20 => absurd h20 (by decide))
    refine z_iload_n hX dX5_readLetter_33 0 rfl ?_
    refine z_callS1 hX (ok_X5_isOrder l) cs_RX5_156 dX5_readLetter_34 (by decide) rfl rfl (Nat.le_of_ble_eq_true rfl) ?_
    refine z_if_neB (tgt := 44) hX dX5_readLetter_37 (by decide) (fun h37 => absurd h37 (bg_n (K := ordO) (by decide) h2)) (fun h37 => ?_)
    refine z_iconst (v := 1) hX dX5_readLetter_40 (by decide) ?_
    refine z_goto (tgt := 45) hX dX5_readLetter_41 (by decide) ?_
    refine zp_X5_isWrong hX rfl rfl fl_RX5_207 dX5_readLetter_45 ?_
    rw [rT_6]
    refine z_aload_n hX dX5_readLetter_48 1 rfl ?_
    refine z_dup hX dX5_readLetter_49 rfl ?_
    refine zg_X5_at hX fl_RX5_200 dX5_readLetter_50 ?_
    refine z_isv (show _ = nI (p0 + 1) from rfl) ?_
    refine z_aload_n hX dX5_readLetter_53 1 rfl ?_
    refine zg_X5_isWrong hX fl_RX5_207 dX5_readLetter_54 ?_
    refine z_isv (show _ = 1 from rfl) ?_
    refine z_if_eq (tgt := 64) hX dX5_readLetter_57 (by decide) (fun h57 => absurd h57 (by decide)) (fun h57 => ?_)
    refine z_iconst (v := 0) hX dX5_readLetter_60 (by decide) ?_
    refine z_goto (tgt := 65) hX dX5_readLetter_61 (by decide) ?_
    refine z_iadd hX dX5_readLetter_65 ?_
    refine z_isv (Int32.add_zero _) ?_
    refine zp_X5_at hX  fl_RX5_200 dX5_readLetter_66 ?_
    rw [rT_5]
    refine z_iload_n hX dX5_readLetter_69 0 rfl ?_
    exact z_iretI hX dX5_readLetter_70 (by decide) (by rw [rlB, if_pos h1]) (fun _ h => by rw [hR]; exact h)
  · skip
    refine z_aload_n hX dX5_readLetter_0 0 rfl ?_
    refine zk_ldc hX (i := 39) rfl dX5_readLetter_1 ?_
    refine z_callV0 hX (ok_skip l hY hn ha4 hp (by decide : 39 < 43)) cv_RX5_220 zRc10 dX5_readLetter_3 (by decide) rfl rfl (Nat.le_of_ble_eq_true rfl) ?_
    refine z_world (μ' := zN μ (rT a (p0 + 1) 0 m0) b) (fun _ h => by rw [wd_sp, if_pos h1] at h; exact h) ?_
    refine z_aload_n hX dX5_readLetter_6 0 rfl ?_
    refine z_callV1 hX (in_behind l hY hn ha4 h1.1 h2.1) cv_RX5_211 zRc10 dX5_readLetter_7 (by decide) rfl rfl (Nat.le_of_ble_eq_true rfl) ?_
    refine z_istore_n (lv' := [(2, _), (0, _), (1, _)]) hX dX5_readLetter_10 (by decide) rfl ?_
    refine z_aload_n hX dX5_readLetter_11 1 rfl ?_
    refine z_aload_n hX dX5_readLetter_12 1 rfl ?_
    refine zg_X5_isWrong hX fl_RX5_207 dX5_readLetter_13 ?_
    refine z_isv (show _ = 0 from rfl) ?_
    refine z_if_ne (tgt := 40) hX dX5_readLetter_16 (by decide) (fun h16 => absurd h16 (by decide)) (fun h16 => ?_)
    refine z_iload_n hX dX5_readLetter_19 2 rfl ?_
    refine z_if_eq (tgt := 33) hX dX5_readLetter_20 (by decide) (fun h20 => ?_) (fun h20 => absurd h20 (by decide))
    refine z_iload_n hX dX5_readLetter_33 0 rfl ?_
    refine z_callS1 hX (ok_X5_isOrder l) cs_RX5_156 dX5_readLetter_34 (by decide) rfl rfl (Nat.le_of_ble_eq_true rfl) ?_
    refine z_if_neB (tgt := 44) hX dX5_readLetter_37 (by decide) (fun h37 => ?_) (fun h37 => absurd h37 (fun q => q h2.2))
    refine z_iconst (v := 0) hX dX5_readLetter_44 (by decide) ?_
    refine zp_X5_isWrong hX rfl rfl fl_RX5_207 dX5_readLetter_45 ?_
    rw [rT_6]
    refine z_aload_n hX dX5_readLetter_48 1 rfl ?_
    refine z_dup hX dX5_readLetter_49 rfl ?_
    refine zg_X5_at hX fl_RX5_200 dX5_readLetter_50 ?_
    refine z_isv (show _ = nI (p0 + 1) from rfl) ?_
    refine z_aload_n hX dX5_readLetter_53 1 rfl ?_
    refine zg_X5_isWrong hX fl_RX5_207 dX5_readLetter_54 ?_
    refine z_isv (show _ = 0 from rfl) ?_
    refine z_if_eq (tgt := 64) hX dX5_readLetter_57 (by decide) (fun h57 => ?_) (fun h57 => absurd h57 (by decide))
    refine z_iconst (v := 1) hX dX5_readLetter_64 (by decide) ?_
    refine z_iadd hX dX5_readLetter_65 ?_
    refine z_isv (nI_1 (p0 + 1)) ?_
    refine zp_X5_at hX  fl_RX5_200 dX5_readLetter_66 ?_
    rw [rT_5]
    refine z_iload_n hX dX5_readLetter_69 0 rfl ?_
    exact z_iretI hX dX5_readLetter_70 (by decide) (by rw [rlB, if_pos h1, bhB_in h2.1]) (fun _ h => by rw [hR]; exact h)
set_option maxHeartbeats 4000000 in
set_option maxRecDepth 100000 in
theorem wr_rl_o (l : Launch) {g : zG} {κ : zKp} {μ : zMu} {ω : zOm} {n0 p0 m0 : Nat} {a b y : Nat → Int32} (hY : μ 7 = y) (hn : n0 ≤ 60) (ha4 : a 4 = nI n0) (hp : p0 ≤ n0)  : zM l g yX5_readLetter cX5_readLetter 3 (some .int) 6 0 [.ref (gA g 10 0 0), .int 0] κ (zN μ (rT a p0 1 m0) b) ω κ (zN μ (rT a p0 1 m0) b) ω (some (.int (bhB y n0 p0))) := by
  refine zM_of (by decide) (Nat.le_of_ble_eq_true rfl) (fun p e R s m args below meth c hX => ?_)
  show zZ p l e R s m args below meth c g 3 _ _ _ _ 0 0 [(0, .ref (gA g 10 0 0)), (1, .int 0)] []
  refine z_aload_n hX dX5_readLetter_0 0 rfl ?_
  refine zk_ldc hX (i := 39) rfl dX5_readLetter_1 ?_
  refine z_callV0 hX (no_skip l hY hn ha4 (by decide : 39 < 43)) cv_RX5_220 zRc10 dX5_readLetter_3 (by decide) rfl rfl (Nat.le_of_ble_eq_true rfl) ?_
  refine z_aload_n hX dX5_readLetter_6 0 rfl ?_
  refine z_callV1 hX (ok_behind l hY hn ha4 hp) cv_RX5_211 zRc10 dX5_readLetter_7 (by decide) rfl rfl (Nat.le_of_ble_eq_true rfl) ?_
  refine z_istore_n (lv' := [(2, _), (0, _), (1, _)]) hX dX5_readLetter_10 (by decide) rfl ?_
  refine z_aload_n hX dX5_readLetter_11 1 rfl ?_
  refine z_aload_n hX dX5_readLetter_12 1 rfl ?_
  refine zg_X5_isWrong hX fl_RX5_207 dX5_readLetter_13 ?_
  refine z_isv (show _ = 1 from rfl) ?_
  refine z_if_ne (tgt := 40) hX dX5_readLetter_16 (by decide) (fun h16 => ?_) (fun h16 => absurd h16 (by decide))
  refine z_iconst (v := 1) hX dX5_readLetter_40 (by decide) ?_
  refine z_goto (tgt := 45) hX dX5_readLetter_41 (by decide) ?_
  refine zp_X5_isWrong hX rfl rfl fl_RX5_207 dX5_readLetter_45 ?_
  rw [rT_6]
  refine z_aload_n hX dX5_readLetter_48 1 rfl ?_
  refine z_dup hX dX5_readLetter_49 rfl ?_
  refine zg_X5_at hX fl_RX5_200 dX5_readLetter_50 ?_
  refine z_isv (show _ = nI (p0) from rfl) ?_
  refine z_aload_n hX dX5_readLetter_53 1 rfl ?_
  refine zg_X5_isWrong hX fl_RX5_207 dX5_readLetter_54 ?_
  refine z_isv (show _ = 1 from rfl) ?_
  refine z_if_eq (tgt := 64) hX dX5_readLetter_57 (by decide) (fun h57 => absurd h57 (by decide)) (fun h57 => ?_)
  refine z_iconst (v := 0) hX dX5_readLetter_60 (by decide) ?_
  refine z_goto (tgt := 65) hX dX5_readLetter_61 (by decide) ?_
  refine z_iadd hX dX5_readLetter_65 ?_
  refine z_isv (Int32.add_zero _) ?_
  refine zp_X5_at hX  fl_RX5_200 dX5_readLetter_66 ?_
  rw [rT_5]
  refine z_iload_n hX dX5_readLetter_69 0 rfl ?_
  exact z_iretI hX dX5_readLetter_70 (by decide) rfl (fun _ h => h)
end ZRD
