section ZTX
set_option maxHeartbeats 4000000 in
set_option maxRecDepth 100000 in
theorem in_peek (l : Launch) {g : zG} {κ : zKp} {μ : zMu} {ω : zOm} {n0 p0 : Nat} {xi xf xs xc xv : Int32} {y : Nat → Int32} (hn : n0 ≤ 60) (hy : txW y n0) (hp : p0 ≤ n0) (hq : p0 < n0)  : zM l g yX0_peek cX0_peek 1 (some .char) 1 0 [.ref (gA g 2 0 0)] (zT κ (xT n0 p0 xi xf xs xc xv) y) μ ω (zT κ (xT n0 p0 xi xf xs xc xv) y) μ ω (some (.int (y p0))) := by
  refine zM_of (by decide) (Nat.le_of_ble_eq_true rfl) (fun p e R s m args below meth c hX => ?_)
  show zZ p l e R s m args below meth c g 1 _ _ _ _ 0 0 [(0, .ref (gA g 2 0 0))] []
  refine z_aload_n hX dX0_peek_0 0 rfl ?_
  refine zg_X0_position hX fl_RX0_19 dX0_peek_1 ?_
  refine z_isv (show _ = nI (p0) from rfl) ?_
  refine z_if_lt (tgt := 30) hX dX0_peek_4 (by decide) (fun h4 => absurd h4 (nn_i (by omega))) (fun h4 => ?_)
  refine z_aload_n hX dX0_peek_7 0 rfl ?_
  refine zg_X0_position hX fl_RX0_19 dX0_peek_8 ?_
  refine z_isv (show _ = nI (p0) from rfl) ?_
  refine z_aload_n hX dX0_peek_11 0 rfl ?_
  refine zg_X0_length hX fl_RX0_15 dX0_peek_12 ?_
  refine z_isv (show _ = nI (n0) from rfl) ?_
  refine z_icmp_ge (tgt := 30) hX dX0_peek_15 (by decide) (fun h15 => absurd h15 (nle_i hq (by omega))) (fun h15 => ?_)
  refine z_aload_n hX dX0_peek_18 0 rfl ?_
  refine zg_X0_position hX fl_RX0_19 dX0_peek_19 ?_
  refine z_isv (show _ = nI (p0) from rfl) ?_
  refine z_aload_n hX dX0_peek_22 0 rfl ?_
  refine zg_X0_signs hX   fl_RX0_9 dX0_peek_23 ?_
  refine zl_signs hX  dX0_peek_26 ?_
  refine z_icmp_lt (tgt := 32) hX dX0_peek_27 (by decide) (fun h27 => ?_) (fun h27 => absurd h27 (Classical.not_not.mpr (lt_i (b := 60) (by omega) (by decide))))
  refine z_aload_n hX dX0_peek_32 0 rfl ?_
  refine zg_X0_signs hX   fl_RX0_9 dX0_peek_33 ?_
  refine z_aload_n hX dX0_peek_36 0 rfl ?_
  refine zg_X0_position hX fl_RX0_19 dX0_peek_37 ?_
  refine z_isv (show _ = nI (p0) from rfl) ?_
  refine za_signs hX  rfl (by omega) dX0_peek_40 ?_
  exact z_iret hX dX0_peek_41 (by decide) (y_nar hy hq) rfl (fun _ h => h)
set_option maxHeartbeats 4000000 in
set_option maxRecDepth 100000 in
theorem out_peek (l : Launch) {g : zG} {κ : zKp} {μ : zMu} {ω : zOm} {n0 p0 : Nat} {xi xf xs xc xv : Int32} {y : Nat → Int32} (hn : n0 ≤ 60) (hy : txW y n0) (hp : p0 ≤ n0) (hq : ¬ p0 < n0)  : zM l g yX0_peek cX0_peek 1 (some .char) 1 0 [.ref (gA g 2 0 0)] (zT κ (xT n0 p0 xi xf xs xc xv) y) μ ω (zT κ (xT n0 p0 xi xf xs xc xv) y) μ ω (some (.int 0)) := by
  refine zM_of (by decide) (Nat.le_of_ble_eq_true rfl) (fun p e R s m args below meth c hX => ?_)
  show zZ p l e R s m args below meth c g 1 _ _ _ _ 0 0 [(0, .ref (gA g 2 0 0))] []
  refine z_aload_n hX dX0_peek_0 0 rfl ?_
  refine zg_X0_position hX fl_RX0_19 dX0_peek_1 ?_
  refine z_isv (show _ = nI (p0) from rfl) ?_
  refine z_if_lt (tgt := 30) hX dX0_peek_4 (by decide) (fun h4 => absurd h4 (nn_i (by omega))) (fun h4 => ?_)
  refine z_aload_n hX dX0_peek_7 0 rfl ?_
  refine zg_X0_position hX fl_RX0_19 dX0_peek_8 ?_
  refine z_isv (show _ = nI (p0) from rfl) ?_
  refine z_aload_n hX dX0_peek_11 0 rfl ?_
  refine zg_X0_length hX fl_RX0_15 dX0_peek_12 ?_
  refine z_isv (show _ = nI (n0) from rfl) ?_
  refine z_icmp_ge (tgt := 30) hX dX0_peek_15 (by decide) (fun h15 => ?_) (fun h15 => absurd h15 (Classical.not_not.mpr (le_i (by omega) (by omega))))
  refine z_iconst (v := 0) hX dX0_peek_30 (by decide) ?_
  exact z_iret hX dX0_peek_31 (by decide) rfl rfl (fun _ h => h)
theorem ok_peek (l : Launch) {g : zG} {κ : zKp} {μ : zMu} {ω : zOm} {n0 p0 : Nat} {xi xf xs xc xv : Int32} {y : Nat → Int32} (hn : n0 ≤ 60) (hy : txW y n0) (hp : p0 ≤ n0) : zM l g yX0_peek cX0_peek 1 (some .char) 1 0 [.ref (gA g 2 0 0)] (zT κ (xT n0 p0 xi xf xs xc xv) y) μ ω (zT κ (xT n0 p0 xi xf xs xc xv) y) μ ω (some (.int (pkB y n0 p0))) := by
  by_cases hq : p0 < n0
  · rw [pkB_in hq]; exact in_peek l hn hy hp hq
  · rw [pkB_out hq]; exact out_peek l hn hy hp hq
set_option maxHeartbeats 4000000 in
set_option maxRecDepth 100000 in
theorem ok_take (l : Launch) {g : zG} {κ : zKp} {μ : zMu} {ω : zOm} {n0 p0 : Nat} {xi xf xs xc xv : Int32} {y : Nat → Int32} (hn : n0 ≤ 60) (hy : txW y n0) (hp : p0 ≤ n0) {z : Int32} (hq : chAt y n0 p0 z)  : zM l g yX0_take cX0_take 2 (some .boolean) 2 0 [.ref (gA g 2 0 0), .int z] (zT κ (xT n0 p0 xi xf xs xc xv) y) μ ω (zT κ (xT n0 (p0 + 1) xi xf xs xc xv) y) μ ω (some (.int 1)) := by
  refine zM_of (by decide) (Nat.le_of_ble_eq_true rfl) (fun p e R s m args below meth c hX => ?_)
  show zZ p l e R s m args below meth c g 2 _ _ _ _ 0 0 [(0, .ref (gA g 2 0 0)), (1, .int z)] []
  refine z_aload_n hX dX0_take_0 0 rfl ?_
  refine z_callV1 hX (ok_peek l hn hy hp) cv_RX0_49 zRc2 dX0_take_1 (by decide) rfl rfl (Nat.le_of_ble_eq_true rfl) ?_
  refine z_iload_n hX dX0_take_4 1 rfl ?_
  refine z_icmp_eq (tgt := 10) hX dX0_take_5 (by decide) (fun h5 => ?_) (fun h5 => absurd h5 (Classical.not_not.mpr (pk_yes hq)))
  refine z_aload_n hX dX0_take_10 0 rfl ?_
  refine z_dup hX dX0_take_11 rfl ?_
  refine zg_X0_position hX fl_RX0_19 dX0_take_12 ?_
  refine z_isv (show _ = nI (p0) from rfl) ?_
  refine z_iconst (v := 1) hX dX0_take_15 (by decide) ?_
  refine z_iadd hX dX0_take_16 ?_
  refine z_isv (nI_1 p0) ?_
  refine zp_X0_position hX  fl_RX0_19 dX0_take_17 ?_
  rw [xT_1]
  refine z_iconst (v := 1) hX dX0_take_20 (by decide) ?_
  exact z_iret hX dX0_take_21 (by decide) rfl rfl (fun _ h => h)
set_option maxHeartbeats 4000000 in
set_option maxRecDepth 100000 in
theorem no_take (l : Launch) {g : zG} {κ : zKp} {μ : zMu} {ω : zOm} {n0 p0 : Nat} {xi xf xs xc xv : Int32} {y : Nat → Int32} (hn : n0 ≤ 60) (hy : txW y n0) (hp : p0 ≤ n0) {z : Int32} (hq : ¬ chAt y n0 p0 z) (hz : ¬ z = 0)  : zM l g yX0_take cX0_take 2 (some .boolean) 2 0 [.ref (gA g 2 0 0), .int z] (zT κ (xT n0 p0 xi xf xs xc xv) y) μ ω (zT κ (xT n0 p0 xi xf xs xc xv) y) μ ω (some (.int 0)) := by
  refine zM_of (by decide) (Nat.le_of_ble_eq_true rfl) (fun p e R s m args below meth c hX => ?_)
  show zZ p l e R s m args below meth c g 2 _ _ _ _ 0 0 [(0, .ref (gA g 2 0 0)), (1, .int z)] []
  refine z_aload_n hX dX0_take_0 0 rfl ?_
  refine z_callV1 hX (ok_peek l hn hy hp) cv_RX0_49 zRc2 dX0_take_1 (by decide) rfl rfl (Nat.le_of_ble_eq_true rfl) ?_
  refine z_iload_n hX dX0_take_4 1 rfl ?_
  refine z_icmp_eq (tgt := 10) hX dX0_take_5 (by decide) (fun h5 => absurd h5 (pk_no hq hz)) (fun h5 => ?_)
  refine z_iconst (v := 0) hX dX0_take_8 (by decide) ?_
  exact z_iret hX dX0_take_9 (by decide) rfl rfl (fun _ h => h)
set_option maxHeartbeats 4000000 in
set_option maxRecDepth 100000 in
theorem ok_digit (l : Launch) {g : zG} {κ : zKp} {μ : zMu} {ω : zOm} {n0 p0 : Nat} {xi xf xs xc xv : Int32} {y : Nat → Int32} (hn : n0 ≤ 60) (hy : txW y n0) (hp : p0 ≤ n0) (hq : dgAt y n0 p0)  : zM l g yX0_takeDigit cX0_takeDigit 2 (some .int) 2 0 [.ref (gA g 2 0 0)] (zT κ (xT n0 p0 xi xf xs xc xv) y) μ ω (zT κ (xT n0 (p0 + 1) xi xf xs xc xv) y) μ ω (some (.int (y p0 - 48))) := by
  refine zM_of (by decide) (Nat.le_of_ble_eq_true rfl) (fun p e R s m args below meth c hX => ?_)
  show zZ p l e R s m args below meth c g 2 _ _ _ _ 0 0 [(0, .ref (gA g 2 0 0))] []
  refine z_aload_n hX dX0_takeDigit_0 0 rfl ?_
  refine z_callV1 hX (in_peek l hn hy hp hq.1) cv_RX0_49 zRc2 dX0_takeDigit_1 (by decide) rfl rfl (Nat.le_of_ble_eq_true rfl) ?_
  refine z_istore_n (lv' := [(1, _), (0, _)]) hX dX0_takeDigit_4 (by decide) rfl ?_
  refine z_iload_n hX dX0_takeDigit_5 0 rfl ?_
  refine z_bipush (v := 48) hX dX0_takeDigit_6 (by decide) ?_
  refine z_icmp_lt (tgt := 17) hX dX0_takeDigit_8 (by decide) (fun h8 => absurd h8 (Int32.not_lt.mpr hq.2.1)) (fun h8 => ?_)
  refine z_iload_n hX dX0_takeDigit_11 0 rfl ?_
  refine z_bipush (v := 57) hX dX0_takeDigit_12 (by decide) ?_
  refine z_icmp_le (tgt := 19) hX dX0_takeDigit_14 (by decide) (fun h14 => ?_) (fun h14 => absurd h14 (Classical.not_not.mpr hq.2.2))
  refine z_aload_n hX dX0_takeDigit_19 1 rfl ?_
  refine z_dup hX dX0_takeDigit_20 rfl ?_
  refine zg_X0_position hX fl_RX0_19 dX0_takeDigit_21 ?_
  refine z_isv (show _ = nI (p0) from rfl) ?_
  refine z_iconst (v := 1) hX dX0_takeDigit_24 (by decide) ?_
  refine z_iadd hX dX0_takeDigit_25 ?_
  refine z_isv (nI_1 p0) ?_
  refine zp_X0_position hX  fl_RX0_19 dX0_takeDigit_26 ?_
  rw [xT_1]
  refine z_iload_n hX dX0_takeDigit_29 0 rfl ?_
  refine z_bipush (v := 48) hX dX0_takeDigit_30 (by decide) ?_
  refine z_isub hX dX0_takeDigit_32 ?_
  exact z_iretI hX dX0_takeDigit_33 (by decide) rfl (fun _ h => h)
set_option maxHeartbeats 4000000 in
set_option maxRecDepth 100000 in
theorem no_digit (l : Launch) {g : zG} {κ : zKp} {μ : zMu} {ω : zOm} {n0 p0 : Nat} {xi xf xs xc xv : Int32} {y : Nat → Int32} (hn : n0 ≤ 60) (hy : txW y n0) (hp : p0 ≤ n0) (hq : ¬ dgAt y n0 p0)  : zM l g yX0_takeDigit cX0_takeDigit 2 (some .int) 2 0 [.ref (gA g 2 0 0)] (zT κ (xT n0 p0 xi xf xs xc xv) y) μ ω (zT κ (xT n0 p0 xi xf xs xc xv) y) μ ω (some (.int (-1))) := by
  refine zM_of (by decide) (Nat.le_of_ble_eq_true rfl) (fun p e R s m args below meth c hX => ?_)
  show zZ p l e R s m args below meth c g 2 _ _ _ _ 0 0 [(0, .ref (gA g 2 0 0))] []
  refine z_aload_n hX dX0_takeDigit_0 0 rfl ?_
  by_cases hw : p0 < n0
  · skip
    refine z_callV1 hX (in_peek l hn hy hp hw) cv_RX0_49 zRc2 dX0_takeDigit_1 (by decide) rfl rfl (Nat.le_of_ble_eq_true rfl) ?_
    refine z_istore_n (lv' := [(1, _), (0, _)]) hX dX0_takeDigit_4 (by decide) rfl ?_
    refine z_iload_n hX dX0_takeDigit_5 0 rfl ?_
    refine z_bipush (v := 48) hX dX0_takeDigit_6 (by decide) ?_
    refine z_icmp_lt (tgt := 17) hX dX0_takeDigit_8 (by decide) (fun h8 => ?_) (fun h8 => ?_)
    · skip
      refine z_iconst (v := -1) hX dX0_takeDigit_17 (by decide) ?_
      exact z_iretI hX dX0_takeDigit_18 (by decide) rfl (fun _ h => h)
    · skip
      refine z_iload_n hX dX0_takeDigit_11 0 rfl ?_
      refine z_bipush (v := 57) hX dX0_takeDigit_12 (by decide) ?_
      refine z_icmp_le (tgt := 19) hX dX0_takeDigit_14 (by decide) (fun h14 => absurd h14 (fun q => hq ⟨hw, Int32.not_lt.mp h8, q⟩)) (fun h14 => ?_)
      refine z_iconst (v := -1) hX dX0_takeDigit_17 (by decide) ?_
      exact z_iretI hX dX0_takeDigit_18 (by decide) rfl (fun _ h => h)
  · skip
    refine z_callV1 hX (out_peek l hn hy hp hw) cv_RX0_49 zRc2 dX0_takeDigit_1 (by decide) rfl rfl (Nat.le_of_ble_eq_true rfl) ?_
    refine z_istore_n (lv' := [(1, _), (0, _)]) hX dX0_takeDigit_4 (by decide) rfl ?_
    refine z_iload_n hX dX0_takeDigit_5 0 rfl ?_
    refine z_bipush (v := 48) hX dX0_takeDigit_6 (by decide) ?_
    refine z_icmp_lt (tgt := 17) hX dX0_takeDigit_8 (by decide) (fun h8 => ?_) (fun h8 => absurd h8 (by decide))
    refine z_iconst (v := -1) hX dX0_takeDigit_17 (by decide) ?_
    exact z_iretI hX dX0_takeDigit_18 (by decide) rfl (fun _ h => h)
set_option maxHeartbeats 4000000 in
set_option maxRecDepth 100000 in
theorem ok_takeWord (l : Launch) {g : zG} {κ : zKp} {μ : zMu} {ω : zOm} {n0 p0 : Nat} {xi xf xs xc xv : Int32} {y : Nat → Int32} (hn : n0 ≤ 60) (hy : txW y n0) (hp : p0 ≤ n0) {i : Nat} (hi : i < 45)  : zM l g yX0_takeWord cX0_takeWord 3 (some .boolean) 5 0 [.ref (gA g 2 0 0), .ref (gAK g i)] (zT κ (xT n0 p0 xi xf xs xc xv) y) μ ω (zT κ (xT n0 ((wdB y n0 (sB i) p0).2) xi xf xs xc xv) y) μ ω (some (.int (if (wdB y n0 (sB i) p0).1 = true then 1 else 0))) := by
  have h9 := sB_lt i hi
  refine zM_of (by decide) (Nat.le_of_ble_eq_true rfl) (fun p e R s m args below meth c hX => ?_)
  show zZ p l e R s m args below meth c g 3 _ _ _ _ 0 0 [(0, .ref (gA g 2 0 0)), (1, .ref (gAK g i))] []
  refine z_iconst (v := 0) hX dX0_takeWord_0 (by decide) ?_
  refine z_istore_n (lv' := [(2, _), (0, _), (1, _)]) hX dX0_takeWord_1 (by decide) rfl ?_
  have hL : ∀ (dz : Nat) (q0 q1 : Nat), (sB i).length - q0 = dz → q0 ≤ (sB i).length → q1 ≤ n0 → wdB y n0 ((sB i).drop q0) q1 = wdB y n0 (sB i) p0 → zZ p l e R s m args below meth c g 3 (zQ g (zT κ (xT n0 ((wdB y n0 (sB i) p0).2) xi xf xs xc xv) y) μ ω (some (.int (if (wdB y n0 (sB i) p0).1 = true then 1 else 0))) below args s 0) (zT κ (xT n0 q1 xi xf xs xc xv) y) μ ω 0 2 [(0, .ref (gA g 2 0 0)), (1, .ref (gAK g i)), (2, .int (nI q0))] [] := by
    intro dz
    induction dz with
    | zero =>
      intro q0 q1 hd hk hp1 hw
      have hkn : q0 = (sB i).length := by omega
      have hR : wdB y n0 (sB i) p0 = (true, q1) := by rw [← hw, hkn]; exact wd_end
      refine z_iload_n hX dX0_takeWord_2 2 rfl ?_
      refine z_aload_n hX dX0_takeWord_3 1 rfl ?_
      refine zk_callV1 hX hi rfl (ok_J0_length_8abf5 l hi) cv_RX0_88 dX0_takeWord_4 (by decide) rfl rfl (Nat.le_of_ble_eq_true rfl) ?_
      refine z_icmp_ge (tgt := 30) hX dX0_takeWord_7 (by decide) (fun h7 => ?_) (fun h7 => absurd h7 (Classical.not_not.mpr (le_i (by omega) (by omega))))
      refine z_iconst (v := 1) hX dX0_takeWord_30 (by decide) ?_
      exact z_iret hX dX0_takeWord_31 (by decide) rfl (by rw [hR]; rfl) (fun _ h => by rw [hR]; exact h)
    | succ dz ih =>
      intro q0 q1 hd hk hp1 hw
      have hkn : q0 < (sB i).length := by omega
      refine z_iload_n hX dX0_takeWord_2 2 rfl ?_
      refine z_aload_n hX dX0_takeWord_3 1 rfl ?_
      refine zk_callV1 hX hi rfl (ok_J0_length_8abf5 l hi) cv_RX0_88 dX0_takeWord_4 (by decide) rfl rfl (Nat.le_of_ble_eq_true rfl) ?_
      refine z_icmp_ge (tgt := 30) hX dX0_takeWord_7 (by decide) (fun h7 => absurd h7 (nle_i hkn (by omega))) (fun h7 => ?_)
      refine z_aload_n hX dX0_takeWord_10 0 rfl ?_
      refine z_aload_n hX dX0_takeWord_11 1 rfl ?_
      refine z_iload_n hX dX0_takeWord_12 2 rfl ?_
      refine zk_callV1 hX hi rfl (ok_J0_charAt_5068e l hi hkn) cv_RX0_90 dX0_takeWord_13 (by decide) rfl rfl (Nat.le_of_ble_eq_true rfl) ?_
      by_cases hc : chAt y n0 q1 (sBa i q0)
      · skip
        refine z_callV1 hX (ok_take l hn hy hp1 hc) cv_RX0_45 zRc2 dX0_takeWord_16 (by decide) rfl rfl (Nat.le_of_ble_eq_true rfl) ?_
        refine z_if_ne (tgt := 24) hX dX0_takeWord_19 (by decide) (fun h19 => ?_) (fun h19 => absurd h19 (by decide))
        refine z_iinc (v := nI (q0 + 1)) (lv' := [(2, _), (0, _), (1, _)]) hX dX0_takeWord_24 2 rfl (nI_1 q0) (by decide) rfl ?_
        refine z_goto (tgt := 2) hX dX0_takeWord_27 (by decide) ?_
        refine z_sub [1, 2, 0] rfl ?_
        exact ih (q0 + 1) (q1 + 1) (by omega) hkn hc.1 (by rw [wd_step hkn, if_pos hc] at hw; exact hw)
      · have hR : wdB y n0 (sB i) p0 = (false, q1) := by rw [← hw, wd_step hkn, if_neg hc]
        refine z_callV1 hX (no_take l hn hy hp1 hc (sBa_nz hi hkn)) cv_RX0_45 zRc2 dX0_takeWord_16 (by decide) rfl rfl (Nat.le_of_ble_eq_true rfl) ?_
        refine z_if_ne (tgt := 24) hX dX0_takeWord_19 (by decide) (fun h19 => absurd h19 (by decide)) (fun h19 => ?_)
        refine z_iconst (v := 0) hX dX0_takeWord_22 (by decide) ?_
        exact z_iret hX dX0_takeWord_23 (by decide) rfl (by rw [hR]; rfl) (fun _ h => by rw [hR]; exact h)
  refine z_sub [1, 2, 0] rfl ?_
  exact hL (sB i).length 0 p0 (Nat.sub_zero _) (Nat.zero_le _) hp (by rw [List.drop_zero])
set_option maxHeartbeats 4000000 in
set_option maxRecDepth 100000 in
theorem ok_readNumber (l : Launch) {g : zG} {κ : zKp} {μ : zMu} {ω : zOm} {n0 p0 : Nat} {xi xf xs xc xv : Int32} {y : Nat → Int32} (hn : n0 ≤ 60) (hy : txW y n0) (hp : p0 ≤ n0)  : zM l g yX0_readNumber cX0_readNumber 2 (some .boolean) 3 0 [.ref (gA g 2 0 0)] (zT κ (xT n0 p0 xi xf xs xc xv) y) μ ω (zT κ (xT n0 ((nmB y n0 p0).2.1) xi xf xs xc ((nmB y n0 p0).2.2)) y) μ ω (some (.int (if (nmB y n0 p0).1 = true then 1 else 0))) := by
  refine zM_of (by decide) (Nat.le_of_ble_eq_true rfl) (fun p e R s m args below meth c hX => ?_)
  show zZ p l e R s m args below meth c g 2 _ _ _ _ 0 0 [(0, .ref (gA g 2 0 0))] []
  rcases nm_c y n0 p0 with ⟨h1, hR⟩ | ⟨h1, h2, hR⟩ | ⟨h1, h2, h3, hR⟩ | ⟨h1, h2, h3, hR⟩
  · skip
    refine z_aload_n hX dX0_readNumber_0 0 rfl ?_
    refine z_aload_n hX dX0_readNumber_1 0 rfl ?_
    refine z_bipush (v := 32) hX dX0_readNumber_2 (by decide) ?_
    refine z_callV1 hX (no_take l hn hy hp h1 (by decide)) cv_RX0_45 zRc2 dX0_readNumber_4 (by decide) rfl rfl (Nat.le_of_ble_eq_true rfl) ?_
    refine z_if_eq (tgt := 17) hX dX0_readNumber_7 (by decide) (fun h7 => ?_) (fun h7 => absurd h7 (by decide))
    refine z_iconst (v := -1) hX dX0_readNumber_17 (by decide) ?_
    refine zp_X0_number hX  fl_RX0_35 dX0_readNumber_18 ?_
    rw [xT_6]
    refine z_aload_n hX dX0_readNumber_21 0 rfl ?_
    refine zg_X0_number hX fl_RX0_35 dX0_readNumber_22 ?_
    refine z_isv (show _ = -1 from rfl) ?_
    refine z_iconst (v := -1) hX dX0_readNumber_25 (by decide) ?_
    refine z_icmp_ne (tgt := 31) hX dX0_readNumber_26 (by decide) (fun h26 => absurd h26 (fun q => q rfl)) (fun h26 => ?_)
    refine z_iconst (v := 0) hX dX0_readNumber_29 (by decide) ?_
    exact z_iret hX dX0_readNumber_30 (by decide) rfl (by rw [hR]; rfl) (fun _ h => by rw [hR]; exact h)
  · skip
    refine z_aload_n hX dX0_readNumber_0 0 rfl ?_
    refine z_aload_n hX dX0_readNumber_1 0 rfl ?_
    refine z_bipush (v := 32) hX dX0_readNumber_2 (by decide) ?_
    refine z_callV1 hX (ok_take l hn hy hp h1) cv_RX0_45 zRc2 dX0_readNumber_4 (by decide) rfl rfl (Nat.le_of_ble_eq_true rfl) ?_
    refine z_if_eq (tgt := 17) hX dX0_readNumber_7 (by decide) (fun h7 => absurd h7 (by decide)) (fun h7 => ?_)
    refine z_aload_n hX dX0_readNumber_10 0 rfl ?_
    refine z_callV1 hX (no_digit l hn hy h1.1 h2) cv_RX0_78 zRc2 dX0_readNumber_11 (by decide) rfl rfl (Nat.le_of_ble_eq_true rfl) ?_
    refine z_goto (tgt := 18) hX dX0_readNumber_14 (by decide) ?_
    refine zp_X0_number hX  fl_RX0_35 dX0_readNumber_18 ?_
    rw [xT_6]
    refine z_aload_n hX dX0_readNumber_21 0 rfl ?_
    refine zg_X0_number hX fl_RX0_35 dX0_readNumber_22 ?_
    refine z_isv (show _ = -1 from rfl) ?_
    refine z_iconst (v := -1) hX dX0_readNumber_25 (by decide) ?_
    refine z_icmp_ne (tgt := 31) hX dX0_readNumber_26 (by decide) (fun h26 => absurd h26 (fun q => q rfl)) (fun h26 => ?_)
    refine z_iconst (v := 0) hX dX0_readNumber_29 (by decide) ?_
    exact z_iret hX dX0_readNumber_30 (by decide) rfl (by rw [hR]; rfl) (fun _ h => by rw [hR]; exact h)
  · skip
    refine z_aload_n hX dX0_readNumber_0 0 rfl ?_
    refine z_aload_n hX dX0_readNumber_1 0 rfl ?_
    refine z_bipush (v := 32) hX dX0_readNumber_2 (by decide) ?_
    refine z_callV1 hX (ok_take l hn hy hp h1) cv_RX0_45 zRc2 dX0_readNumber_4 (by decide) rfl rfl (Nat.le_of_ble_eq_true rfl) ?_
    refine z_if_eq (tgt := 17) hX dX0_readNumber_7 (by decide) (fun h7 => absurd h7 (by decide)) (fun h7 => ?_)
    refine z_aload_n hX dX0_readNumber_10 0 rfl ?_
    refine z_callV1 hX (ok_digit l hn hy h1.1 h2) cv_RX0_78 zRc2 dX0_readNumber_11 (by decide) rfl rfl (Nat.le_of_ble_eq_true rfl) ?_
    refine z_goto (tgt := 18) hX dX0_readNumber_14 (by decide) ?_
    refine zp_X0_number hX  fl_RX0_35 dX0_readNumber_18 ?_
    rw [xT_6]
    refine z_aload_n hX dX0_readNumber_21 0 rfl ?_
    refine zg_X0_number hX fl_RX0_35 dX0_readNumber_22 ?_
    refine z_isv (show _ = y (p0 + 1) - 48 from rfl) ?_
    refine z_iconst (v := -1) hX dX0_readNumber_25 (by decide) ?_
    refine z_icmp_ne (tgt := 31) hX dX0_readNumber_26 (by decide) (fun h26 => ?_) (fun h26 => absurd h26 (dg_ne h2))
    refine z_aload_n hX dX0_readNumber_31 0 rfl ?_
    refine z_callV1 hX (no_digit l hn hy h2.1 h3) cv_RX0_78 zRc2 dX0_readNumber_32 (by decide) rfl rfl (Nat.le_of_ble_eq_true rfl) ?_
    refine z_istore_n (lv' := [(1, _), (0, _)]) hX dX0_readNumber_35 (by decide) rfl ?_
    refine z_iload_n hX dX0_readNumber_36 0 rfl ?_
    refine z_iconst (v := -1) hX dX0_readNumber_37 (by decide) ?_
    refine z_icmp_eq (tgt := 54) hX dX0_readNumber_38 (by decide) (fun h38 => ?_) (fun h38 => absurd h38 (fun q => q rfl))
    refine z_iconst (v := 1) hX dX0_readNumber_54 (by decide) ?_
    exact z_iret hX dX0_readNumber_55 (by decide) rfl (by rw [hR]; rfl) (fun _ h => by rw [hR]; exact h)
  · skip
    refine z_aload_n hX dX0_readNumber_0 0 rfl ?_
    refine z_aload_n hX dX0_readNumber_1 0 rfl ?_
    refine z_bipush (v := 32) hX dX0_readNumber_2 (by decide) ?_
    refine z_callV1 hX (ok_take l hn hy hp h1) cv_RX0_45 zRc2 dX0_readNumber_4 (by decide) rfl rfl (Nat.le_of_ble_eq_true rfl) ?_
    refine z_if_eq (tgt := 17) hX dX0_readNumber_7 (by decide) (fun h7 => absurd h7 (by decide)) (fun h7 => ?_)
    refine z_aload_n hX dX0_readNumber_10 0 rfl ?_
    refine z_callV1 hX (ok_digit l hn hy h1.1 h2) cv_RX0_78 zRc2 dX0_readNumber_11 (by decide) rfl rfl (Nat.le_of_ble_eq_true rfl) ?_
    refine z_goto (tgt := 18) hX dX0_readNumber_14 (by decide) ?_
    refine zp_X0_number hX  fl_RX0_35 dX0_readNumber_18 ?_
    rw [xT_6]
    refine z_aload_n hX dX0_readNumber_21 0 rfl ?_
    refine zg_X0_number hX fl_RX0_35 dX0_readNumber_22 ?_
    refine z_isv (show _ = y (p0 + 1) - 48 from rfl) ?_
    refine z_iconst (v := -1) hX dX0_readNumber_25 (by decide) ?_
    refine z_icmp_ne (tgt := 31) hX dX0_readNumber_26 (by decide) (fun h26 => ?_) (fun h26 => absurd h26 (dg_ne h2))
    refine z_aload_n hX dX0_readNumber_31 0 rfl ?_
    refine z_callV1 hX (ok_digit l hn hy h2.1 h3) cv_RX0_78 zRc2 dX0_readNumber_32 (by decide) rfl rfl (Nat.le_of_ble_eq_true rfl) ?_
    refine z_istore_n (lv' := [(1, _), (0, _)]) hX dX0_readNumber_35 (by decide) rfl ?_
    refine z_iload_n hX dX0_readNumber_36 0 rfl ?_
    refine z_iconst (v := -1) hX dX0_readNumber_37 (by decide) ?_
    refine z_icmp_eq (tgt := 54) hX dX0_readNumber_38 (by decide) (fun h38 => absurd h38 (dg_ne h3)) (fun h38 => ?_)
    refine z_aload_n hX dX0_readNumber_41 1 rfl ?_
    refine z_aload_n hX dX0_readNumber_42 1 rfl ?_
    refine zg_X0_number hX fl_RX0_35 dX0_readNumber_43 ?_
    refine z_isv (show _ = y (p0 + 1) - 48 from rfl) ?_
    refine z_bipush (v := 10) hX dX0_readNumber_46 (by decide) ?_
    refine z_imul hX dX0_readNumber_48 ?_
    refine z_iload_n hX dX0_readNumber_49 0 rfl ?_
    refine z_iadd hX dX0_readNumber_50 ?_
    refine zp_X0_number hX  fl_RX0_35 dX0_readNumber_51 ?_
    rw [xT_6]
    refine z_iconst (v := 1) hX dX0_readNumber_54 (by decide) ?_
    exact z_iret hX dX0_readNumber_55 (by decide) rfl (by rw [hR]; rfl) (fun _ h => by rw [hR]; exact h)
set_option maxHeartbeats 4000000 in
set_option maxRecDepth 100000 in
theorem ok_readPlace (l : Launch) {g : zG} {κ : zKp} {μ : zMu} {ω : zOm} {n0 p0 : Nat} {xi xf xs xc xv : Int32} {y : Nat → Int32} (hn : n0 ≤ 60) (hy : txW y n0) (hp : p0 ≤ n0)  : zM l g yX0_readPlace cX0_readPlace 1 (some .boolean) 3 0 [.ref (gA g 2 0 0)] (zT κ (xT n0 p0 xi xf xs xc xv) y) μ ω (zT κ (xT n0 ((plB y n0 p0 xs).2.1) xi ((plB y n0 p0 xs).2.2.1) ((plB y n0 p0 xs).2.2.2) xc xv) y) μ ω (some (.int (if (plB y n0 p0 xs).1 = true then 1 else 0))) := by
  refine zM_of (by decide) (Nat.le_of_ble_eq_true rfl) (fun p e R s m args below meth c hX => ?_)
  show zZ p l e R s m args below meth c g 1 _ _ _ _ 0 0 [(0, .ref (gA g 2 0 0))] []
  rcases n1_c y n0 p0 with ⟨h1, hR⟩ | ⟨h1, h2, hR⟩ | ⟨h1, h2, hR⟩
  · skip
    refine z_aload_n hX dX0_readPlace_0 0 rfl ?_
    refine z_aload_n hX dX0_readPlace_1 0 rfl ?_
    refine z_bipush (v := 32) hX dX0_readPlace_2 (by decide) ?_
    refine z_callV1 hX (no_take l hn hy hp h1 (by decide)) cv_RX0_45 zRc2 dX0_readPlace_4 (by decide) rfl rfl (Nat.le_of_ble_eq_true rfl) ?_
    refine z_if_eq (tgt := 17) hX dX0_readPlace_7 (by decide) (fun h7 => ?_) (fun h7 => absurd h7 (by decide))
    refine z_iconst (v := -1) hX dX0_readPlace_17 (by decide) ?_
    refine zp_X0_first hX  fl_RX0_26 dX0_readPlace_18 ?_
    rw [xT_3]
    refine z_aload_n hX dX0_readPlace_21 0 rfl ?_
    refine zg_X0_first hX fl_RX0_26 dX0_readPlace_22 ?_
    refine z_isv (show _ = -1 from rfl) ?_
    refine z_iconst (v := -1) hX dX0_readPlace_25 (by decide) ?_
    refine z_icmp_ne (tgt := 31) hX dX0_readPlace_26 (by decide) (fun h26 => absurd h26 (fun q => q rfl)) (fun h26 => ?_)
    refine z_iconst (v := 0) hX dX0_readPlace_29 (by decide) ?_
    exact z_iret hX dX0_readPlace_30 (by decide) rfl (by rw [plB, hR, plB1_f]; rfl) (fun _ h => by rw [plB, hR, plB1_f]; exact h)
  · skip
    refine z_aload_n hX dX0_readPlace_0 0 rfl ?_
    refine z_aload_n hX dX0_readPlace_1 0 rfl ?_
    refine z_bipush (v := 32) hX dX0_readPlace_2 (by decide) ?_
    refine z_callV1 hX (ok_take l hn hy hp h1) cv_RX0_45 zRc2 dX0_readPlace_4 (by decide) rfl rfl (Nat.le_of_ble_eq_true rfl) ?_
    refine z_if_eq (tgt := 17) hX dX0_readPlace_7 (by decide) (fun h7 => absurd h7 (by decide)) (fun h7 => ?_)
    refine z_aload_n hX dX0_readPlace_10 0 rfl ?_
    refine z_callV1 hX (no_digit l hn hy h1.1 h2) cv_RX0_78 zRc2 dX0_readPlace_11 (by decide) rfl rfl (Nat.le_of_ble_eq_true rfl) ?_
    refine z_goto (tgt := 18) hX dX0_readPlace_14 (by decide) ?_
    refine zp_X0_first hX  fl_RX0_26 dX0_readPlace_18 ?_
    rw [xT_3]
    refine z_aload_n hX dX0_readPlace_21 0 rfl ?_
    refine zg_X0_first hX fl_RX0_26 dX0_readPlace_22 ?_
    refine z_isv (show _ = -1 from rfl) ?_
    refine z_iconst (v := -1) hX dX0_readPlace_25 (by decide) ?_
    refine z_icmp_ne (tgt := 31) hX dX0_readPlace_26 (by decide) (fun h26 => absurd h26 (fun q => q rfl)) (fun h26 => ?_)
    refine z_iconst (v := 0) hX dX0_readPlace_29 (by decide) ?_
    exact z_iret hX dX0_readPlace_30 (by decide) rfl (by rw [plB, hR, plB1_f]; rfl) (fun _ h => by rw [plB, hR, plB1_f]; exact h)
  · skip
    refine z_aload_n hX dX0_readPlace_0 0 rfl ?_
    refine z_aload_n hX dX0_readPlace_1 0 rfl ?_
    refine z_bipush (v := 32) hX dX0_readPlace_2 (by decide) ?_
    refine z_callV1 hX (ok_take l hn hy hp h1) cv_RX0_45 zRc2 dX0_readPlace_4 (by decide) rfl rfl (Nat.le_of_ble_eq_true rfl) ?_
    refine z_if_eq (tgt := 17) hX dX0_readPlace_7 (by decide) (fun h7 => absurd h7 (by decide)) (fun h7 => ?_)
    refine z_aload_n hX dX0_readPlace_10 0 rfl ?_
    refine z_callV1 hX (ok_digit l hn hy h1.1 h2) cv_RX0_78 zRc2 dX0_readPlace_11 (by decide) rfl rfl (Nat.le_of_ble_eq_true rfl) ?_
    refine z_goto (tgt := 18) hX dX0_readPlace_14 (by decide) ?_
    refine zp_X0_first hX  fl_RX0_26 dX0_readPlace_18 ?_
    rw [xT_3]
    refine z_aload_n hX dX0_readPlace_21 0 rfl ?_
    refine zg_X0_first hX fl_RX0_26 dX0_readPlace_22 ?_
    refine z_isv (show _ = y (p0 + 1) - 48 from rfl) ?_
    refine z_iconst (v := -1) hX dX0_readPlace_25 (by decide) ?_
    refine z_icmp_ne (tgt := 31) hX dX0_readPlace_26 (by decide) (fun h26 => ?_) (fun h26 => absurd h26 (dg_ne h2))
    rcases n1_c y n0 (p0 + 1 + 1) with ⟨h3, hR2⟩ | ⟨h3, h4, hR2⟩ | ⟨h3, h4, hR2⟩
    · skip
      refine z_aload_n hX dX0_readPlace_31 0 rfl ?_
      refine z_aload_n hX dX0_readPlace_32 0 rfl ?_
      refine z_bipush (v := 32) hX dX0_readPlace_33 (by decide) ?_
      refine z_callV1 hX (no_take l hn hy h2.1 h3 (by decide)) cv_RX0_45 zRc2 dX0_readPlace_35 (by decide) rfl rfl (Nat.le_of_ble_eq_true rfl) ?_
      refine z_if_eq (tgt := 48) hX dX0_readPlace_38 (by decide) (fun h38 => ?_) (fun h38 => absurd h38 (by decide))
      refine z_iconst (v := -1) hX dX0_readPlace_48 (by decide) ?_
      refine zp_X0_second hX  fl_RX0_29 dX0_readPlace_49 ?_
      rw [xT_4]
      refine z_aload_n hX dX0_readPlace_52 0 rfl ?_
      refine zg_X0_second hX fl_RX0_29 dX0_readPlace_53 ?_
      refine z_isv (show _ = -1 from rfl) ?_
      refine z_iconst (v := -1) hX dX0_readPlace_56 (by decide) ?_
      refine z_icmp_eq (tgt := 64) hX dX0_readPlace_57 (by decide) (fun h57 => ?_) (fun h57 => absurd h57 (fun q => q rfl))
      refine z_iconst (v := 0) hX dX0_readPlace_64 (by decide) ?_
      exact z_iret hX dX0_readPlace_65 (by decide) rfl (by rw [plB, hR, plB1_t, plB2, hR2]; rfl) (fun _ h => by rw [plB, hR, plB1_t, plB2, hR2]; exact h)
    · skip
      refine z_aload_n hX dX0_readPlace_31 0 rfl ?_
      refine z_aload_n hX dX0_readPlace_32 0 rfl ?_
      refine z_bipush (v := 32) hX dX0_readPlace_33 (by decide) ?_
      refine z_callV1 hX (ok_take l hn hy h2.1 h3) cv_RX0_45 zRc2 dX0_readPlace_35 (by decide) rfl rfl (Nat.le_of_ble_eq_true rfl) ?_
      refine z_if_eq (tgt := 48) hX dX0_readPlace_38 (by decide) (fun h38 => absurd h38 (by decide)) (fun h38 => ?_)
      refine z_aload_n hX dX0_readPlace_41 0 rfl ?_
      refine z_callV1 hX (no_digit l hn hy h3.1 h4) cv_RX0_78 zRc2 dX0_readPlace_42 (by decide) rfl rfl (Nat.le_of_ble_eq_true rfl) ?_
      refine z_goto (tgt := 49) hX dX0_readPlace_45 (by decide) ?_
      refine zp_X0_second hX  fl_RX0_29 dX0_readPlace_49 ?_
      rw [xT_4]
      refine z_aload_n hX dX0_readPlace_52 0 rfl ?_
      refine zg_X0_second hX fl_RX0_29 dX0_readPlace_53 ?_
      refine z_isv (show _ = -1 from rfl) ?_
      refine z_iconst (v := -1) hX dX0_readPlace_56 (by decide) ?_
      refine z_icmp_eq (tgt := 64) hX dX0_readPlace_57 (by decide) (fun h57 => ?_) (fun h57 => absurd h57 (fun q => q rfl))
      refine z_iconst (v := 0) hX dX0_readPlace_64 (by decide) ?_
      exact z_iret hX dX0_readPlace_65 (by decide) rfl (by rw [plB, hR, plB1_t, plB2, hR2]; rfl) (fun _ h => by rw [plB, hR, plB1_t, plB2, hR2]; exact h)
    · skip
      refine z_aload_n hX dX0_readPlace_31 0 rfl ?_
      refine z_aload_n hX dX0_readPlace_32 0 rfl ?_
      refine z_bipush (v := 32) hX dX0_readPlace_33 (by decide) ?_
      refine z_callV1 hX (ok_take l hn hy h2.1 h3) cv_RX0_45 zRc2 dX0_readPlace_35 (by decide) rfl rfl (Nat.le_of_ble_eq_true rfl) ?_
      refine z_if_eq (tgt := 48) hX dX0_readPlace_38 (by decide) (fun h38 => absurd h38 (by decide)) (fun h38 => ?_)
      refine z_aload_n hX dX0_readPlace_41 0 rfl ?_
      refine z_callV1 hX (ok_digit l hn hy h3.1 h4) cv_RX0_78 zRc2 dX0_readPlace_42 (by decide) rfl rfl (Nat.le_of_ble_eq_true rfl) ?_
      refine z_goto (tgt := 49) hX dX0_readPlace_45 (by decide) ?_
      refine zp_X0_second hX  fl_RX0_29 dX0_readPlace_49 ?_
      rw [xT_4]
      refine z_aload_n hX dX0_readPlace_52 0 rfl ?_
      refine zg_X0_second hX fl_RX0_29 dX0_readPlace_53 ?_
      refine z_isv (show _ = y (p0 + 1 + 1 + 1) - 48 from rfl) ?_
      refine z_iconst (v := -1) hX dX0_readPlace_56 (by decide) ?_
      refine z_icmp_eq (tgt := 64) hX dX0_readPlace_57 (by decide) (fun h57 => absurd h57 (dg_ne h4)) (fun h57 => ?_)
      refine z_iconst (v := 1) hX dX0_readPlace_60 (by decide) ?_
      refine z_goto (tgt := 65) hX dX0_readPlace_61 (by decide) ?_
      exact z_iret hX dX0_readPlace_65 (by decide) rfl (by rw [plB, hR, plB1_t, plB2, hR2]; rfl) (fun _ h => by rw [plB, hR, plB1_t, plB2, hR2]; exact h)
set_option maxHeartbeats 4000000 in
set_option maxRecDepth 100000 in
theorem ok_readSign_k (l : Launch) {g : zG} {κ : zKp} {μ : zMu} {ω : zOm} {n0 p0 : Nat} {xi xf xs xc xv : Int32} {y : Nat → Int32} (hn : n0 ≤ 60) (hy : txW y n0) (hp : p0 ≤ n0)  : zM l g yX0_readSign cX0_readSign 2 (some .boolean) 5 0 [.ref (gA g 2 0 0), .ref (gAK g 27)] (zT κ (xT n0 p0 xi xf xs xc xv) y) μ ω (zT κ (xT n0 ((sgB kinO y n0 p0 xc).2.1) xi xf xs ((sgB kinO y n0 p0 xc).2.2) xv) y) μ ω (some (.int (if (sgB kinO y n0 p0 xc).1 = true then 1 else 0))) := by
  refine zM_of (by decide) (Nat.le_of_ble_eq_true rfl) (fun p e R s m args below meth c hX => ?_)
  show zZ p l e R s m args below meth c g 2 _ _ _ _ 0 0 [(0, .ref (gA g 2 0 0)), (1, .ref (gAK g 27))] []
  rcases sg_c kinO y n0 p0 xc with ⟨h1, hR⟩ | ⟨h1, h2, hR⟩ | ⟨h1, h2, hR⟩
  · skip
    refine z_aload_n hX dX0_readSign_0 0 rfl ?_
    refine z_bipush (v := 32) hX dX0_readSign_1 (by decide) ?_
    refine z_callV1 hX (no_take l hn hy hp h1 (by decide)) cv_RX0_45 zRc2 dX0_readSign_3 (by decide) rfl rfl (Nat.le_of_ble_eq_true rfl) ?_
    refine z_if_ne (tgt := 11) hX dX0_readSign_6 (by decide) (fun h6 => absurd h6 (by decide)) (fun h6 => ?_)
    refine z_iconst (v := 0) hX dX0_readSign_9 (by decide) ?_
    exact z_iret hX dX0_readSign_10 (by decide) rfl (by rw [hR]; rfl) (fun _ h => by rw [hR]; exact h)
  · skip
    refine z_aload_n hX dX0_readSign_0 0 rfl ?_
    refine z_bipush (v := 32) hX dX0_readSign_1 (by decide) ?_
    refine z_callV1 hX (ok_take l hn hy hp h1) cv_RX0_45 zRc2 dX0_readSign_3 (by decide) rfl rfl (Nat.le_of_ble_eq_true rfl) ?_
    refine z_if_ne (tgt := 11) hX dX0_readSign_6 (by decide) (fun h6 => ?_) (fun h6 => absurd h6 (by decide))
    refine z_aload_n hX dX0_readSign_11 0 rfl ?_
    refine z_aload_n hX dX0_readSign_12 0 rfl ?_
    refine z_callV1 hX (ok_peek l hn hy h1.1) cv_RX0_49 zRc2 dX0_readSign_13 (by decide) rfl rfl (Nat.le_of_ble_eq_true rfl) ?_
    refine zp_X0_sign hX (pk_nar hy) (pk_fit hy) fl_RX0_32 dX0_readSign_16 ?_
    rw [xT_5]
    refine z_aload_n hX dX0_readSign_19 1 rfl ?_
    refine z_aload_n hX dX0_readSign_20 0 rfl ?_
    refine zg_X0_sign hX fl_RX0_32 dX0_readSign_21 ?_
    refine z_isv (show _ = pkB y n0 (p0 + 1) from rfl) ?_
    refine zk_callV1 hX (by decide : 27 < 45) rfl (ix_kn l (i := 27) (by decide) rfl (sg_n (K := kinO) (by decide) h2)) cv_RX0_82 dX0_readSign_24 (by decide) rfl rfl (Nat.le_of_ble_eq_true rfl) ?_
    refine z_if_lt (tgt := 45) hX dX0_readSign_27 (by decide) (fun h27 => ?_) (fun h27 => absurd h27 (by decide))
    refine z_iconst (v := 0) hX dX0_readSign_45 (by decide) ?_
    exact z_iret hX dX0_readSign_46 (by decide) rfl (by rw [hR]; rfl) (fun _ h => by rw [hR]; exact h)
  · skip
    refine z_aload_n hX dX0_readSign_0 0 rfl ?_
    refine z_bipush (v := 32) hX dX0_readSign_1 (by decide) ?_
    refine z_callV1 hX (ok_take l hn hy hp h1) cv_RX0_45 zRc2 dX0_readSign_3 (by decide) rfl rfl (Nat.le_of_ble_eq_true rfl) ?_
    refine z_if_ne (tgt := 11) hX dX0_readSign_6 (by decide) (fun h6 => ?_) (fun h6 => absurd h6 (by decide))
    refine z_aload_n hX dX0_readSign_11 0 rfl ?_
    refine z_aload_n hX dX0_readSign_12 0 rfl ?_
    refine z_callV1 hX (in_peek l hn hy h1.1 h2.1) cv_RX0_49 zRc2 dX0_readSign_13 (by decide) rfl rfl (Nat.le_of_ble_eq_true rfl) ?_
    refine zp_X0_sign hX (y_nar hy h2.1) (y_fit hy h2.1) fl_RX0_32 dX0_readSign_16 ?_
    rw [xT_5]
    refine z_aload_n hX dX0_readSign_19 1 rfl ?_
    refine z_aload_n hX dX0_readSign_20 0 rfl ?_
    refine zg_X0_sign hX fl_RX0_32 dX0_readSign_21 ?_
    refine z_isv (show _ = y (p0 + 1) from rfl) ?_
    obtain ⟨q, hq, hQ⟩ := ix_k l (g := g) (κ := zT κ (xT n0 (p0 + 1) xi xf xs (y (p0 + 1)) xv) y) (μ := μ) (ω := ω) (i := 27) (by decide) rfl h2.2
    refine zk_callV1 hX (by decide : 27 < 45) rfl hQ cv_RX0_82 dX0_readSign_24 (by decide) rfl rfl (Nat.le_of_ble_eq_true rfl) ?_
    refine z_if_lt (tgt := 45) hX dX0_readSign_27 (by decide) (fun h27 => absurd h27 (nn_i (by omega))) (fun h27 => ?_)
    refine z_aload_n hX dX0_readSign_30 0 rfl ?_
    refine z_aload_n hX dX0_readSign_31 0 rfl ?_
    refine zg_X0_sign hX fl_RX0_32 dX0_readSign_32 ?_
    refine z_isv (show _ = y (p0 + 1) from rfl) ?_
    refine z_callV1 hX (ok_take l hn hy h1.1 ⟨h2.1, rfl⟩) cv_RX0_45 zRc2 dX0_readSign_35 (by decide) rfl rfl (Nat.le_of_ble_eq_true rfl) ?_
    refine z_if_eq (tgt := 45) hX dX0_readSign_38 (by decide) (fun h38 => absurd h38 (by decide)) (fun h38 => ?_)
    refine z_iconst (v := 1) hX dX0_readSign_41 (by decide) ?_
    refine z_goto (tgt := 46) hX dX0_readSign_42 (by decide) ?_
    exact z_iret hX dX0_readSign_46 (by decide) rfl (by rw [hR]; rfl) (fun _ h => by rw [hR]; exact h)
set_option maxHeartbeats 4000000 in
set_option maxRecDepth 100000 in
theorem ok_readSign_o (l : Launch) {g : zG} {κ : zKp} {μ : zMu} {ω : zOm} {n0 p0 : Nat} {xi xf xs xc xv : Int32} {y : Nat → Int32} (hn : n0 ≤ 60) (hy : txW y n0) (hp : p0 ≤ n0)  : zM l g yX0_readSign cX0_readSign 2 (some .boolean) 5 0 [.ref (gA g 2 0 0), .ref (gAK g 29)] (zT κ (xT n0 p0 xi xf xs xc xv) y) μ ω (zT κ (xT n0 ((sgB ordO y n0 p0 xc).2.1) xi xf xs ((sgB ordO y n0 p0 xc).2.2) xv) y) μ ω (some (.int (if (sgB ordO y n0 p0 xc).1 = true then 1 else 0))) := by
  refine zM_of (by decide) (Nat.le_of_ble_eq_true rfl) (fun p e R s m args below meth c hX => ?_)
  show zZ p l e R s m args below meth c g 2 _ _ _ _ 0 0 [(0, .ref (gA g 2 0 0)), (1, .ref (gAK g 29))] []
  rcases sg_c ordO y n0 p0 xc with ⟨h1, hR⟩ | ⟨h1, h2, hR⟩ | ⟨h1, h2, hR⟩
  · skip
    refine z_aload_n hX dX0_readSign_0 0 rfl ?_
    refine z_bipush (v := 32) hX dX0_readSign_1 (by decide) ?_
    refine z_callV1 hX (no_take l hn hy hp h1 (by decide)) cv_RX0_45 zRc2 dX0_readSign_3 (by decide) rfl rfl (Nat.le_of_ble_eq_true rfl) ?_
    refine z_if_ne (tgt := 11) hX dX0_readSign_6 (by decide) (fun h6 => absurd h6 (by decide)) (fun h6 => ?_)
    refine z_iconst (v := 0) hX dX0_readSign_9 (by decide) ?_
    exact z_iret hX dX0_readSign_10 (by decide) rfl (by rw [hR]; rfl) (fun _ h => by rw [hR]; exact h)
  · skip
    refine z_aload_n hX dX0_readSign_0 0 rfl ?_
    refine z_bipush (v := 32) hX dX0_readSign_1 (by decide) ?_
    refine z_callV1 hX (ok_take l hn hy hp h1) cv_RX0_45 zRc2 dX0_readSign_3 (by decide) rfl rfl (Nat.le_of_ble_eq_true rfl) ?_
    refine z_if_ne (tgt := 11) hX dX0_readSign_6 (by decide) (fun h6 => ?_) (fun h6 => absurd h6 (by decide))
    refine z_aload_n hX dX0_readSign_11 0 rfl ?_
    refine z_aload_n hX dX0_readSign_12 0 rfl ?_
    refine z_callV1 hX (ok_peek l hn hy h1.1) cv_RX0_49 zRc2 dX0_readSign_13 (by decide) rfl rfl (Nat.le_of_ble_eq_true rfl) ?_
    refine zp_X0_sign hX (pk_nar hy) (pk_fit hy) fl_RX0_32 dX0_readSign_16 ?_
    rw [xT_5]
    refine z_aload_n hX dX0_readSign_19 1 rfl ?_
    refine z_aload_n hX dX0_readSign_20 0 rfl ?_
    refine zg_X0_sign hX fl_RX0_32 dX0_readSign_21 ?_
    refine z_isv (show _ = pkB y n0 (p0 + 1) from rfl) ?_
    refine zk_callV1 hX (by decide : 29 < 45) rfl (ix_on l (i := 29) (by decide) rfl (sg_n (K := ordO) (by decide) h2)) cv_RX0_82 dX0_readSign_24 (by decide) rfl rfl (Nat.le_of_ble_eq_true rfl) ?_
    refine z_if_lt (tgt := 45) hX dX0_readSign_27 (by decide) (fun h27 => ?_) (fun h27 => absurd h27 (by decide))
    refine z_iconst (v := 0) hX dX0_readSign_45 (by decide) ?_
    exact z_iret hX dX0_readSign_46 (by decide) rfl (by rw [hR]; rfl) (fun _ h => by rw [hR]; exact h)
  · skip
    refine z_aload_n hX dX0_readSign_0 0 rfl ?_
    refine z_bipush (v := 32) hX dX0_readSign_1 (by decide) ?_
    refine z_callV1 hX (ok_take l hn hy hp h1) cv_RX0_45 zRc2 dX0_readSign_3 (by decide) rfl rfl (Nat.le_of_ble_eq_true rfl) ?_
    refine z_if_ne (tgt := 11) hX dX0_readSign_6 (by decide) (fun h6 => ?_) (fun h6 => absurd h6 (by decide))
    refine z_aload_n hX dX0_readSign_11 0 rfl ?_
    refine z_aload_n hX dX0_readSign_12 0 rfl ?_
    refine z_callV1 hX (in_peek l hn hy h1.1 h2.1) cv_RX0_49 zRc2 dX0_readSign_13 (by decide) rfl rfl (Nat.le_of_ble_eq_true rfl) ?_
    refine zp_X0_sign hX (y_nar hy h2.1) (y_fit hy h2.1) fl_RX0_32 dX0_readSign_16 ?_
    rw [xT_5]
    refine z_aload_n hX dX0_readSign_19 1 rfl ?_
    refine z_aload_n hX dX0_readSign_20 0 rfl ?_
    refine zg_X0_sign hX fl_RX0_32 dX0_readSign_21 ?_
    refine z_isv (show _ = y (p0 + 1) from rfl) ?_
    obtain ⟨q, hq, hQ⟩ := ix_o l (g := g) (κ := zT κ (xT n0 (p0 + 1) xi xf xs (y (p0 + 1)) xv) y) (μ := μ) (ω := ω) (i := 29) (by decide) rfl h2.2
    refine zk_callV1 hX (by decide : 29 < 45) rfl hQ cv_RX0_82 dX0_readSign_24 (by decide) rfl rfl (Nat.le_of_ble_eq_true rfl) ?_
    refine z_if_lt (tgt := 45) hX dX0_readSign_27 (by decide) (fun h27 => absurd h27 (nn_i (by omega))) (fun h27 => ?_)
    refine z_aload_n hX dX0_readSign_30 0 rfl ?_
    refine z_aload_n hX dX0_readSign_31 0 rfl ?_
    refine zg_X0_sign hX fl_RX0_32 dX0_readSign_32 ?_
    refine z_isv (show _ = y (p0 + 1) from rfl) ?_
    refine z_callV1 hX (ok_take l hn hy h1.1 ⟨h2.1, rfl⟩) cv_RX0_45 zRc2 dX0_readSign_35 (by decide) rfl rfl (Nat.le_of_ble_eq_true rfl) ?_
    refine z_if_eq (tgt := 45) hX dX0_readSign_38 (by decide) (fun h38 => absurd h38 (by decide)) (fun h38 => ?_)
    refine z_iconst (v := 1) hX dX0_readSign_41 (by decide) ?_
    refine z_goto (tgt := 46) hX dX0_readSign_42 (by decide) ?_
    exact z_iret hX dX0_readSign_46 (by decide) rfl (by rw [hR]; rfl) (fun _ h => by rw [hR]; exact h)
end ZTX
