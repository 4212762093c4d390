section ZAG
set_option maxHeartbeats 4000000 in
set_option maxRecDepth 100000 in
theorem ok_X1_agrees (l : Launch) {g : zG} {κ : zKp} {μ : zMu} {ω : zOm} {f : Nat} {gb cb : Nat → Int32} (hf : f < 11) (hI : batI gb) (hc : cb = cellsOf gb) : zM l g yX1_agrees cX1_agrees 3 (some .boolean) 4 0 [.ref (gA g 6 f 0)] (zF κ f gb cb) μ ω (zF κ f gb cb) μ ω (some (.int 1)) := by
  have hW := hI.1
  have hn := hW.1
  refine zM_of (by decide) (Nat.le_of_ble_eq_true rfl) (fun p e R s m args below meth c hX => ?_)
  show zZ p l e R s m args below meth c g 3 _ _ _ _ 0 0 [(0, .ref (gA g 6 f 0))] []
  refine z_iconst (v := 0) hX dX1_agrees_0 (by decide) ?_
  refine z_istore_n (lv' := [(1, _), (0, _)]) hX dX1_agrees_1 (by decide) rfl ?_
  have hL : ∀ (dz : Nat) (k : Nat), bn gb - k = dz → k ≤ bn gb → zZ p l e R s m args below meth c g 3 (zQ g (zF κ f gb cb) μ ω (some (.int 1)) below args s 0) (zF κ f gb cb) μ ω 0 2 [(0, .ref (gA g 6 f 0)), (1, .int (nI k))] [] := by
    intro dz
    induction dz with
    | zero =>
      intro k hd hk
      have hkn : k = bn gb := by omega
      refine z_iload_n hX dX1_agrees_2 1 rfl ?_
      refine z_aload_n hX dX1_agrees_3 0 rfl ?_
      refine zg_X1_count hX hf  fl_RX1_21 dX1_agrees_4 ?_
      refine z_icmp_ge (tgt := 61) hX dX1_agrees_7 (by decide) (fun h7 => ?_) (fun h7 => absurd h7 (Classical.not_not.mpr (by rw [hkn]; exact cnt_le hn)))
      refine z_aload_n hX dX1_agrees_61 0 rfl ?_
      refine z_iconst (v := 0) hX dX1_agrees_62 (by decide) ?_
      refine z_callV1 hX (ok_X1_strengthInCells l hf hI hc) cv_RX1_190 (zRc6 hf) dX1_agrees_63 (by decide) rfl rfl (Nat.le_of_ble_eq_true rfl) ?_
      refine z_aload_n hX dX1_agrees_66 0 rfl ?_
      refine z_iconst (v := 0) hX dX1_agrees_67 (by decide) ?_
      refine z_callV1 hX (ok_X1_strengthAmongLines l hf hn) cv_RX1_193 (zRc6 hf) dX1_agrees_68 (by decide) rfl rfl (Nat.le_of_ble_eq_true rfl) ?_
      refine z_icmp_ne (tgt := 91) hX dX1_agrees_71 (by decide) (fun h71 => absurd h71 (fun q => q rfl)) (fun h71 => ?_)
      refine z_aload_n hX dX1_agrees_74 0 rfl ?_
      refine z_iconst (v := 1) hX dX1_agrees_75 (by decide) ?_
      refine z_callV1 hX (ok_X1_strengthInCells l hf hI hc) cv_RX1_190 (zRc6 hf) dX1_agrees_76 (by decide) rfl rfl (Nat.le_of_ble_eq_true rfl) ?_
      refine z_aload_n hX dX1_agrees_79 0 rfl ?_
      refine z_iconst (v := 1) hX dX1_agrees_80 (by decide) ?_
      refine z_callV1 hX (ok_X1_strengthAmongLines l hf hn) cv_RX1_193 (zRc6 hf) dX1_agrees_81 (by decide) rfl rfl (Nat.le_of_ble_eq_true rfl) ?_
      refine z_icmp_ne (tgt := 91) hX dX1_agrees_84 (by decide) (fun h84 => absurd h84 (fun q => q rfl)) (fun h84 => ?_)
      refine z_iconst (v := 1) hX dX1_agrees_87 (by decide) ?_
      refine z_goto (tgt := 92) hX dX1_agrees_88 (by decide) ?_
      exact z_iret hX dX1_agrees_92 (by decide) rfl rfl (fun _ h => h)
    | succ dz ih =>
      intro k hd hk
      have hkn : k < bn gb := by omega
      refine z_iload_n hX dX1_agrees_2 1 rfl ?_
      refine z_aload_n hX dX1_agrees_3 0 rfl ?_
      refine zg_X1_count hX hf  fl_RX1_21 dX1_agrees_4 ?_
      refine z_icmp_ge (tgt := 61) hX dX1_agrees_7 (by decide) (fun h7 => absurd h7 (cnt_gt hn hkn)) (fun h7 => ?_)
      refine z_aload_n hX dX1_agrees_10 0 rfl ?_
      refine z_iload_n hX dX1_agrees_11 1 rfl ?_
      refine z_callV1 hX (ok_line_in l hf hn hkn) cv_RX1_57 (zRc6 hf) dX1_agrees_12 (by decide) rfl rfl (Nat.le_of_ble_eq_true rfl) ?_
      refine z_astore_n (lv' := [(2, _), (0, _), (1, _)]) hX dX1_agrees_15 (by decide) rfl ?_
      refine z_aload_n hX dX1_agrees_16 0 rfl ?_
      refine z_ifnull hX dX1_agrees_17 ?_
      refine z_aload_n hX dX1_agrees_20 0 rfl ?_
      refine z_callV1 hX (ok_X3_hasFallen l hf (lt12 hn hkn) hkn) cv_RX1_172 (zRc9 hf (lt12 hn hkn)) dX1_agrees_21 (by decide) rfl rfl (Nat.le_of_ble_eq_true rfl) ?_
      refine z_if_neB (tgt := 55) hX dX1_agrees_24 (by decide) (fun h24 => ?_) (fun h24 => ?_)
      · skip
        refine z_iinc (v := nI (k + 1)) (lv' := [(1, _), (2, _), (0, _)]) hX dX1_agrees_55 2 rfl (nI_1 k) (by decide) rfl ?_
        refine z_goto (tgt := 2) hX dX1_agrees_58 (by decide) ?_
        refine z_sub [2, 0] rfl ?_
        exact ih (k + 1) (by omega) hkn
      · skip
        refine z_aload_n hX dX1_agrees_27 1 rfl ?_
        refine z_aload_n hX dX1_agrees_28 0 rfl ?_
        refine z_callV1 hX (ok_X1_supportInCells l hf hW hc hkn) cv_RX1_181 (zRc6 hf) dX1_agrees_29 (by decide) rfl rfl (Nat.le_of_ble_eq_true rfl) ?_
        refine z_aload_n hX dX1_agrees_32 1 rfl ?_
        refine z_aload_n hX dX1_agrees_33 0 rfl ?_
        refine z_callV1 hX (ok_X1_supportAmongLines l hf hW hkn) cv_RX1_154 (zRc6 hf) dX1_agrees_34 (by decide) rfl rfl (Nat.le_of_ble_eq_true rfl) ?_
        refine z_icmp_ne (tgt := 53) hX dX1_agrees_37 (by decide) (fun h37 => absurd h37 (fun q => q rfl)) (fun h37 => ?_)
        refine z_aload_n hX dX1_agrees_40 1 rfl ?_
        refine z_aload_n hX dX1_agrees_41 0 rfl ?_
        refine z_callV1 hX (ok_X1_enemyInCells l hf hn hc hkn) cv_RX1_184 (zRc6 hf) dX1_agrees_42 (by decide) rfl rfl (Nat.le_of_ble_eq_true rfl) ?_
        refine z_aload_n hX dX1_agrees_45 1 rfl ?_
        refine z_aload_n hX dX1_agrees_46 0 rfl ?_
        refine z_callV1 hX (ok_X1_enemyAmongLines l hf hW hkn) cv_RX1_187 (zRc6 hf) dX1_agrees_47 (by decide) rfl rfl (Nat.le_of_ble_eq_true rfl) ?_
        refine z_icmp_eq (tgt := 55) hX dX1_agrees_50 (by decide) (fun h50 => ?_) (fun h50 => absurd h50 (fun q => q rfl))
        refine z_iinc (v := nI (k + 1)) (lv' := [(1, _), (2, _), (0, _)]) hX dX1_agrees_55 2 rfl (nI_1 k) (by decide) rfl ?_
        refine z_goto (tgt := 2) hX dX1_agrees_58 (by decide) ?_
        refine z_sub [2, 0] rfl ?_
        exact ih (k + 1) (by omega) hkn
  refine z_sub [1, 0] rfl ?_
  exact hL (bn gb) 0 (Nat.sub_zero _) (Nat.zero_le _)
set_option maxHeartbeats 4000000 in
set_option maxRecDepth 100000 in
theorem ok_X4_isConsistent (l : Launch) {g : zG} {κ : zKp} {μ : zMu} {ω : zOm} {gb cb : Nat → Int32} (hI : batI gb) (hc : cb = cellsOf gb) : zM l g yX4_isConsistent cX4_isConsistent 1 (some .boolean) 5 0 [.ref (gA g 0 0 0)] (zF κ 0 gb cb) μ ω (zF κ 0 gb cb) μ ω (some (.int 1)) := by
  refine zM_of (by decide) (Nat.le_of_ble_eq_true rfl) (fun p e R s m args below meth c hX => ?_)
  show zZ p l e R s m args below meth c g 1 _ _ _ _ 0 0 [(0, .ref (gA g 0 0 0))] []
  refine z_aload_n hX dX4_isConsistent_0 0 rfl ?_
  refine zg_X4_field hX   fl_RX4_10 dX4_isConsistent_1 ?_
  refine z_callV1 hX (ok_X1_agrees l z0lt hI hc) cv_RX4_274 (zRc6 z0lt) dX4_isConsistent_4 (by decide) rfl rfl (Nat.le_of_ble_eq_true rfl) ?_
  exact z_iret hX dX4_isConsistent_7 (by decide) rfl rfl (fun _ h => h)
/-- field 2 after k turns of field 0's battle -/
def zAh (κ : zKp) (gb cb : Nat → Int32) (k : Nat) : zKp := zF (zCp κ 2 0) 2 (itB gb k) (if k = 0 then cb else cellsOf (itB gb k))
theorem zAh_0 {κ : zKp} {gb cb : Nat → Int32} (h6 : κ 6 0 = gb) (h8 : κ 8 0 = cb) : zAh κ gb cb 0 = zCp κ 2 0 := by
  unfold zAh
  rw [if_pos rfl]
  exact zF_at (κ := κ) ((zCp_s (Or.inl rfl)).trans h6) ((zCp_s (Or.inr (Or.inl rfl))).trans h8)
theorem zAh_1 {κ : zKp} {gb cb : Nat → Int32} {k : Nat} : zF (zCp κ 2 0) 2 (passB (itB gb k)) (cellsOf (passB (itB gb k))) = zAh κ gb cb (k + 1) := by
  unfold zAh
  rw [if_neg (by omega)]; rfl
theorem cel_it {gb cb : Nat → Int32} (hc : cb = cellsOf gb) (k : Nat) : (if k = 0 then cb else cellsOf (itB gb k)) = cellsOf (itB gb k) := by
  by_cases h : k = 0
  · subst h; rw [if_pos rfl, hc]; rfl
  · exact if_neg h


end ZAG
