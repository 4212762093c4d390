section ZFD
set_option maxHeartbeats 4000000 in
set_option maxRecDepth 100000 in
theorem ok_X4_isSide (l : Launch) {g : zG} {κ : zKp} {μ : zMu} {ω : zOm} {x : Int32} : zM l g yX4_isSide cX4_isSide 1 (some .boolean) 1 0 [.int x] κ μ ω κ μ ω (some (.int (if 0 ≤ x ∧ x < 2 then 1 else 0))) := by
  refine zM_of (by decide) (Nat.le_of_ble_eq_true rfl) (fun p e R s m args below meth c hX => ?_)
  show zZ p l e R s m args below meth c g 1 _ _ _ _ 0 0 [(0, .int x)] []
  refine z_iload_n hX dX4_isSide_0 0 rfl ?_
  refine z_if_lt (tgt := 13) hX dX4_isSide_1 (by decide) (fun h1 => ?_) (fun h1 => ?_)
  · skip
    refine z_iconst (v := 0) hX dX4_isSide_13 (by decide) ?_
    exact z_iret hX dX4_isSide_14 (by decide) rfl (by rw [if_neg (fun q => absurd q.1 (Int32.not_le.mpr h1))]) (fun _ h => h)
  · skip
    refine z_iload_n hX dX4_isSide_4 0 rfl ?_
    refine z_iconst (v := 2) hX dX4_isSide_5 (by decide) ?_
    refine z_icmp_ge (tgt := 13) hX dX4_isSide_6 (by decide) (fun h6 => ?_) (fun h6 => ?_)
    · skip
      refine z_iconst (v := 0) hX dX4_isSide_13 (by decide) ?_
      exact z_iret hX dX4_isSide_14 (by decide) rfl (by rw [if_neg (fun q => absurd q.2 (Int32.not_lt.mpr h6))]) (fun _ h => h)
    · skip
      refine z_iconst (v := 1) hX dX4_isSide_9 (by decide) ?_
      refine z_goto (tgt := 14) hX dX4_isSide_10 (by decide) ?_
      exact z_iret hX dX4_isSide_14 (by decide) rfl (by rw [if_pos ⟨Int32.not_lt.mp h1, Int32.not_le.mp h6⟩]) (fun _ h => h)
set_option maxHeartbeats 4000000 in
set_option maxRecDepth 100000 in
theorem ok_X4_isLane (l : Launch) {g : zG} {κ : zKp} {μ : zMu} {ω : zOm} {x : Int32} : zM l g yX4_isLane cX4_isLane 1 (some .boolean) 1 0 [.int x] κ μ ω κ μ ω (some (.int (if 0 ≤ x ∧ x < 3 then 1 else 0))) := by
  refine zM_of (by decide) (Nat.le_of_ble_eq_true rfl) (fun p e R s m args below meth c hX => ?_)
  show zZ p l e R s m args below meth c g 1 _ _ _ _ 0 0 [(0, .int x)] []
  refine z_iload_n hX dX4_isLane_0 0 rfl ?_
  refine z_if_lt (tgt := 13) hX dX4_isLane_1 (by decide) (fun h1 => ?_) (fun h1 => ?_)
  · skip
    refine z_iconst (v := 0) hX dX4_isLane_13 (by decide) ?_
    exact z_iret hX dX4_isLane_14 (by decide) rfl (by rw [if_neg (fun q => absurd q.1 (Int32.not_le.mpr h1))]) (fun _ h => h)
  · skip
    refine z_iload_n hX dX4_isLane_4 0 rfl ?_
    refine z_iconst (v := 3) hX dX4_isLane_5 (by decide) ?_
    refine z_icmp_ge (tgt := 13) hX dX4_isLane_6 (by decide) (fun h6 => ?_) (fun h6 => ?_)
    · skip
      refine z_iconst (v := 0) hX dX4_isLane_13 (by decide) ?_
      exact z_iret hX dX4_isLane_14 (by decide) rfl (by rw [if_neg (fun q => absurd q.2 (Int32.not_lt.mpr h6))]) (fun _ h => h)
    · skip
      refine z_iconst (v := 1) hX dX4_isLane_9 (by decide) ?_
      refine z_goto (tgt := 14) hX dX4_isLane_10 (by decide) ?_
      exact z_iret hX dX4_isLane_14 (by decide) rfl (by rw [if_pos ⟨Int32.not_lt.mp h1, Int32.not_le.mp h6⟩]) (fun _ h => h)
set_option maxHeartbeats 4000000 in
set_option maxRecDepth 100000 in
theorem ok_X4_isColumn (l : Launch) {g : zG} {κ : zKp} {μ : zMu} {ω : zOm} {x : Int32} : zM l g yX4_isColumn cX4_isColumn 1 (some .boolean) 1 0 [.int x] κ μ ω κ μ ω (some (.int (if 0 ≤ x ∧ x < 10 then 1 else 0))) := by
  refine zM_of (by decide) (Nat.le_of_ble_eq_true rfl) (fun p e R s m args below meth c hX => ?_)
  show zZ p l e R s m args below meth c g 1 _ _ _ _ 0 0 [(0, .int x)] []
  refine z_iload_n hX dX4_isColumn_0 0 rfl ?_
  refine z_if_lt (tgt := 14) hX dX4_isColumn_1 (by decide) (fun h1 => ?_) (fun h1 => ?_)
  · skip
    refine z_iconst (v := 0) hX dX4_isColumn_14 (by decide) ?_
    exact z_iret hX dX4_isColumn_15 (by decide) rfl (by rw [if_neg (fun q => absurd q.1 (Int32.not_le.mpr h1))]) (fun _ h => h)
  · skip
    refine z_iload_n hX dX4_isColumn_4 0 rfl ?_
    refine z_bipush (v := 10) hX dX4_isColumn_5 (by decide) ?_
    refine z_icmp_ge (tgt := 14) hX dX4_isColumn_7 (by decide) (fun h7 => ?_) (fun h7 => ?_)
    · skip
      refine z_iconst (v := 0) hX dX4_isColumn_14 (by decide) ?_
      exact z_iret hX dX4_isColumn_15 (by decide) rfl (by rw [if_neg (fun q => absurd q.2 (Int32.not_lt.mpr h7))]) (fun _ h => h)
    · skip
      refine z_iconst (v := 1) hX dX4_isColumn_10 (by decide) ?_
      refine z_goto (tgt := 15) hX dX4_isColumn_11 (by decide) ?_
      exact z_iret hX dX4_isColumn_15 (by decide) rfl (by rw [if_pos ⟨Int32.not_lt.mp h1, Int32.not_le.mp h7⟩]) (fun _ h => h)
set_option maxHeartbeats 4000000 in
set_option maxRecDepth 100000 in
theorem ok_line_in (l : Launch) {g : zG} {κ : zKp} {μ : zMu} {ω : zOm} {f : Nat} {gb cb : Nat → Int32} (hf : f < 11) {i : Nat} (hn : bnI gb) (hlt : i < bn gb) : zM l g yX1_line cX1_line 2 (some (.object "LineBattle$Line")) 1 0 [.ref (gA g 6 f 0), .int (nI i)] (zF κ f gb cb) μ ω (zF κ f gb cb) μ ω (some (.ref (gA g 9 f i))) := by
  refine zM_of (by decide) (Nat.le_of_ble_eq_true rfl) (fun p e R s m args below meth c hX => ?_)
  show zZ p l e R s m args below meth c g 2 _ _ _ _ 0 0 [(0, .ref (gA g 6 f 0)), (1, .int (nI i))] []
  refine z_iload_n hX dX1_line_0 1 rfl ?_
  refine z_if_lt (tgt := 21) hX dX1_line_1 (by decide) (fun h1 => absurd h1 (nn_i (by have := hn.1; omega))) (fun h1 => ?_)
  refine z_iload_n hX dX1_line_4 1 rfl ?_
  refine z_aload_n hX dX1_line_5 0 rfl ?_
  refine zg_X1_count hX hf  fl_RX1_21 dX1_line_6 ?_
  refine z_icmp_ge (tgt := 21) hX dX1_line_9 (by decide) (fun h9 => absurd h9 (cnt_gt hn hlt)) (fun h9 => ?_)
  refine z_iload_n hX dX1_line_12 1 rfl ?_
  refine z_aload_n hX dX1_line_13 0 rfl ?_
  refine zg_X1_lines hX hf  fl_RX1_11 dX1_line_14 ?_
  refine zl_lines hX hf dX1_line_17 ?_
  refine z_icmp_lt (tgt := 23) hX dX1_line_18 (by decide) (fun h18 => ?_) (fun h18 => absurd h18 (Classical.not_not.mpr (lt_i (b := 12) (lt12 hn hlt) (by decide))))
  refine z_aload_n hX dX1_line_23 0 rfl ?_
  refine zg_X1_lines hX hf  fl_RX1_11 dX1_line_24 ?_
  refine z_iload_n hX dX1_line_27 1 rfl ?_
  refine za_lines hX hf rfl (lt12 hn hlt) dX1_line_28 ?_
  exact z_aret hX dX1_line_29 (by decide) (Or.inr ⟨_, rfl⟩) rfl (fun _ h => h)
set_option maxHeartbeats 4000000 in
set_option maxRecDepth 100000 in
theorem ok_line_out (l : Launch) {g : zG} {κ : zKp} {μ : zMu} {ω : zOm} {f : Nat} {gb cb : Nat → Int32} (hf : f < 11) {x : Int32} (hx : x < 0 ∨ gb 0 ≤ x) : zM l g yX1_line cX1_line 2 (some (.object "LineBattle$Line")) 1 0 [.ref (gA g 6 f 0), .int x] (zF κ f gb cb) μ ω (zF κ f gb cb) μ ω (some .null) := by
  refine zM_of (by decide) (Nat.le_of_ble_eq_true rfl) (fun p e R s m args below meth c hX => ?_)
  show zZ p l e R s m args below meth c g 2 _ _ _ _ 0 0 [(0, .ref (gA g 6 f 0)), (1, .int x)] []
  refine z_iload_n hX dX1_line_0 1 rfl ?_
  refine z_if_lt (tgt := 21) hX dX1_line_1 (by decide) (fun h1 => ?_) (fun h1 => ?_)
  · skip
    refine z_null hX dX1_line_21 ?_
    exact z_aret hX dX1_line_22 (by decide) (Or.inl rfl) rfl (fun _ h => h)
  · skip
    refine z_iload_n hX dX1_line_4 1 rfl ?_
    refine z_aload_n hX dX1_line_5 0 rfl ?_
    refine zg_X1_count hX hf  fl_RX1_21 dX1_line_6 ?_
    refine z_icmp_ge (tgt := 21) hX dX1_line_9 (by decide) (fun h9 => ?_) (fun h9 => absurd h9 (Classical.not_not.mpr (hx.resolve_left h1)))
    refine z_null hX dX1_line_21 ?_
    exact z_aret hX dX1_line_22 (by decide) (Or.inl rfl) rfl (fun _ h => h)
set_option maxHeartbeats 4000000 in
set_option maxRecDepth 100000 in
theorem ok_occ_in_s (l : Launch) {g : zG} {κ : zKp} {μ : zMu} {ω : zOm} {f : Nat} {gb cb : Nat → Int32} (hf : f < 11) {a b j : Nat} (hn : bnI gb) (ha : a < 3) (hb : b < 10) (hlt : j < bn gb) (hcell : cb (a * 10 + b) = nI j) : zM l g yX1_occupant cX1_occupant 4 (some (.object "LineBattle$Line")) 2 0 [.ref (gA g 6 f 0), .int (nI a), .int (nI b)] (zF κ f gb cb) μ ω (zF κ f gb cb) μ ω (some (.ref (gA g 9 f j))) := by
  refine zM_of (by decide) (Nat.le_of_ble_eq_true rfl) (fun p e R s m args below meth c hX => ?_)
  show zZ p l e R s m args below meth c g 4 _ _ _ _ 0 0 [(0, .ref (gA g 6 f 0)), (1, .int (nI a)), (2, .int (nI b))] []
  refine z_iload_n hX dX1_occupant_0 1 rfl ?_
  refine z_callN1 hX (ok_X4_isLane l) cn_RX1_50 dX1_occupant_1 (by decide) rfl rfl (Nat.le_of_ble_eq_true rfl) ?_
  refine z_if_eqB (tgt := 14) hX dX1_occupant_4 (by decide) (fun h4 => absurd h4 (Classical.not_not.mpr (show 0 ≤ nI a ∧ nI a < 3 from ⟨ge_i (by omega), lt_i (b := 3) ha (by decide)⟩))) (fun h4 => ?_)
  refine z_iload_n hX dX1_occupant_7 2 rfl ?_
  refine z_callN1 hX (ok_X4_isColumn l) cn_RX1_54 dX1_occupant_8 (by decide) rfl rfl (Nat.le_of_ble_eq_true rfl) ?_
  refine z_if_neB (tgt := 16) hX dX1_occupant_11 (by decide) (fun h11 => ?_) (fun h11 => absurd h11 (Classical.not_not.mpr (show 0 ≤ nI b ∧ nI b < 10 from ⟨ge_i (by omega), lt_i (b := 10) hb (by decide)⟩)))
  refine z_iload_n hX dX1_occupant_16 1 rfl ?_
  refine z_bipush (v := 10) hX dX1_occupant_17 (by decide) ?_
  refine z_imul hX dX1_occupant_19 ?_
  refine z_iload_n hX dX1_occupant_20 2 rfl ?_
  refine z_iadd hX dX1_occupant_21 ?_
  refine z_isv (ix10 a b) ?_
  refine z_istore_n (lv' := [(3, _), (0, _), (1, _), (2, _)]) hX dX1_occupant_22 (by decide) rfl ?_
  refine z_iload_n hX dX1_occupant_23 0 rfl ?_
  refine z_if_lt (tgt := 36) hX dX1_occupant_24 (by decide) (fun h24 => absurd h24 (nn_i (by omega))) (fun h24 => ?_)
  refine z_iload_n hX dX1_occupant_27 0 rfl ?_
  refine z_aload_n hX dX1_occupant_28 1 rfl ?_
  refine zg_X1_cells hX hf  fl_RX1_17 dX1_occupant_29 ?_
  refine zl_cells hX hf dX1_occupant_32 ?_
  refine z_icmp_lt (tgt := 38) hX dX1_occupant_33 (by decide) (fun h33 => ?_) (fun h33 => absurd h33 (Classical.not_not.mpr (lt_i (b := 30) (by omega) (by decide))))
  refine z_aload_n hX dX1_occupant_38 1 rfl ?_
  refine z_aload_n hX dX1_occupant_39 1 rfl ?_
  refine zg_X1_cells hX hf  fl_RX1_17 dX1_occupant_40 ?_
  refine z_iload_n hX dX1_occupant_43 0 rfl ?_
  refine za_cells hX hf rfl (show a * 10 + b < 30 by omega) dX1_occupant_44 ?_
  refine z_isv hcell ?_
  refine z_callV1 hX (ok_line_in l hf hn hlt) cv_RX1_57 (zRc6 hf) dX1_occupant_45 (by decide) rfl rfl (Nat.le_of_ble_eq_true rfl) ?_
  exact z_aret hX dX1_occupant_48 (by decide) (Or.inr ⟨_, rfl⟩) rfl (fun _ h => h)
set_option maxHeartbeats 4000000 in
set_option maxRecDepth 100000 in
theorem ok_occ_in_n (l : Launch) {g : zG} {κ : zKp} {μ : zMu} {ω : zOm} {f : Nat} {gb cb : Nat → Int32} (hf : f < 11) {a b : Nat} (ha : a < 3) (hb : b < 10) (hcell : cb (a * 10 + b) = -1) : zM l g yX1_occupant cX1_occupant 4 (some (.object "LineBattle$Line")) 2 0 [.ref (gA g 6 f 0), .int (nI a), .int (nI b)] (zF κ f gb cb) μ ω (zF κ f gb cb) μ ω (some .null) := by
  refine zM_of (by decide) (Nat.le_of_ble_eq_true rfl) (fun p e R s m args below meth c hX => ?_)
  show zZ p l e R s m args below meth c g 4 _ _ _ _ 0 0 [(0, .ref (gA g 6 f 0)), (1, .int (nI a)), (2, .int (nI b))] []
  refine z_iload_n hX dX1_occupant_0 1 rfl ?_
  refine z_callN1 hX (ok_X4_isLane l) cn_RX1_50 dX1_occupant_1 (by decide) rfl rfl (Nat.le_of_ble_eq_true rfl) ?_
  refine z_if_eqB (tgt := 14) hX dX1_occupant_4 (by decide) (fun h4 => absurd h4 (Classical.not_not.mpr (show 0 ≤ nI a ∧ nI a < 3 from ⟨ge_i (by omega), lt_i (b := 3) ha (by decide)⟩))) (fun h4 => ?_)
  refine z_iload_n hX dX1_occupant_7 2 rfl ?_
  refine z_callN1 hX (ok_X4_isColumn l) cn_RX1_54 dX1_occupant_8 (by decide) rfl rfl (Nat.le_of_ble_eq_true rfl) ?_
  refine z_if_neB (tgt := 16) hX dX1_occupant_11 (by decide) (fun h11 => ?_) (fun h11 => absurd h11 (Classical.not_not.mpr (show 0 ≤ nI b ∧ nI b < 10 from ⟨ge_i (by omega), lt_i (b := 10) hb (by decide)⟩)))
  refine z_iload_n hX dX1_occupant_16 1 rfl ?_
  refine z_bipush (v := 10) hX dX1_occupant_17 (by decide) ?_
  refine z_imul hX dX1_occupant_19 ?_
  refine z_iload_n hX dX1_occupant_20 2 rfl ?_
  refine z_iadd hX dX1_occupant_21 ?_
  refine z_isv (ix10 a b) ?_
  refine z_istore_n (lv' := [(3, _), (0, _), (1, _), (2, _)]) hX dX1_occupant_22 (by decide) rfl ?_
  refine z_iload_n hX dX1_occupant_23 0 rfl ?_
  refine z_if_lt (tgt := 36) hX dX1_occupant_24 (by decide) (fun h24 => absurd h24 (nn_i (by omega))) (fun h24 => ?_)
  refine z_iload_n hX dX1_occupant_27 0 rfl ?_
  refine z_aload_n hX dX1_occupant_28 1 rfl ?_
  refine zg_X1_cells hX hf  fl_RX1_17 dX1_occupant_29 ?_
  refine zl_cells hX hf dX1_occupant_32 ?_
  refine z_icmp_lt (tgt := 38) hX dX1_occupant_33 (by decide) (fun h33 => ?_) (fun h33 => absurd h33 (Classical.not_not.mpr (lt_i (b := 30) (by omega) (by decide))))
  refine z_aload_n hX dX1_occupant_38 1 rfl ?_
  refine z_aload_n hX dX1_occupant_39 1 rfl ?_
  refine zg_X1_cells hX hf  fl_RX1_17 dX1_occupant_40 ?_
  refine z_iload_n hX dX1_occupant_43 0 rfl ?_
  refine za_cells hX hf rfl (show a * 10 + b < 30 by omega) dX1_occupant_44 ?_
  refine z_isv hcell ?_
  refine z_callV1 hX (ok_line_out l hf (Or.inl (by decide))) cv_RX1_57 (zRc6 hf) dX1_occupant_45 (by decide) rfl rfl (Nat.le_of_ble_eq_true rfl) ?_
  exact z_aret hX dX1_occupant_48 (by decide) (Or.inl rfl) rfl (fun _ h => h)
set_option maxHeartbeats 4000000 in
set_option maxRecDepth 100000 in
theorem ok_occ_lane (l : Launch) {g : zG} {κ : zKp} {μ : zMu} {ω : zOm} {f : Nat} {gb cb : Nat → Int32} (hf : f < 11) {x y : Int32} (hx : ¬ (0 ≤ x ∧ x < 3)) : zM l g yX1_occupant cX1_occupant 4 (some (.object "LineBattle$Line")) 2 0 [.ref (gA g 6 f 0), .int x, .int y] (zF κ f gb cb) μ ω (zF κ f gb cb) μ ω (some .null) := by
  refine zM_of (by decide) (Nat.le_of_ble_eq_true rfl) (fun p e R s m args below meth c hX => ?_)
  show zZ p l e R s m args below meth c g 4 _ _ _ _ 0 0 [(0, .ref (gA g 6 f 0)), (1, .int x), (2, .int y)] []
  refine z_iload_n hX dX1_occupant_0 1 rfl ?_
  refine z_callN1 hX (ok_X4_isLane l) cn_RX1_50 dX1_occupant_1 (by decide) rfl rfl (Nat.le_of_ble_eq_true rfl) ?_
  refine z_if_eqB (tgt := 14) hX dX1_occupant_4 (by decide) (fun h4 => ?_) (fun h4 => absurd h4 hx)
  refine z_null hX dX1_occupant_14 ?_
  exact z_aret hX dX1_occupant_15 (by decide) (Or.inl rfl) rfl (fun _ h => h)
set_option maxHeartbeats 4000000 in
set_option maxRecDepth 100000 in
theorem ok_occ_col (l : Launch) {g : zG} {κ : zKp} {μ : zMu} {ω : zOm} {f : Nat} {gb cb : Nat → Int32} (hf : f < 11) {a : Nat} {y : Int32} (ha : a < 3) (hy : ¬ (0 ≤ y ∧ y < 10)) : zM l g yX1_occupant cX1_occupant 4 (some (.object "LineBattle$Line")) 2 0 [.ref (gA g 6 f 0), .int (nI a), .int y] (zF κ f gb cb) μ ω (zF κ f gb cb) μ ω (some .null) := by
  refine zM_of (by decide) (Nat.le_of_ble_eq_true rfl) (fun p e R s m args below meth c hX => ?_)
  show zZ p l e R s m args below meth c g 4 _ _ _ _ 0 0 [(0, .ref (gA g 6 f 0)), (1, .int (nI a)), (2, .int y)] []
  refine z_iload_n hX dX1_occupant_0 1 rfl ?_
  refine z_callN1 hX (ok_X4_isLane l) cn_RX1_50 dX1_occupant_1 (by decide) rfl rfl (Nat.le_of_ble_eq_true rfl) ?_
  refine z_if_eqB (tgt := 14) hX dX1_occupant_4 (by decide) (fun h4 => absurd h4 (Classical.not_not.mpr (show 0 ≤ nI a ∧ nI a < 3 from ⟨ge_i (by omega), lt_i (b := 3) ha (by decide)⟩))) (fun h4 => ?_)
  refine z_iload_n hX dX1_occupant_7 2 rfl ?_
  refine z_callN1 hX (ok_X4_isColumn l) cn_RX1_54 dX1_occupant_8 (by decide) rfl rfl (Nat.le_of_ble_eq_true rfl) ?_
  refine z_if_neB (tgt := 16) hX dX1_occupant_11 (by decide) (fun h11 => absurd h11 hy) (fun h11 => ?_)
  refine z_null hX dX1_occupant_14 ?_
  exact z_aret hX dX1_occupant_15 (by decide) (Or.inl rfl) rfl (fun _ h => h)
set_option maxHeartbeats 4000000 in
set_option maxRecDepth 100000 in
theorem ok_X1_putInto (l : Launch) {g : zG} {κ : zKp} {μ : zMu} {ω : zOm} {f : Nat} {gb cb : Nat → Int32} (hf : f < 11) {a b : Nat} {x : Int32} (ha : a < 3) (hb : b < 10) : zM l g yX1_putInto cX1_putInto 5 none 1 0 [.ref (gA g 6 f 0), .int (nI a), .int (nI b), .int x] (zF κ f gb cb) μ ω (zF κ f gb (upd cb (a * 10 + b) x)) μ ω none := by
  refine zM_of (by decide) (Nat.le_of_ble_eq_true rfl) (fun p e R s m args below meth c hX => ?_)
  show zZ p l e R s m args below meth c g 5 _ _ _ _ 0 0 [(0, .ref (gA g 6 f 0)), (1, .int (nI a)), (2, .int (nI b)), (3, .int x)] []
  refine z_iload_n hX dX1_putInto_0 1 rfl ?_
  refine z_bipush (v := 10) hX dX1_putInto_1 (by decide) ?_
  refine z_imul hX dX1_putInto_3 ?_
  refine z_iload_n hX dX1_putInto_4 2 rfl ?_
  refine z_iadd hX dX1_putInto_5 ?_
  refine z_isv (ix10 a b) ?_
  refine z_istore (lv' := [(4, _), (0, _), (1, _), (2, _), (3, _)]) hX dX1_putInto_6 (by decide) rfl ?_
  refine z_iload hX dX1_putInto_8 0 rfl ?_
  refine z_if_lt (tgt := 31) hX dX1_putInto_10 (by decide) (fun h10 => absurd h10 (nn_i (by omega))) (fun h10 => ?_)
  refine z_iload hX dX1_putInto_13 0 rfl ?_
  refine z_aload_n hX dX1_putInto_15 1 rfl ?_
  refine zg_X1_cells hX hf  fl_RX1_17 dX1_putInto_16 ?_
  refine zl_cells hX hf dX1_putInto_19 ?_
  refine z_icmp_ge (tgt := 31) hX dX1_putInto_20 (by decide) (fun h20 => absurd h20 (nle_i (b := 30) (by omega) (by decide))) (fun h20 => ?_)
  refine z_aload_n hX dX1_putInto_23 1 rfl ?_
  refine zg_X1_cells hX hf  fl_RX1_17 dX1_putInto_24 ?_
  refine z_iload hX dX1_putInto_27 0 rfl ?_
  refine z_iload_n hX dX1_putInto_29 4 rfl ?_
  refine zs_cells hX hf rfl (show a * 10 + b < 30 by omega)  dX1_putInto_30 ?_
  exact z_vret hX dX1_putInto_31 (by decide) (fun _ h => h)
set_option maxHeartbeats 4000000 in
set_option maxRecDepth 100000 in
theorem ok_X1_jars (l : Launch) {g : zG} {κ : zKp} {μ : zMu} {ω : zOm} {f : Nat} {gb cb : Nat → Int32} (hf : f < 11) {x : Int32} : zM l g yX1_jars cX1_jars 2 (some .int) 1 0 [.ref (gA g 6 f 0), .int x] (zF κ f gb cb) μ ω (zF κ f gb cb) μ ω (some (.int (if x = 0 then gb 3 else gb 4))) := by
  refine zM_of (by decide) (Nat.le_of_ble_eq_true rfl) (fun p e R s m args below meth c hX => ?_)
  show zZ p l e R s m args below meth c g 2 _ _ _ _ 0 0 [(0, .ref (gA g 6 f 0)), (1, .int x)] []
  refine z_iload_n hX dX1_jars_0 1 rfl ?_
  refine z_if_ne (tgt := 11) hX dX1_jars_1 (by decide) (fun h1 => ?_) (fun h1 => ?_)
  · skip
    refine z_aload_n hX dX1_jars_11 0 rfl ?_
    refine zg_X1_jarsOfSecond hX hf  fl_RX1_34 dX1_jars_12 ?_
    exact z_iretI hX dX1_jars_15 (by decide) (by simp [h1]) (fun _ h => h)
  · skip
    refine z_aload_n hX dX1_jars_4 0 rfl ?_
    refine zg_X1_jarsOfFirst hX hf  fl_RX1_31 dX1_jars_5 ?_
    refine z_goto (tgt := 15) hX dX1_jars_8 (by decide) ?_
    exact z_iretI hX dX1_jars_15 (by decide) (by simp [h1]) (fun _ h => h)
set_option maxHeartbeats 4000000 in
set_option maxRecDepth 100000 in
theorem ok_X1_firstColumn (l : Launch) {g : zG} {κ : zKp} {μ : zMu} {ω : zOm} {x : Int32} : zM l g yX1_firstColumn cX1_firstColumn 1 (some .int) 1 0 [.int x] κ μ ω κ μ ω (some (.int (if x = 0 then 0 else 9))) := by
  refine zM_of (by decide) (Nat.le_of_ble_eq_true rfl) (fun p e R s m args below meth c hX => ?_)
  show zZ p l e R s m args below meth c g 1 _ _ _ _ 0 0 [(0, .int x)] []
  refine z_iload_n hX dX1_firstColumn_0 0 rfl ?_
  refine z_if_ne (tgt := 8) hX dX1_firstColumn_1 (by decide) (fun h1 => ?_) (fun h1 => ?_)
  · skip
    refine z_bipush (v := 9) hX dX1_firstColumn_8 (by decide) ?_
    exact z_iretI hX dX1_firstColumn_10 (by decide) (by simp [h1]) (fun _ h => h)
  · skip
    refine z_iconst (v := 0) hX dX1_firstColumn_4 (by decide) ?_
    refine z_goto (tgt := 10) hX dX1_firstColumn_5 (by decide) ?_
    exact z_iretI hX dX1_firstColumn_10 (by decide) (by simp [h1]) (fun _ h => h)
theorem ok_occ_s (l : Launch) {g : zG} {κ : zKp} {μ : zMu} {ω : zOm} {f : Nat} {gb cb : Nat → Int32} (hf : f < 11) {x y : Int32} {j : Nat} (hn : bnI gb) (hc : cb = cellsOf gb) (ho : occB gb x y = some j) : zM l g yX1_occupant cX1_occupant 4 (some (.object "LineBattle$Line")) 2 0 [.ref (gA g 6 f 0), .int x, .int y] (zF κ f gb cb) μ ω (zF κ f gb cb) μ ω (some (.ref (gA g 9 f j))) := by
  obtain ⟨h1, h2, h3, h4, h5, h6, h7⟩ := occ_some hn.1 ho
  obtain ⟨a, ha, rfl⟩ := in3 h6
  obtain ⟨b, hb, rfl⟩ := in10 h7
  exact ok_occ_in_s l hf hn ha hb h1 (by rw [hc, cellsOf_at ha hb, h2])
theorem ok_occ_n (l : Launch) {g : zG} {κ : zKp} {μ : zMu} {ω : zOm} {f : Nat} {gb cb : Nat → Int32} (hf : f < 11) {x y : Int32} (hn : bnI gb) (hc : cb = cellsOf gb) (ho : occB gb x y = none) : zM l g yX1_occupant cX1_occupant 4 (some (.object "LineBattle$Line")) 2 0 [.ref (gA g 6 f 0), .int x, .int y] (zF κ f gb cb) μ ω (zF κ f gb cb) μ ω (some .null) := by
  by_cases h6 : 0 ≤ x ∧ x < 3
  · by_cases h7 : inCol y
    · have h8 := occ_none hn.1 ho h6 h7
      obtain ⟨a, ha, rfl⟩ := in3 h6
      obtain ⟨b, hb, rfl⟩ := in10 h7
      exact ok_occ_in_n l hf ha hb (by rw [hc, cellsOf_at ha hb, h8])
    · obtain ⟨a, ha, rfl⟩ := in3 h6
      exact ok_occ_col l hf ha (fun q => h7 ⟨q.1, lt10_le9 q.2⟩)
  · exact ok_occ_lane l hf h6
end ZFD
