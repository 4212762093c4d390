section ZTY
set_option maxHeartbeats 4000000 in
set_option maxRecDepth 100000 in
theorem ok_X0_append (l : Launch) {g : zG} {κ : zKp} {μ : zMu} {ω : zOm} {x y : Nat → Int32} {n0 : Nat} (hn0 : n0 < 60) (hx : x 0 = nI n0) {v : Int32} (hv : vp_nar .char v = v)  : zM l g yX0_append cX0_append 2 (some .boolean) 2 0 [.ref (gA g 2 0 0), .int v] (zT κ x y) μ ω (zT κ (upd x 0 (nI (n0 + 1))) (upd y n0 v)) μ ω (some (.int 1)) := by
  refine zM_of (by decide) (Nat.le_of_ble_eq_true rfl) (fun p e R s m args below meth c hX => ?_)
  show zZ p l e R s m args below meth c g 2 _ _ _ _ 0 0 [(0, .ref (gA g 2 0 0)), (1, .int v)] []
  refine z_aload_n hX dX0_append_0 0 rfl ?_
  refine zg_X0_length hX   fl_RX0_15 dX0_append_1 ?_
  refine z_isv hx ?_
  refine z_if_lt (tgt := 19) hX dX0_append_4 (by decide) (fun h4 => absurd h4 (nn_i (by omega))) (fun h4 => ?_)
  refine z_aload_n hX dX0_append_7 0 rfl ?_
  refine zg_X0_length hX   fl_RX0_15 dX0_append_8 ?_
  refine z_isv hx ?_
  refine z_aload_n hX dX0_append_11 0 rfl ?_
  refine zg_X0_signs hX   fl_RX0_9 dX0_append_12 ?_
  refine zl_signs hX  dX0_append_15 ?_
  refine z_icmp_lt (tgt := 21) hX dX0_append_16 (by decide) (fun h16 => ?_) (fun h16 => absurd h16 (Classical.not_not.mpr (lt_i (a := n0) (b := 60) hn0 (by decide))))
  refine z_aload_n hX dX0_append_21 0 rfl ?_
  refine zg_X0_signs hX   fl_RX0_9 dX0_append_22 ?_
  refine z_aload_n hX dX0_append_25 0 rfl ?_
  refine zg_X0_length hX   fl_RX0_15 dX0_append_26 ?_
  refine z_isv hx ?_
  refine z_iload_n hX dX0_append_29 1 rfl ?_
  refine zs_signs hX  rfl hn0 hv dX0_append_30 ?_
  refine z_aload_n hX dX0_append_31 0 rfl ?_
  refine z_dup hX dX0_append_32 rfl ?_
  refine zg_X0_length hX   fl_RX0_15 dX0_append_33 ?_
  refine z_isv hx ?_
  refine z_iconst (v := 1) hX dX0_append_36 (by decide) ?_
  refine z_iadd hX dX0_append_37 ?_
  refine z_isv (nI_1 n0) ?_
  refine zp_X0_length hX   fl_RX0_15 dX0_append_38 ?_
  refine z_iconst (v := 1) hX dX0_append_41 (by decide) ?_
  exact z_iret hX dX0_append_42 (by decide) rfl rfl (fun _ h => h)
set_option maxHeartbeats 4000000 in
set_option maxRecDepth 100000 in
theorem no_append (l : Launch) {g : zG} {κ : zKp} {μ : zMu} {ω : zOm} {x y : Nat → Int32} {v : Int32} (hx : x 0 = 60) : zM l g yX0_append cX0_append 2 (some .boolean) 2 0 [.ref (gA g 2 0 0), .int v] (zT κ x y) μ ω (zT κ x y) μ ω (some (.int 0)) := by
  refine zM_of (by decide) (Nat.le_of_ble_eq_true rfl) (fun p e R s m args below meth c hX => ?_)
  show zZ p l e R s m args below meth c g 2 _ _ _ _ 0 0 [(0, .ref (gA g 2 0 0)), (1, .int v)] []
  refine z_aload_n hX dX0_append_0 0 rfl ?_
  refine zg_X0_length hX   fl_RX0_15 dX0_append_1 ?_
  refine z_isv hx ?_
  refine z_if_lt (tgt := 19) hX dX0_append_4 (by decide) (fun h4 => absurd h4 (by decide)) (fun h4 => ?_)
  refine z_aload_n hX dX0_append_7 0 rfl ?_
  refine zg_X0_length hX   fl_RX0_15 dX0_append_8 ?_
  refine z_isv hx ?_
  refine z_aload_n hX dX0_append_11 0 rfl ?_
  refine zg_X0_signs hX   fl_RX0_9 dX0_append_12 ?_
  refine zl_signs hX  dX0_append_15 ?_
  refine z_icmp_lt (tgt := 21) hX dX0_append_16 (by decide) (fun h16 => absurd h16 (by decide)) (fun h16 => ?_)
  refine z_iconst (v := 0) hX dX0_append_19 (by decide) ?_
  exact z_iret hX dX0_append_20 (by decide) rfl rfl (fun _ h => h)
set_option maxHeartbeats 4000000 in
set_option maxRecDepth 100000 in
theorem ok_X0_clear (l : Launch) {g : zG} {κ : zKp} {μ : zMu} {ω : zOm} {x y : Nat → Int32}  : zM l g yX0_clear cX0_clear 1 none 1 0 [.ref (gA g 2 0 0)] (zT κ x y) μ ω (zT κ (upd x 0 0) y) μ ω none := by
  refine zM_of (by decide) (Nat.le_of_ble_eq_true rfl) (fun p e R s m args below meth c hX => ?_)
  show zZ p l e R s m args below meth c g 1 _ _ _ _ 0 0 [(0, .ref (gA g 2 0 0))] []
  refine z_aload_n hX dX0_clear_0 0 rfl ?_
  refine z_iconst (v := 0) hX dX0_clear_1 (by decide) ?_
  refine zp_X0_length hX   fl_RX0_15 dX0_clear_2 ?_
  exact z_vret hX dX0_clear_5 (by decide) (fun _ h => h)
set_option maxHeartbeats 4000000 in
set_option maxRecDepth 100000 in
theorem ok_X0_rewind (l : Launch) {g : zG} {κ : zKp} {μ : zMu} {ω : zOm} {x y : Nat → Int32}  : zM l g yX0_rewind cX0_rewind 1 none 1 0 [.ref (gA g 2 0 0)] (zT κ x y) μ ω (zT κ (upd x 1 0) y) μ ω none := by
  refine zM_of (by decide) (Nat.le_of_ble_eq_true rfl) (fun p e R s m args below meth c hX => ?_)
  show zZ p l e R s m args below meth c g 1 _ _ _ _ 0 0 [(0, .ref (gA g 2 0 0))] []
  refine z_aload_n hX dX0_rewind_0 0 rfl ?_
  refine z_iconst (v := 0) hX dX0_rewind_1 (by decide) ?_
  refine zp_X0_position hX   fl_RX0_19 dX0_rewind_2 ?_
  exact z_vret hX dX0_rewind_5 (by decide) (fun _ h => h)
set_option maxHeartbeats 4000000 in
set_option maxRecDepth 100000 in
theorem ok_X4_type (l : Launch) {g : zG} {κ : zKp} {μ : zMu} {ω : zOm} {x y : Nat → Int32} {n0 : Nat} (hn0 : n0 < 60) (hx : x 0 = nI n0) {v : Int32} (hv : vp_nar .char v = v) (h1 : 32 ≤ v ∧ v ≤ 126) : zM l g yX4_type cX4_type 2 (some .int) 3 0 [.ref (gA g 0 0 0), .int v] (zT κ x y) μ ω (zT κ (upd x 0 (nI (n0 + 1))) (upd y n0 v)) μ ω (some (.int (nI (n0 + 1)))) := by
  refine zM_of (by decide) (Nat.le_of_ble_eq_true rfl) (fun p e R s m args below meth c hX => ?_)
  show zZ p l e R s m args below meth c g 2 _ _ _ _ 0 0 [(0, .ref (gA g 0 0 0)), (1, .int v)] []
  refine z_iload_n hX dX4_type_0 1 rfl ?_
  refine z_bipush (v := 32) hX dX4_type_1 (by decide) ?_
  refine z_icmp_lt (tgt := 12) hX dX4_type_3 (by decide) (fun h3 => absurd h3 (Int32.not_lt.mpr h1.1)) (fun h3 => ?_)
  refine z_iload_n hX dX4_type_6 1 rfl ?_
  refine z_bipush (v := 126) hX dX4_type_7 (by decide) ?_
  refine z_icmp_le (tgt := 23) hX dX4_type_9 (by decide) (fun h9 => ?_) (fun h9 => absurd h9 (Classical.not_not.mpr h1.2))
  refine z_aload_n hX dX4_type_23 0 rfl ?_
  refine zg_X4_text hX   fl_RX4_32 dX4_type_24 ?_
  refine z_iload_n hX dX4_type_27 1 rfl ?_
  refine z_callV1 hX (ok_X0_append l hn0 hx hv) cv_RX4_279 zRc2 dX4_type_28 (by decide) rfl rfl (Nat.le_of_ble_eq_true rfl) ?_
  refine z_if_ne (tgt := 45) hX dX4_type_31 (by decide) (fun h31 => ?_) (fun h31 => absurd h31 (by decide))
  refine z_aload_n hX dX4_type_45 0 rfl ?_
  refine zg_X4_text hX   fl_RX4_32 dX4_type_46 ?_
  refine zg_X0_length hX   fl_RX4_285 dX4_type_49 ?_
  exact z_iretI hX dX4_type_52 (by decide) rfl (fun _ h => h)
set_option maxHeartbeats 4000000 in
set_option maxRecDepth 100000 in
theorem no1_X4_type (l : Launch) (hl0 : l.stackTraces = false) {g : zG} {κ : zKp} {μ : zMu} {ω : zOm} {x y : Nat → Int32} {v : Int32} (h1 : ¬ (32 ≤ v ∧ v ≤ 126)) : zMx l g yX4_type cX4_type 2 (some .int) 6 1 [.ref (gA g 0 0 0), .int v] (zT κ x y) μ ω (zT κ x y) μ ω (.error xIAE) := by
  refine zMx_of (by decide) (Nat.le_of_ble_eq_true rfl) (fun p e R s m args below meth c hX hT => ?_)
  show zZ p l e R s m args below meth c g 2 _ _ _ _ 0 0 [(0, .ref (gA g 0 0 0)), (1, .int v)] []
  refine z_iload_n hX dX4_type_0 1 rfl ?_
  refine z_bipush (v := 32) hX dX4_type_1 (by decide) ?_
  refine z_icmp_lt (tgt := 12) hX dX4_type_3 (by decide) (fun h3 => ?_) (fun h3 => ?_)
  · skip
    exact z_throwW hX hT hl0 (i := 24) ft_IAE zN2_fit cl_IAE in_IAE rfl (zhat h1_IAE h2_IAE hX) go_IAE dX4_type_12 dX4_type_15 dX4_type_16 dX4_type_19 dX4_type_22 (by decide) (Nat.le_of_ble_eq_true rfl) rfl (fun _ h => h)
  · skip
    refine z_iload_n hX dX4_type_6 1 rfl ?_
    refine z_bipush (v := 126) hX dX4_type_7 (by decide) ?_
    refine z_icmp_le (tgt := 23) hX dX4_type_9 (by decide) (fun h9 => absurd h9 (fun q => h1 ⟨Int32.not_lt.mp h3, q⟩)) (fun h9 => ?_)
    exact z_throwW hX hT hl0 (i := 24) ft_IAE zN2_fit cl_IAE in_IAE rfl (zhat h1_IAE h2_IAE hX) go_IAE dX4_type_12 dX4_type_15 dX4_type_16 dX4_type_19 dX4_type_22 (by decide) (Nat.le_of_ble_eq_true rfl) rfl (fun _ h => h)
set_option maxHeartbeats 4000000 in
set_option maxRecDepth 100000 in
theorem no2_X4_type (l : Launch) (hl0 : l.stackTraces = false) {g : zG} {κ : zKp} {μ : zMu} {ω : zOm} {x y : Nat → Int32} {v : Int32} (hx : x 0 = 60) (h1 : 32 ≤ v ∧ v ≤ 126) : zMx l g yX4_type cX4_type 2 (some .int) 6 1 [.ref (gA g 0 0 0), .int v] (zT κ x y) μ ω (zT κ x y) μ ω (.error xISE) := by
  refine zMx_of (by decide) (Nat.le_of_ble_eq_true rfl) (fun p e R s m args below meth c hX hT => ?_)
  show zZ p l e R s m args below meth c g 2 _ _ _ _ 0 0 [(0, .ref (gA g 0 0 0)), (1, .int v)] []
  refine z_iload_n hX dX4_type_0 1 rfl ?_
  refine z_bipush (v := 32) hX dX4_type_1 (by decide) ?_
  refine z_icmp_lt (tgt := 12) hX dX4_type_3 (by decide) (fun h3 => absurd h3 (Int32.not_lt.mpr h1.1)) (fun h3 => ?_)
  refine z_iload_n hX dX4_type_6 1 rfl ?_
  refine z_bipush (v := 126) hX dX4_type_7 (by decide) ?_
  refine z_icmp_le (tgt := 23) hX dX4_type_9 (by decide) (fun h9 => ?_) (fun h9 => absurd h9 (Classical.not_not.mpr h1.2))
  refine z_aload_n hX dX4_type_23 0 rfl ?_
  refine zg_X4_text hX   fl_RX4_32 dX4_type_24 ?_
  refine z_iload_n hX dX4_type_27 1 rfl ?_
  refine z_callV1 hX (no_append l hx) cv_RX4_279 zRc2 dX4_type_28 (by decide) rfl rfl (Nat.le_of_ble_eq_true rfl) ?_
  refine z_if_ne (tgt := 45) hX dX4_type_31 (by decide) (fun h31 => absurd h31 (by decide)) (fun h31 => ?_)
  exact z_throwW hX hT hl0 (i := 25) ft_ISE zN2_fit cl_ISE in_ISE rfl (zhat h1_ISE h2_ISE hX) go_ISE dX4_type_34 dX4_type_37 dX4_type_38 dX4_type_41 dX4_type_44 (by decide) (Nat.le_of_ble_eq_true rfl) rfl (fun _ h => h)



set_option maxHeartbeats 4000000 in
set_option maxRecDepth 100000 in
theorem ok_X4_writtenAt (l : Launch) {g : zG} {κ : zKp} {μ : zMu} {ω : zOm} {q n0 : Nat} (hq : q < n0) (h20 : n0 ≤ 20) (hw : κ 0 0 0 = nI n0) (hch : narrow .char (.int (κ 1 0 q)) = .int (κ 1 0 q)) : zM l g yX4_writtenAt cX4_writtenAt 2 (some .char) 2 0 [.ref (gA g 0 0 0), .int (nI q)] κ μ ω κ μ ω (some (.int (κ 1 0 q))) := by
  refine zM_of (by decide) (Nat.le_of_ble_eq_true rfl) (fun p e R s m args below meth c hX => ?_)
  show zZ p l e R s m args below meth c g 2 _ _ _ _ 0 0 [(0, .ref (gA g 0 0 0)), (1, .int (nI q))] []
  refine z_iload_n hX dX4_writtenAt_0 1 rfl ?_
  refine z_if_lt (tgt := 21) hX dX4_writtenAt_1 (by decide) (fun h1 => absurd h1 (nn_i (by omega))) (fun h1 => ?_)
  refine z_iload_n hX dX4_writtenAt_4 1 rfl ?_
  refine z_aload_n hX dX4_writtenAt_5 0 rfl ?_
  refine zg_X4_writtenLength hX   fl_RX4_40 dX4_writtenAt_6 ?_
  refine z_isv hw ?_
  refine z_icmp_ge (tgt := 21) hX dX4_writtenAt_9 (by decide) (fun h9 => absurd h9 (nle_i (a := q) (b := n0) hq (by omega))) (fun h9 => ?_)
  refine z_iload_n hX dX4_writtenAt_12 1 rfl ?_
  refine z_aload_n hX dX4_writtenAt_13 0 rfl ?_
  refine zg_X4_written hX   fl_RX4_36 dX4_writtenAt_14 ?_
  refine zl_written hX  dX4_writtenAt_17 ?_
  refine z_icmp_lt (tgt := 32) hX dX4_writtenAt_18 (by decide) (fun h18 => ?_) (fun h18 => absurd h18 (Classical.not_not.mpr (lt_i (a := q) (b := 20) (by omega) (by decide))))
  refine z_aload_n hX dX4_writtenAt_32 0 rfl ?_
  refine zg_X4_written hX   fl_RX4_36 dX4_writtenAt_33 ?_
  refine z_iload_n hX dX4_writtenAt_36 1 rfl ?_
  refine za_written hX  rfl (show q < 20 by omega) dX4_writtenAt_37 ?_
  exact z_iret hX dX4_writtenAt_38 (by decide) hch rfl (fun _ h => h)
set_option maxHeartbeats 4000000 in
set_option maxRecDepth 100000 in
theorem no_X4_writtenAt (l : Launch) (hl0 : l.stackTraces = false) {g : zG} {κ : zKp} {μ : zMu} {ω : zOm} {x : Int32} {n0 : Nat} (h20 : n0 ≤ 20) (hw : κ 0 0 0 = nI n0) (hx : x < 0 ∨ nI n0 ≤ x) : zMx l g yX4_writtenAt cX4_writtenAt 2 (some .char) 6 1 [.ref (gA g 0 0 0), .int x] κ μ ω κ μ ω (.error xIOE) := by
  refine zMx_of (by decide) (Nat.le_of_ble_eq_true rfl) (fun p e R s m args below meth c hX hT => ?_)
  show zZ p l e R s m args below meth c g 2 _ _ _ _ 0 0 [(0, .ref (gA g 0 0 0)), (1, .int x)] []
  refine z_iload_n hX dX4_writtenAt_0 1 rfl ?_
  refine z_if_lt (tgt := 21) hX dX4_writtenAt_1 (by decide) (fun h1 => ?_) (fun h1 => ?_)
  · skip
    exact z_throwW hX hT hl0 (i := 21) ft_IOE zN2_fit cl_IOE in_IOE rfl (zhat h1_IOE h2_IOE hX) go_IOE dX4_writtenAt_21 dX4_writtenAt_24 dX4_writtenAt_25 dX4_writtenAt_28 dX4_writtenAt_31 (by decide) (Nat.le_of_ble_eq_true rfl) rfl (fun _ h => h)
  · skip
    refine z_iload_n hX dX4_writtenAt_4 1 rfl ?_
    refine z_aload_n hX dX4_writtenAt_5 0 rfl ?_
    refine zg_X4_writtenLength hX   fl_RX4_40 dX4_writtenAt_6 ?_
    refine z_isv hw ?_
    refine z_icmp_ge (tgt := 21) hX dX4_writtenAt_9 (by decide) (fun h9 => ?_) (fun h9 => absurd h9 (Classical.not_not.mpr (hx.resolve_left h1)))
    exact z_throwW hX hT hl0 (i := 21) ft_IOE zN2_fit cl_IOE in_IOE rfl (zhat h1_IOE h2_IOE hX) go_IOE dX4_writtenAt_21 dX4_writtenAt_24 dX4_writtenAt_25 dX4_writtenAt_28 dX4_writtenAt_31 (by decide) (Nat.le_of_ble_eq_true rfl) rfl (fun _ h => h)
theorem wri_in {n0 q : Nat} (hq : q < n0) (h : n0 ≤ 30) : 0 ≤ nI q ∧ nI q ≤ nI n0 - 1 := by
  refine ⟨ge_i (by omega), ?_⟩
  rw [show (1 : Int32) = nI 1 from rfl, pk_sub (by omega)]
  exact le_i (by omega) (by omega)


end ZTY
