section ZM3
theorem isl_in {b : zB} {i : Nat} (hn : bnI b) (hlt : i < bn b) : 0 ≤ nI i ∧ nI i ≤ b 0 - 1 := by
  have h := hn.1
  refine ⟨ge_i (by omega), ?_⟩
  rw [hn.2, show (1 : Int32) = nI 1 from rfl, pk_sub (by omega)]
  exact le_i (by omega) (by omega)
theorem isl_of {b : zB} {x : Int32} (hn : bnI b) (h : 0 ≤ x ∧ x ≤ b 0 - 1) : ∃ i, i < bn b ∧ x = nI i := by
  obtain ⟨j, hj, rfl⟩ := nI_of (Int32.not_lt.mpr h.1)
  have h2 := h.2
  rw [hn.2] at h2
  rcases Nat.eq_zero_or_pos (bn b) with q | q
  · rw [q] at h2
    exact absurd (Int32.le_trans h.1 h2) (by decide)
  · rw [show (1 : Int32) = nI 1 from rfl, pk_sub q] at h2
    refine ⟨j, ?_, rfl⟩
    rcases Nat.lt_or_ge j (bn b) with w | w
    · exact w
    · exact absurd h2 (nI_ge (show bn b - 1 < j by omega) hj)
theorem isl_out {b : zB} {x : Int32} (hn : bnI b) (h : ¬ (0 ≤ x ∧ x ≤ b 0 - 1)) : x < 0 ∨ b 0 ≤ x := by
  rcases Classical.em (x < 0) with q | q
  · exact Or.inl q
  · obtain ⟨j, hj, rfl⟩ := nI_of q
    refine Or.inr ?_
    rcases Nat.lt_or_ge j (bn b) with w | w
    · exact absurd (isl_in hn w) h
    · rw [hn.2]; exact nI_le w hj
theorem c16_k {x : Int32} (h : x = 112 ∨ x = 110 ∨ x = 99 ∨ x = 115) : (x.toUInt32 % 65536).toInt32 = x := by rcases h with q | q | q | q <;> rw [q] <;> rfl
theorem c16_o {x : Int32} (h : x = 104 ∨ x = 97 ∨ x = 99) : (x.toUInt32 % 65536).toInt32 = x := by rcases h with q | q | q <;> rw [q] <;> rfl
theorem jar_i {x : Int32} (h : 0 ≤ x ∧ x ≤ 1) : x = 0 ∨ x = 1 := by
  obtain ⟨j, hj, rfl⟩ := nI_of (Int32.not_lt.mpr h.1)
  rcases Nat.lt_or_ge 1 j with w | w
  · exact absurd h.2 (nI_ge w hj)
  · rcases Nat.eq_zero_or_pos j with q | q
    · exact Or.inl (by rw [q]; rfl)
    · exact Or.inr (by rw [show j = 1 by omega]; rfl)
set_option maxHeartbeats 4000000 in
set_option maxRecDepth 100000 in
theorem ok_there1 (l : Launch) {g : zG} {κ : zKp} {μ : zMu} {ω : zOm} {a b : Nat → Int32}  : zM l g yX5_isThere cX5_isThere 2 (some .boolean) 1 0 [.ref (gA g 10 0 0), .int 1] κ (zN μ a b) ω κ (zN μ (upd a 2 0) b) ω (some (.int 1)) := by
  refine zM_of (by decide) (Nat.le_of_ble_eq_true rfl) (fun p e R s m args below meth c hX => ?_)
  show zZ p l e R s m args below meth c g 2 _ _ _ _ 0 0 [(0, .ref (gA g 10 0 0)), (1, .int 1)] []
  refine z_aload_n hX dX5_isThere_0 0 rfl ?_
  refine z_iload_n hX dX5_isThere_1 1 rfl ?_
  refine z_if_eq (tgt := 9) hX dX5_isThere_2 (by decide) (fun h2 => absurd h2 (by decide)) (fun h2 => ?_)
  refine z_iconst (v := 0) hX dX5_isThere_5 (by decide) ?_
  refine z_goto (tgt := 10) hX dX5_isThere_6 (by decide) ?_
  refine zp_X5_thrown hX   fl_RX5_42 dX5_isThere_10 ?_
  refine z_iload_n hX dX5_isThere_13 1 rfl ?_
  exact z_iret hX dX5_isThere_14 (by decide) rfl rfl (fun _ h => h)
set_option maxHeartbeats 4000000 in
set_option maxRecDepth 100000 in
theorem ok_there0 (l : Launch) {g : zG} {κ : zKp} {μ : zMu} {ω : zOm} {a b : Nat → Int32}  : zM l g yX5_isThere cX5_isThere 2 (some .boolean) 1 0 [.ref (gA g 10 0 0), .int 0] κ (zN μ a b) ω κ (zN μ (upd a 2 1) b) ω (some (.int 0)) := by
  refine zM_of (by decide) (Nat.le_of_ble_eq_true rfl) (fun p e R s m args below meth c hX => ?_)
  show zZ p l e R s m args below meth c g 2 _ _ _ _ 0 0 [(0, .ref (gA g 10 0 0)), (1, .int 0)] []
  refine z_aload_n hX dX5_isThere_0 0 rfl ?_
  refine z_iload_n hX dX5_isThere_1 1 rfl ?_
  refine z_if_eq (tgt := 9) hX dX5_isThere_2 (by decide) (fun h2 => ?_) (fun h2 => absurd h2 (by decide))
  refine z_iconst (v := 1) hX dX5_isThere_9 (by decide) ?_
  refine zp_X5_thrown hX   fl_RX5_42 dX5_isThere_10 ?_
  refine z_iload_n hX dX5_isThere_13 1 rfl ?_
  exact z_iret hX dX5_isThere_14 (by decide) rfl rfl (fun _ h => h)
set_option maxHeartbeats 4000000 in
set_option maxRecDepth 100000 in
theorem ok_X5_fails (l : Launch) {g : zG} {κ : zKp} {μ : zMu} {ω : zOm} {a b : Nat → Int32} {x : Int32} : zM l g yX5_fails cX5_fails 2 (some .int) 1 0 [.ref (gA g 10 0 0), .int x] κ (zN μ a b) ω κ (zN μ (upd a 2 x) b) ω (some (.int 0)) := by
  refine zM_of (by decide) (Nat.le_of_ble_eq_true rfl) (fun p e R s m args below meth c hX => ?_)
  show zZ p l e R s m args below meth c g 2 _ _ _ _ 0 0 [(0, .ref (gA g 10 0 0)), (1, .int x)] []
  refine z_aload_n hX dX5_fails_0 0 rfl ?_
  refine z_iload_n hX dX5_fails_1 1 rfl ?_
  refine zp_X5_thrown hX   fl_RX5_42 dX5_fails_2 ?_
  refine z_iconst (v := 0) hX dX5_fails_5 (by decide) ?_
  exact z_iretI hX dX5_fails_6 (by decide) rfl (fun _ h => h)
set_option maxHeartbeats 4000000 in
set_option maxRecDepth 100000 in
theorem ok_tells (l : Launch) {g : zG} {κ : zKp} {μ : zMu} {ω : zOm} {a b : Nat → Int32} {i : Nat} (hn : bnI b) (hlt : i < bn b) {w : Nat} (hw : w < 9) : zM l g yX5_tells cX5_tells 3 (some .int) 3 0 [.ref (gA g 10 0 0), .int (nI i), .int (nI w)] κ (zN μ a b) ω κ (zN μ (upd a 2 0) b) ω (some (.int (bf b i w))) := by
  refine zM_of (by decide) (Nat.le_of_ble_eq_true rfl) (fun p e R s m args below meth c hX => ?_)
  show zZ p l e R s m args below meth c g 3 _ _ _ _ 0 0 [(0, .ref (gA g 10 0 0)), (1, .int (nI i)), (2, .int (nI w))] []
  refine z_aload_n hX dX5_tells_0 0 rfl ?_
  refine z_aload_n hX dX5_tells_1 0 rfl ?_
  refine z_iload_n hX dX5_tells_2 1 rfl ?_
  refine z_callV1 hX (ok_X5_isLine l) cv_RX5_153 zRc10 dX5_tells_3 (by decide) rfl rfl (Nat.le_of_ble_eq_true rfl) ?_
  refine z_isv (if_pos (isl_in hn hlt)) ?_
  refine z_callV1 hX (ok_there1 l) cv_RX5_169 zRc10 dX5_tells_6 (by decide) rfl rfl (Nat.le_of_ble_eq_true rfl) ?_
  refine z_if_eq (tgt := 21) hX dX5_tells_9 (by decide) (fun h9 => absurd h9 (by decide)) (fun h9 => ?_)
  refine z_aload_n hX dX5_tells_12 0 rfl ?_
  refine z_iload_n hX dX5_tells_13 1 rfl ?_
  refine z_iload_n hX dX5_tells_14 2 rfl ?_
  refine z_callV1 hX (ok_X5_of l (lt12 hn hlt) hw) cv_RX5_58 zRc10 dX5_tells_15 (by decide) rfl rfl (Nat.le_of_ble_eq_true rfl) ?_
  refine z_goto (tgt := 22) hX dX5_tells_18 (by decide) ?_
  exact z_iretI hX dX5_tells_22 (by decide) rfl (fun _ h => h)
set_option maxHeartbeats 4000000 in
set_option maxRecDepth 100000 in
theorem no_tells (l : Launch) {g : zG} {κ : zKp} {μ : zMu} {ω : zOm} {a b : Nat → Int32} {x : Int32} (hx : ¬ (0 ≤ x ∧ x ≤ b 0 - 1)) {y : Int32} : zM l g yX5_tells cX5_tells 3 (some .int) 3 0 [.ref (gA g 10 0 0), .int x, .int y] κ (zN μ a b) ω κ (zN μ (upd a 2 1) b) ω (some (.int 0)) := by
  refine zM_of (by decide) (Nat.le_of_ble_eq_true rfl) (fun p e R s m args below meth c hX => ?_)
  show zZ p l e R s m args below meth c g 3 _ _ _ _ 0 0 [(0, .ref (gA g 10 0 0)), (1, .int x), (2, .int y)] []
  refine z_aload_n hX dX5_tells_0 0 rfl ?_
  refine z_aload_n hX dX5_tells_1 0 rfl ?_
  refine z_iload_n hX dX5_tells_2 1 rfl ?_
  refine z_callV1 hX (ok_X5_isLine l) cv_RX5_153 zRc10 dX5_tells_3 (by decide) rfl rfl (Nat.le_of_ble_eq_true rfl) ?_
  refine z_isv (if_neg hx) ?_
  refine z_callV1 hX (ok_there0 l) cv_RX5_169 zRc10 dX5_tells_6 (by decide) rfl rfl (Nat.le_of_ble_eq_true rfl) ?_
  refine z_if_eq (tgt := 21) hX dX5_tells_9 (by decide) (fun h9 => ?_) (fun h9 => absurd h9 (by decide))
  refine z_iconst (v := 0) hX dX5_tells_21 (by decide) ?_
  exact z_iretI hX dX5_tells_22 (by decide) rfl (fun _ h => h)
set_option maxHeartbeats 4000000 in
set_option maxRecDepth 100000 in
theorem ok_X5_sideOf (l : Launch) {g : zG} {κ : zKp} {μ : zMu} {ω : zOm} {a b : Nat → Int32} {i : Nat} (hn : bnI b) (hlt : i < bn b)  : zM l g yX5_sideOf cX5_sideOf 2 (some .int) 4 0 [.ref (gA g 10 0 0), .int (nI i)] κ (zN μ a b) ω κ (zN μ (upd a 2 0) b) ω (some (.int (bf b i 0))) := by
  refine zM_of (by decide) (Nat.le_of_ble_eq_true rfl) (fun p e R s m args below meth c hX => ?_)
  show zZ p l e R s m args below meth c g 2 _ _ _ _ 0 0 [(0, .ref (gA g 10 0 0)), (1, .int (nI i))] []
  refine z_aload_n hX dX5_sideOf_0 0 rfl ?_
  refine z_iload_n hX dX5_sideOf_1 1 rfl ?_
  refine z_iconst (v := 0) hX dX5_sideOf_2 (by decide) ?_
  refine z_callV1 hX (ok_tells (w := 0) l hn hlt (by decide)) cv_RX5_173 zRc10 dX5_sideOf_3 (by decide) rfl rfl (Nat.le_of_ble_eq_true rfl) ?_
  exact z_iretI hX dX5_sideOf_6 (by decide) rfl (fun _ h => h)
set_option maxHeartbeats 4000000 in
set_option maxRecDepth 100000 in
theorem no_X5_sideOf (l : Launch) {g : zG} {κ : zKp} {μ : zMu} {ω : zOm} {a b : Nat → Int32} {x : Int32} (hx : ¬ (0 ≤ x ∧ x ≤ b 0 - 1))  : zM l g yX5_sideOf cX5_sideOf 2 (some .int) 4 0 [.ref (gA g 10 0 0), .int x] κ (zN μ a b) ω κ (zN μ (upd a 2 1) b) ω (some (.int 0)) := by
  refine zM_of (by decide) (Nat.le_of_ble_eq_true rfl) (fun p e R s m args below meth c hX => ?_)
  show zZ p l e R s m args below meth c g 2 _ _ _ _ 0 0 [(0, .ref (gA g 10 0 0)), (1, .int x)] []
  refine z_aload_n hX dX5_sideOf_0 0 rfl ?_
  refine z_iload_n hX dX5_sideOf_1 1 rfl ?_
  refine z_iconst (v := 0) hX dX5_sideOf_2 (by decide) ?_
  refine z_callV1 hX (no_tells l hx) cv_RX5_173 zRc10 dX5_sideOf_3 (by decide) rfl rfl (Nat.le_of_ble_eq_true rfl) ?_
  exact z_iretI hX dX5_sideOf_6 (by decide) rfl (fun _ h => h)
set_option maxHeartbeats 4000000 in
set_option maxRecDepth 100000 in
theorem ok_X5_strengthOf (l : Launch) {g : zG} {κ : zKp} {μ : zMu} {ω : zOm} {a b : Nat → Int32} {i : Nat} (hn : bnI b) (hlt : i < bn b)  : zM l g yX5_strengthOf cX5_strengthOf 2 (some .int) 4 0 [.ref (gA g 10 0 0), .int (nI i)] κ (zN μ a b) ω κ (zN μ (upd a 2 0) b) ω (some (.int (bf b i 4))) := by
  refine zM_of (by decide) (Nat.le_of_ble_eq_true rfl) (fun p e R s m args below meth c hX => ?_)
  show zZ p l e R s m args below meth c g 2 _ _ _ _ 0 0 [(0, .ref (gA g 10 0 0)), (1, .int (nI i))] []
  refine z_aload_n hX dX5_strengthOf_0 0 rfl ?_
  refine z_iload_n hX dX5_strengthOf_1 1 rfl ?_
  refine z_iconst (v := 4) hX dX5_strengthOf_2 (by decide) ?_
  refine z_callV1 hX (ok_tells (w := 4) l hn hlt (by decide)) cv_RX5_173 zRc10 dX5_strengthOf_3 (by decide) rfl rfl (Nat.le_of_ble_eq_true rfl) ?_
  exact z_iretI hX dX5_strengthOf_6 (by decide) rfl (fun _ h => h)
set_option maxHeartbeats 4000000 in
set_option maxRecDepth 100000 in
theorem no_X5_strengthOf (l : Launch) {g : zG} {κ : zKp} {μ : zMu} {ω : zOm} {a b : Nat → Int32} {x : Int32} (hx : ¬ (0 ≤ x ∧ x ≤ b 0 - 1))  : zM l g yX5_strengthOf cX5_strengthOf 2 (some .int) 4 0 [.ref (gA g 10 0 0), .int x] κ (zN μ a b) ω κ (zN μ (upd a 2 1) b) ω (some (.int 0)) := by
  refine zM_of (by decide) (Nat.le_of_ble_eq_true rfl) (fun p e R s m args below meth c hX => ?_)
  show zZ p l e R s m args below meth c g 2 _ _ _ _ 0 0 [(0, .ref (gA g 10 0 0)), (1, .int x)] []
  refine z_aload_n hX dX5_strengthOf_0 0 rfl ?_
  refine z_iload_n hX dX5_strengthOf_1 1 rfl ?_
  refine z_iconst (v := 4) hX dX5_strengthOf_2 (by decide) ?_
  refine z_callV1 hX (no_tells l hx) cv_RX5_173 zRc10 dX5_strengthOf_3 (by decide) rfl rfl (Nat.le_of_ble_eq_true rfl) ?_
  exact z_iretI hX dX5_strengthOf_6 (by decide) rfl (fun _ h => h)
set_option maxHeartbeats 4000000 in
set_option maxRecDepth 100000 in
theorem ok_X5_moraleOf (l : Launch) {g : zG} {κ : zKp} {μ : zMu} {ω : zOm} {a b : Nat → Int32} {i : Nat} (hn : bnI b) (hlt : i < bn b)  : zM l g yX5_moraleOf cX5_moraleOf 2 (some .int) 4 0 [.ref (gA g 10 0 0), .int (nI i)] κ (zN μ a b) ω κ (zN μ (upd a 2 0) b) ω (some (.int (bf b i 5))) := by
  refine zM_of (by decide) (Nat.le_of_ble_eq_true rfl) (fun p e R s m args below meth c hX => ?_)
  show zZ p l e R s m args below meth c g 2 _ _ _ _ 0 0 [(0, .ref (gA g 10 0 0)), (1, .int (nI i))] []
  refine z_aload_n hX dX5_moraleOf_0 0 rfl ?_
  refine z_iload_n hX dX5_moraleOf_1 1 rfl ?_
  refine z_iconst (v := 5) hX dX5_moraleOf_2 (by decide) ?_
  refine z_callV1 hX (ok_tells (w := 5) l hn hlt (by decide)) cv_RX5_173 zRc10 dX5_moraleOf_3 (by decide) rfl rfl (Nat.le_of_ble_eq_true rfl) ?_
  exact z_iretI hX dX5_moraleOf_6 (by decide) rfl (fun _ h => h)
set_option maxHeartbeats 4000000 in
set_option maxRecDepth 100000 in
theorem no_X5_moraleOf (l : Launch) {g : zG} {κ : zKp} {μ : zMu} {ω : zOm} {a b : Nat → Int32} {x : Int32} (hx : ¬ (0 ≤ x ∧ x ≤ b 0 - 1))  : zM l g yX5_moraleOf cX5_moraleOf 2 (some .int) 4 0 [.ref (gA g 10 0 0), .int x] κ (zN μ a b) ω κ (zN μ (upd a 2 1) b) ω (some (.int 0)) := by
  refine zM_of (by decide) (Nat.le_of_ble_eq_true rfl) (fun p e R s m args below meth c hX => ?_)
  show zZ p l e R s m args below meth c g 2 _ _ _ _ 0 0 [(0, .ref (gA g 10 0 0)), (1, .int x)] []
  refine z_aload_n hX dX5_moraleOf_0 0 rfl ?_
  refine z_iload_n hX dX5_moraleOf_1 1 rfl ?_
  refine z_iconst (v := 5) hX dX5_moraleOf_2 (by decide) ?_
  refine z_callV1 hX (no_tells l hx) cv_RX5_173 zRc10 dX5_moraleOf_3 (by decide) rfl rfl (Nat.le_of_ble_eq_true rfl) ?_
  exact z_iretI hX dX5_moraleOf_6 (by decide) rfl (fun _ h => h)
set_option maxHeartbeats 4000000 in
set_option maxRecDepth 100000 in
theorem ok_X5_routedTurns (l : Launch) {g : zG} {κ : zKp} {μ : zMu} {ω : zOm} {a b : Nat → Int32} {i : Nat} (hn : bnI b) (hlt : i < bn b)  : zM l g yX5_routedTurns cX5_routedTurns 2 (some .int) 4 0 [.ref (gA g 10 0 0), .int (nI i)] κ (zN μ a b) ω κ (zN μ (upd a 2 0) b) ω (some (.int (bf b i 8))) := by
  refine zM_of (by decide) (Nat.le_of_ble_eq_true rfl) (fun p e R s m args below meth c hX => ?_)
  show zZ p l e R s m args below meth c g 2 _ _ _ _ 0 0 [(0, .ref (gA g 10 0 0)), (1, .int (nI i))] []
  refine z_aload_n hX dX5_routedTurns_0 0 rfl ?_
  refine z_iload_n hX dX5_routedTurns_1 1 rfl ?_
  refine z_bipush (v := 8) hX dX5_routedTurns_2 (by decide) ?_
  refine z_callV1 hX (ok_tells (w := 8) l hn hlt (by decide)) cv_RX5_173 zRc10 dX5_routedTurns_4 (by decide) rfl rfl (Nat.le_of_ble_eq_true rfl) ?_
  exact z_iretI hX dX5_routedTurns_7 (by decide) rfl (fun _ h => h)
set_option maxHeartbeats 4000000 in
set_option maxRecDepth 100000 in
theorem no_X5_routedTurns (l : Launch) {g : zG} {κ : zKp} {μ : zMu} {ω : zOm} {a b : Nat → Int32} {x : Int32} (hx : ¬ (0 ≤ x ∧ x ≤ b 0 - 1))  : zM l g yX5_routedTurns cX5_routedTurns 2 (some .int) 4 0 [.ref (gA g 10 0 0), .int x] κ (zN μ a b) ω κ (zN μ (upd a 2 1) b) ω (some (.int 0)) := by
  refine zM_of (by decide) (Nat.le_of_ble_eq_true rfl) (fun p e R s m args below meth c hX => ?_)
  show zZ p l e R s m args below meth c g 2 _ _ _ _ 0 0 [(0, .ref (gA g 10 0 0)), (1, .int x)] []
  refine z_aload_n hX dX5_routedTurns_0 0 rfl ?_
  refine z_iload_n hX dX5_routedTurns_1 1 rfl ?_
  refine z_bipush (v := 8) hX dX5_routedTurns_2 (by decide) ?_
  refine z_callV1 hX (no_tells l hx) cv_RX5_173 zRc10 dX5_routedTurns_4 (by decide) rfl rfl (Nat.le_of_ble_eq_true rfl) ?_
  exact z_iretI hX dX5_routedTurns_7 (by decide) rfl (fun _ h => h)
set_option maxHeartbeats 4000000 in
set_option maxRecDepth 100000 in
theorem ok_asks (l : Launch) {g : zG} {κ : zKp} {μ : zMu} {ω : zOm} {a b : Nat → Int32} {i : Nat} (hn : bnI b) (hlt : i < bn b) (h7 : ¬ bf b i 7 = 2)  : zM l g yX5_asks cX5_asks 2 (some .boolean) 3 0 [.ref (gA g 10 0 0), .int (nI i)] κ (zN μ a b) ω κ (zN μ (upd a 2 0) b) ω (some (.int 1)) := by
  refine zM_of (by decide) (Nat.le_of_ble_eq_true rfl) (fun p e R s m args below meth c hX => ?_)
  show zZ p l e R s m args below meth c g 2 _ _ _ _ 0 0 [(0, .ref (gA g 10 0 0)), (1, .int (nI i))] []
  refine z_aload_n hX dX5_asks_0 0 rfl ?_
  refine z_aload_n hX dX5_asks_1 0 rfl ?_
  refine z_iload_n hX dX5_asks_2 1 rfl ?_
  refine z_callV1 hX (ok_X5_isLine l) cv_RX5_153 zRc10 dX5_asks_3 (by decide) rfl rfl (Nat.le_of_ble_eq_true rfl) ?_
  refine z_isv (if_pos (isl_in hn hlt)) ?_
  refine z_if_ne (tgt := 13) hX dX5_asks_6 (by decide) (fun h6 => ?_) (fun h6 => absurd h6 (by decide))
  refine z_aload_n hX dX5_asks_13 0 rfl ?_
  refine z_iload_n hX dX5_asks_14 1 rfl ?_
  refine z_callV1 hX (ok_X5_isGone l (lt12 hn hlt)) cv_RX5_62 zRc10 dX5_asks_15 (by decide) rfl rfl (Nat.le_of_ble_eq_true rfl) ?_
  refine z_if_eqB (tgt := 25) hX dX5_asks_18 (by decide) (fun h18 => ?_) (fun h18 => absurd h18 h7)
  refine z_iconst (v := 0) hX dX5_asks_25 (by decide) ?_
  refine zp_X5_thrown hX   fl_RX5_42 dX5_asks_26 ?_
  refine z_aload_n hX dX5_asks_29 0 rfl ?_
  refine zg_X5_thrown hX   fl_RX5_42 dX5_asks_30 ?_
  refine z_isv (show _ = (0 : Int32) from rfl) ?_
  refine z_if_ne (tgt := 40) hX dX5_asks_33 (by decide) (fun h33 => absurd h33 (by decide)) (fun h33 => ?_)
  refine z_iconst (v := 1) hX dX5_asks_36 (by decide) ?_
  refine z_goto (tgt := 41) hX dX5_asks_37 (by decide) ?_
  exact z_iret hX dX5_asks_41 (by decide) rfl rfl (fun _ h => h)
set_option maxHeartbeats 4000000 in
set_option maxRecDepth 100000 in
theorem go_asks (l : Launch) {g : zG} {κ : zKp} {μ : zMu} {ω : zOm} {a b : Nat → Int32} {i : Nat} (hn : bnI b) (hlt : i < bn b) (h7 : bf b i 7 = 2)  : zM l g yX5_asks cX5_asks 2 (some .boolean) 3 0 [.ref (gA g 10 0 0), .int (nI i)] κ (zN μ a b) ω κ (zN μ (upd a 2 2) b) ω (some (.int 0)) := by
  refine zM_of (by decide) (Nat.le_of_ble_eq_true rfl) (fun p e R s m args below meth c hX => ?_)
  show zZ p l e R s m args below meth c g 2 _ _ _ _ 0 0 [(0, .ref (gA g 10 0 0)), (1, .int (nI i))] []
  refine z_aload_n hX dX5_asks_0 0 rfl ?_
  refine z_aload_n hX dX5_asks_1 0 rfl ?_
  refine z_iload_n hX dX5_asks_2 1 rfl ?_
  refine z_callV1 hX (ok_X5_isLine l) cv_RX5_153 zRc10 dX5_asks_3 (by decide) rfl rfl (Nat.le_of_ble_eq_true rfl) ?_
  refine z_isv (if_pos (isl_in hn hlt)) ?_
  refine z_if_ne (tgt := 13) hX dX5_asks_6 (by decide) (fun h6 => ?_) (fun h6 => absurd h6 (by decide))
  refine z_aload_n hX dX5_asks_13 0 rfl ?_
  refine z_iload_n hX dX5_asks_14 1 rfl ?_
  refine z_callV1 hX (ok_X5_isGone l (lt12 hn hlt)) cv_RX5_62 zRc10 dX5_asks_15 (by decide) rfl rfl (Nat.le_of_ble_eq_true rfl) ?_
  refine z_if_eqB (tgt := 25) hX dX5_asks_18 (by decide) (fun h18 => absurd h18 (Classical.not_not.mpr h7)) (fun h18 => ?_)
  refine z_iconst (v := 2) hX dX5_asks_21 (by decide) ?_
  refine z_goto (tgt := 26) hX dX5_asks_22 (by decide) ?_
  refine zp_X5_thrown hX   fl_RX5_42 dX5_asks_26 ?_
  refine z_aload_n hX dX5_asks_29 0 rfl ?_
  refine zg_X5_thrown hX   fl_RX5_42 dX5_asks_30 ?_
  refine z_isv (show _ = (2 : Int32) from rfl) ?_
  refine z_if_ne (tgt := 40) hX dX5_asks_33 (by decide) (fun h33 => ?_) (fun h33 => absurd h33 (by decide))
  refine z_iconst (v := 0) hX dX5_asks_40 (by decide) ?_
  exact z_iret hX dX5_asks_41 (by decide) rfl rfl (fun _ h => h)
set_option maxHeartbeats 4000000 in
set_option maxRecDepth 100000 in
theorem no_asks (l : Launch) {g : zG} {κ : zKp} {μ : zMu} {ω : zOm} {a b : Nat → Int32} {x : Int32} (hx : ¬ (0 ≤ x ∧ x ≤ b 0 - 1))  : zM l g yX5_asks cX5_asks 2 (some .boolean) 3 0 [.ref (gA g 10 0 0), .int x] κ (zN μ a b) ω κ (zN μ (upd a 2 1) b) ω (some (.int 0)) := by
  refine zM_of (by decide) (Nat.le_of_ble_eq_true rfl) (fun p e R s m args below meth c hX => ?_)
  show zZ p l e R s m args below meth c g 2 _ _ _ _ 0 0 [(0, .ref (gA g 10 0 0)), (1, .int x)] []
  refine z_aload_n hX dX5_asks_0 0 rfl ?_
  refine z_aload_n hX dX5_asks_1 0 rfl ?_
  refine z_iload_n hX dX5_asks_2 1 rfl ?_
  refine z_callV1 hX (ok_X5_isLine l) cv_RX5_153 zRc10 dX5_asks_3 (by decide) rfl rfl (Nat.le_of_ble_eq_true rfl) ?_
  refine z_isv (if_neg hx) ?_
  refine z_if_ne (tgt := 13) hX dX5_asks_6 (by decide) (fun h6 => absurd h6 (by decide)) (fun h6 => ?_)
  refine z_iconst (v := 1) hX dX5_asks_9 (by decide) ?_
  refine z_goto (tgt := 26) hX dX5_asks_10 (by decide) ?_
  refine zp_X5_thrown hX   fl_RX5_42 dX5_asks_26 ?_
  refine z_aload_n hX dX5_asks_29 0 rfl ?_
  refine zg_X5_thrown hX   fl_RX5_42 dX5_asks_30 ?_
  refine z_isv (show _ = (1 : Int32) from rfl) ?_
  refine z_if_ne (tgt := 40) hX dX5_asks_33 (by decide) (fun h33 => ?_) (fun h33 => absurd h33 (by decide))
  refine z_iconst (v := 0) hX dX5_asks_40 (by decide) ?_
  exact z_iret hX dX5_asks_41 (by decide) rfl rfl (fun _ h => h)
set_option maxHeartbeats 4000000 in
set_option maxRecDepth 100000 in
theorem ok_X5_laneOf (l : Launch) {g : zG} {κ : zKp} {μ : zMu} {ω : zOm} {a b : Nat → Int32} {i : Nat} (hn : bnI b) (hlt : i < bn b) (h7 : ¬ bf b i 7 = 2)  : zM l g yX5_laneOf cX5_laneOf 2 (some .int) 4 0 [.ref (gA g 10 0 0), .int (nI i)] κ (zN μ a b) ω κ (zN μ (upd a 2 0) b) ω (some (.int (bf b i 1))) := by
  refine zM_of (by decide) (Nat.le_of_ble_eq_true rfl) (fun p e R s m args below meth c hX => ?_)
  show zZ p l e R s m args below meth c g 2 _ _ _ _ 0 0 [(0, .ref (gA g 10 0 0)), (1, .int (nI i))] []
  refine z_aload_n hX dX5_laneOf_0 0 rfl ?_
  refine z_iload_n hX dX5_laneOf_1 1 rfl ?_
  refine z_callV1 hX (ok_asks l hn hlt h7) cv_RX5_176 zRc10 dX5_laneOf_2 (by decide) rfl rfl (Nat.le_of_ble_eq_true rfl) ?_
  refine z_if_eq (tgt := 17) hX dX5_laneOf_5 (by decide) (fun h5 => absurd h5 (by decide)) (fun h5 => ?_)
  refine z_aload_n hX dX5_laneOf_8 0 rfl ?_
  refine z_iload_n hX dX5_laneOf_9 1 rfl ?_
  refine z_iconst (v := 1) hX dX5_laneOf_10 (by decide) ?_
  refine z_callV1 hX (ok_X5_of (w := 1) l (lt12 hn hlt) (by decide)) cv_RX5_58 zRc10 dX5_laneOf_11 (by decide) rfl rfl (Nat.le_of_ble_eq_true rfl) ?_
  refine z_goto (tgt := 18) hX dX5_laneOf_14 (by decide) ?_
  exact z_iretI hX dX5_laneOf_18 (by decide) rfl (fun _ h => h)
set_option maxHeartbeats 4000000 in
set_option maxRecDepth 100000 in
theorem go_X5_laneOf (l : Launch) {g : zG} {κ : zKp} {μ : zMu} {ω : zOm} {a b : Nat → Int32} {i : Nat} (hn : bnI b) (hlt : i < bn b) (h7 : bf b i 7 = 2)  : zM l g yX5_laneOf cX5_laneOf 2 (some .int) 4 0 [.ref (gA g 10 0 0), .int (nI i)] κ (zN μ a b) ω κ (zN μ (upd a 2 2) b) ω (some (.int 0)) := by
  refine zM_of (by decide) (Nat.le_of_ble_eq_true rfl) (fun p e R s m args below meth c hX => ?_)
  show zZ p l e R s m args below meth c g 2 _ _ _ _ 0 0 [(0, .ref (gA g 10 0 0)), (1, .int (nI i))] []
  refine z_aload_n hX dX5_laneOf_0 0 rfl ?_
  refine z_iload_n hX dX5_laneOf_1 1 rfl ?_
  refine z_callV1 hX (go_asks l hn hlt h7) cv_RX5_176 zRc10 dX5_laneOf_2 (by decide) rfl rfl (Nat.le_of_ble_eq_true rfl) ?_
  refine z_if_eq (tgt := 17) hX dX5_laneOf_5 (by decide) (fun h5 => ?_) (fun h5 => absurd h5 (by decide))
  refine z_iconst (v := 0) hX dX5_laneOf_17 (by decide) ?_
  exact z_iretI hX dX5_laneOf_18 (by decide) rfl (fun _ h => h)
set_option maxHeartbeats 4000000 in
set_option maxRecDepth 100000 in
theorem no_X5_laneOf (l : Launch) {g : zG} {κ : zKp} {μ : zMu} {ω : zOm} {a b : Nat → Int32} {x : Int32} (hx : ¬ (0 ≤ x ∧ x ≤ b 0 - 1))  : zM l g yX5_laneOf cX5_laneOf 2 (some .int) 4 0 [.ref (gA g 10 0 0), .int x] κ (zN μ a b) ω κ (zN μ (upd a 2 1) b) ω (some (.int 0)) := by
  refine zM_of (by decide) (Nat.le_of_ble_eq_true rfl) (fun p e R s m args below meth c hX => ?_)
  show zZ p l e R s m args below meth c g 2 _ _ _ _ 0 0 [(0, .ref (gA g 10 0 0)), (1, .int x)] []
  refine z_aload_n hX dX5_laneOf_0 0 rfl ?_
  refine z_iload_n hX dX5_laneOf_1 1 rfl ?_
  refine z_callV1 hX (no_asks l hx) cv_RX5_176 zRc10 dX5_laneOf_2 (by decide) rfl rfl (Nat.le_of_ble_eq_true rfl) ?_
  refine z_if_eq (tgt := 17) hX dX5_laneOf_5 (by decide) (fun h5 => ?_) (fun h5 => absurd h5 (by decide))
  refine z_iconst (v := 0) hX dX5_laneOf_17 (by decide) ?_
  exact z_iretI hX dX5_laneOf_18 (by decide) rfl (fun _ h => h)
set_option maxHeartbeats 4000000 in
set_option maxRecDepth 100000 in
theorem ok_X5_columnOf (l : Launch) {g : zG} {κ : zKp} {μ : zMu} {ω : zOm} {a b : Nat → Int32} {i : Nat} (hn : bnI b) (hlt : i < bn b) (h7 : ¬ bf b i 7 = 2)  : zM l g yX5_columnOf cX5_columnOf 2 (some .int) 4 0 [.ref (gA g 10 0 0), .int (nI i)] κ (zN μ a b) ω κ (zN μ (upd a 2 0) b) ω (some (.int (bf b i 2))) := by
  refine zM_of (by decide) (Nat.le_of_ble_eq_true rfl) (fun p e R s m args below meth c hX => ?_)
  show zZ p l e R s m args below meth c g 2 _ _ _ _ 0 0 [(0, .ref (gA g 10 0 0)), (1, .int (nI i))] []
  refine z_aload_n hX dX5_columnOf_0 0 rfl ?_
  refine z_iload_n hX dX5_columnOf_1 1 rfl ?_
  refine z_callV1 hX (ok_asks l hn hlt h7) cv_RX5_176 zRc10 dX5_columnOf_2 (by decide) rfl rfl (Nat.le_of_ble_eq_true rfl) ?_
  refine z_if_eq (tgt := 17) hX dX5_columnOf_5 (by decide) (fun h5 => absurd h5 (by decide)) (fun h5 => ?_)
  refine z_aload_n hX dX5_columnOf_8 0 rfl ?_
  refine z_iload_n hX dX5_columnOf_9 1 rfl ?_
  refine z_iconst (v := 2) hX dX5_columnOf_10 (by decide) ?_
  refine z_callV1 hX (ok_X5_of (w := 2) l (lt12 hn hlt) (by decide)) cv_RX5_58 zRc10 dX5_columnOf_11 (by decide) rfl rfl (Nat.le_of_ble_eq_true rfl) ?_
  refine z_goto (tgt := 18) hX dX5_columnOf_14 (by decide) ?_
  exact z_iretI hX dX5_columnOf_18 (by decide) rfl (fun _ h => h)
set_option maxHeartbeats 4000000 in
set_option maxRecDepth 100000 in
theorem go_X5_columnOf (l : Launch) {g : zG} {κ : zKp} {μ : zMu} {ω : zOm} {a b : Nat → Int32} {i : Nat} (hn : bnI b) (hlt : i < bn b) (h7 : bf b i 7 = 2)  : zM l g yX5_columnOf cX5_columnOf 2 (some .int) 4 0 [.ref (gA g 10 0 0), .int (nI i)] κ (zN μ a b) ω κ (zN μ (upd a 2 2) b) ω (some (.int 0)) := by
  refine zM_of (by decide) (Nat.le_of_ble_eq_true rfl) (fun p e R s m args below meth c hX => ?_)
  show zZ p l e R s m args below meth c g 2 _ _ _ _ 0 0 [(0, .ref (gA g 10 0 0)), (1, .int (nI i))] []
  refine z_aload_n hX dX5_columnOf_0 0 rfl ?_
  refine z_iload_n hX dX5_columnOf_1 1 rfl ?_
  refine z_callV1 hX (go_asks l hn hlt h7) cv_RX5_176 zRc10 dX5_columnOf_2 (by decide) rfl rfl (Nat.le_of_ble_eq_true rfl) ?_
  refine z_if_eq (tgt := 17) hX dX5_columnOf_5 (by decide) (fun h5 => ?_) (fun h5 => absurd h5 (by decide))
  refine z_iconst (v := 0) hX dX5_columnOf_17 (by decide) ?_
  exact z_iretI hX dX5_columnOf_18 (by decide) rfl (fun _ h => h)
set_option maxHeartbeats 4000000 in
set_option maxRecDepth 100000 in
theorem no_X5_columnOf (l : Launch) {g : zG} {κ : zKp} {μ : zMu} {ω : zOm} {a b : Nat → Int32} {x : Int32} (hx : ¬ (0 ≤ x ∧ x ≤ b 0 - 1))  : zM l g yX5_columnOf cX5_columnOf 2 (some .int) 4 0 [.ref (gA g 10 0 0), .int x] κ (zN μ a b) ω κ (zN μ (upd a 2 1) b) ω (some (.int 0)) := by
  refine zM_of (by decide) (Nat.le_of_ble_eq_true rfl) (fun p e R s m args below meth c hX => ?_)
  show zZ p l e R s m args below meth c g 2 _ _ _ _ 0 0 [(0, .ref (gA g 10 0 0)), (1, .int x)] []
  refine z_aload_n hX dX5_columnOf_0 0 rfl ?_
  refine z_iload_n hX dX5_columnOf_1 1 rfl ?_
  refine z_callV1 hX (no_asks l hx) cv_RX5_176 zRc10 dX5_columnOf_2 (by decide) rfl rfl (Nat.le_of_ble_eq_true rfl) ?_
  refine z_if_eq (tgt := 17) hX dX5_columnOf_5 (by decide) (fun h5 => ?_) (fun h5 => absurd h5 (by decide))
  refine z_iconst (v := 0) hX dX5_columnOf_17 (by decide) ?_
  exact z_iretI hX dX5_columnOf_18 (by decide) rfl (fun _ h => h)
set_option maxHeartbeats 4000000 in
set_option maxRecDepth 100000 in
theorem ok_X5_supportOf (l : Launch) {g : zG} {κ : zKp} {μ : zMu} {ω : zOm} {a b : Nat → Int32} {i : Nat} (hn : bnI b) (hlt : i < bn b) (h7 : ¬ bf b i 7 = 2)  : zM l g yX5_supportOf cX5_supportOf 2 (some .int) 4 0 [.ref (gA g 10 0 0), .int (nI i)] κ (zN μ a b) ω κ (zN μ (upd a 2 0) b) ω (some (.int (supB b i))) := by
  refine zM_of (by decide) (Nat.le_of_ble_eq_true rfl) (fun p e R s m args below meth c hX => ?_)
  show zZ p l e R s m args below meth c g 2 _ _ _ _ 0 0 [(0, .ref (gA g 10 0 0)), (1, .int (nI i))] []
  refine z_aload_n hX dX5_supportOf_0 0 rfl ?_
  refine z_iload_n hX dX5_supportOf_1 1 rfl ?_
  refine z_callV1 hX (ok_asks l hn hlt h7) cv_RX5_176 zRc10 dX5_supportOf_2 (by decide) rfl rfl (Nat.le_of_ble_eq_true rfl) ?_
  refine z_if_eq (tgt := 16) hX dX5_supportOf_5 (by decide) (fun h5 => absurd h5 (by decide)) (fun h5 => ?_)
  refine z_aload_n hX dX5_supportOf_8 0 rfl ?_
  refine z_iload_n hX dX5_supportOf_9 1 rfl ?_
  refine z_callV1 hX (ok_X5_support l (lt12 hn hlt) hn) cv_RX5_82 zRc10 dX5_supportOf_10 (by decide) rfl rfl (Nat.le_of_ble_eq_true rfl) ?_
  refine z_goto (tgt := 17) hX dX5_supportOf_13 (by decide) ?_
  exact z_iretI hX dX5_supportOf_17 (by decide) rfl (fun _ h => h)
set_option maxHeartbeats 4000000 in
set_option maxRecDepth 100000 in
theorem go_X5_supportOf (l : Launch) {g : zG} {κ : zKp} {μ : zMu} {ω : zOm} {a b : Nat → Int32} {i : Nat} (hn : bnI b) (hlt : i < bn b) (h7 : bf b i 7 = 2)  : zM l g yX5_supportOf cX5_supportOf 2 (some .int) 4 0 [.ref (gA g 10 0 0), .int (nI i)] κ (zN μ a b) ω κ (zN μ (upd a 2 2) b) ω (some (.int 0)) := by
  refine zM_of (by decide) (Nat.le_of_ble_eq_true rfl) (fun p e R s m args below meth c hX => ?_)
  show zZ p l e R s m args below meth c g 2 _ _ _ _ 0 0 [(0, .ref (gA g 10 0 0)), (1, .int (nI i))] []
  refine z_aload_n hX dX5_supportOf_0 0 rfl ?_
  refine z_iload_n hX dX5_supportOf_1 1 rfl ?_
  refine z_callV1 hX (go_asks l hn hlt h7) cv_RX5_176 zRc10 dX5_supportOf_2 (by decide) rfl rfl (Nat.le_of_ble_eq_true rfl) ?_
  refine z_if_eq (tgt := 16) hX dX5_supportOf_5 (by decide) (fun h5 => ?_) (fun h5 => absurd h5 (by decide))
  refine z_iconst (v := 0) hX dX5_supportOf_16 (by decide) ?_
  exact z_iretI hX dX5_supportOf_17 (by decide) rfl (fun _ h => h)
set_option maxHeartbeats 4000000 in
set_option maxRecDepth 100000 in
theorem no_X5_supportOf (l : Launch) {g : zG} {κ : zKp} {μ : zMu} {ω : zOm} {a b : Nat → Int32} {x : Int32} (hx : ¬ (0 ≤ x ∧ x ≤ b 0 - 1))  : zM l g yX5_supportOf cX5_supportOf 2 (some .int) 4 0 [.ref (gA g 10 0 0), .int x] κ (zN μ a b) ω κ (zN μ (upd a 2 1) b) ω (some (.int 0)) := by
  refine zM_of (by decide) (Nat.le_of_ble_eq_true rfl) (fun p e R s m args below meth c hX => ?_)
  show zZ p l e R s m args below meth c g 2 _ _ _ _ 0 0 [(0, .ref (gA g 10 0 0)), (1, .int x)] []
  refine z_aload_n hX dX5_supportOf_0 0 rfl ?_
  refine z_iload_n hX dX5_supportOf_1 1 rfl ?_
  refine z_callV1 hX (no_asks l hx) cv_RX5_176 zRc10 dX5_supportOf_2 (by decide) rfl rfl (Nat.le_of_ble_eq_true rfl) ?_
  refine z_if_eq (tgt := 16) hX dX5_supportOf_5 (by decide) (fun h5 => ?_) (fun h5 => absurd h5 (by decide))
  refine z_iconst (v := 0) hX dX5_supportOf_16 (by decide) ?_
  exact z_iretI hX dX5_supportOf_17 (by decide) rfl (fun _ h => h)
set_option maxHeartbeats 4000000 in
set_option maxRecDepth 100000 in
theorem ok_X5_supportByLines (l : Launch) {g : zG} {κ : zKp} {μ : zMu} {ω : zOm} {a b : Nat → Int32} {i : Nat} (hn : bnI b) (hlt : i < bn b) (h7 : ¬ bf b i 7 = 2)  : zM l g yX5_supportByLines cX5_supportByLines 2 (some .int) 6 0 [.ref (gA g 10 0 0), .int (nI i)] κ (zN μ a b) ω κ (zN μ (upd a 2 0) b) ω (some (.int (supB b i))) := by
  refine zM_of (by decide) (Nat.le_of_ble_eq_true rfl) (fun p e R s m args below meth c hX => ?_)
  show zZ p l e R s m args below meth c g 2 _ _ _ _ 0 0 [(0, .ref (gA g 10 0 0)), (1, .int (nI i))] []
  refine z_aload_n hX dX5_supportByLines_0 0 rfl ?_
  refine z_iload_n hX dX5_supportByLines_1 1 rfl ?_
  refine z_callV1 hX (ok_X5_supportOf l hn hlt h7) cv_RX5_179 zRc10 dX5_supportByLines_2 (by decide) rfl rfl (Nat.le_of_ble_eq_true rfl) ?_
  exact z_iretI hX dX5_supportByLines_5 (by decide) rfl (fun _ h => h)
set_option maxHeartbeats 4000000 in
set_option maxRecDepth 100000 in
theorem go_X5_supportByLines (l : Launch) {g : zG} {κ : zKp} {μ : zMu} {ω : zOm} {a b : Nat → Int32} {i : Nat} (hn : bnI b) (hlt : i < bn b) (h7 : bf b i 7 = 2)  : zM l g yX5_supportByLines cX5_supportByLines 2 (some .int) 6 0 [.ref (gA g 10 0 0), .int (nI i)] κ (zN μ a b) ω κ (zN μ (upd a 2 2) b) ω (some (.int 0)) := by
  refine zM_of (by decide) (Nat.le_of_ble_eq_true rfl) (fun p e R s m args below meth c hX => ?_)
  show zZ p l e R s m args below meth c g 2 _ _ _ _ 0 0 [(0, .ref (gA g 10 0 0)), (1, .int (nI i))] []
  refine z_aload_n hX dX5_supportByLines_0 0 rfl ?_
  refine z_iload_n hX dX5_supportByLines_1 1 rfl ?_
  refine z_callV1 hX (go_X5_supportOf l hn hlt h7) cv_RX5_179 zRc10 dX5_supportByLines_2 (by decide) rfl rfl (Nat.le_of_ble_eq_true rfl) ?_
  exact z_iretI hX dX5_supportByLines_5 (by decide) rfl (fun _ h => h)
set_option maxHeartbeats 4000000 in
set_option maxRecDepth 100000 in
theorem no_X5_supportByLines (l : Launch) {g : zG} {κ : zKp} {μ : zMu} {ω : zOm} {a b : Nat → Int32} {x : Int32} (hx : ¬ (0 ≤ x ∧ x ≤ b 0 - 1))  : zM l g yX5_supportByLines cX5_supportByLines 2 (some .int) 6 0 [.ref (gA g 10 0 0), .int x] κ (zN μ a b) ω κ (zN μ (upd a 2 1) b) ω (some (.int 0)) := by
  refine zM_of (by decide) (Nat.le_of_ble_eq_true rfl) (fun p e R s m args below meth c hX => ?_)
  show zZ p l e R s m args below meth c g 2 _ _ _ _ 0 0 [(0, .ref (gA g 10 0 0)), (1, .int x)] []
  refine z_aload_n hX dX5_supportByLines_0 0 rfl ?_
  refine z_iload_n hX dX5_supportByLines_1 1 rfl ?_
  refine z_callV1 hX (no_X5_supportOf l hx) cv_RX5_179 zRc10 dX5_supportByLines_2 (by decide) rfl rfl (Nat.le_of_ble_eq_true rfl) ?_
  exact z_iretI hX dX5_supportByLines_5 (by decide) rfl (fun _ h => h)
set_option maxHeartbeats 4000000 in
set_option maxRecDepth 100000 in
theorem ok_X5_kindOf (l : Launch) {g : zG} {κ : zKp} {μ : zMu} {ω : zOm} {a b : Nat → Int32} {i : Nat} (hn : bnI b) (hlt : i < bn b) (hL : lineW b i) : zM l g yX5_kindOf cX5_kindOf 3 (some .char) 4 0 [.ref (gA g 10 0 0), .int (nI i)] κ (zN μ a b) ω κ (zN μ (upd a 2 0) b) ω (some (.int (bf b i 3))) := by
  refine zM_of (by decide) (Nat.le_of_ble_eq_true rfl) (fun p e R s m args below meth c hX => ?_)
  show zZ p l e R s m args below meth c g 3 _ _ _ _ 0 0 [(0, .ref (gA g 10 0 0)), (1, .int (nI i))] []
  refine z_aload_n hX dX5_kindOf_0 0 rfl ?_
  refine z_iload_n hX dX5_kindOf_1 1 rfl ?_
  refine z_iconst (v := 3) hX dX5_kindOf_2 (by decide) ?_
  refine z_callV1 hX (ok_tells (w := 3) l hn hlt (by decide)) cv_RX5_173 zRc10 dX5_kindOf_3 (by decide) rfl rfl (Nat.le_of_ble_eq_true rfl) ?_
  refine z_istore_n (lv' := [(2, _), (0, _), (1, _)]) hX dX5_kindOf_6 (by decide) rfl ?_
  refine z_aload_n hX dX5_kindOf_7 1 rfl ?_
  refine zg_X5_thrown hX   fl_RX5_42 dX5_kindOf_8 ?_
  refine z_isv (show _ = (0 : Int32) from rfl) ?_
  refine z_if_le (tgt := 19) hX dX5_kindOf_11 (by decide) (fun h11 => ?_) (fun h11 => absurd h11 (by decide))
  refine z_iload_n hX dX5_kindOf_19 0 rfl ?_
  refine z_i2c hX dX5_kindOf_20 ?_
  refine z_isv (c16_k hL.2.2.2.1) ?_
  exact z_iret hX dX5_kindOf_21 (by decide) (char_k hL.2.2.2.1) rfl (fun _ h => h)
set_option maxHeartbeats 4000000 in
set_option maxRecDepth 100000 in
theorem no_X5_kindOf (l : Launch) {g : zG} {κ : zKp} {μ : zMu} {ω : zOm} {a b : Nat → Int32} {x : Int32} (hx : ¬ (0 ≤ x ∧ x ≤ b 0 - 1))  : zM l g yX5_kindOf cX5_kindOf 3 (some .char) 4 0 [.ref (gA g 10 0 0), .int x] κ (zN μ a b) ω κ (zN μ (upd a 2 1) b) ω (some (.int 32)) := by
  refine zM_of (by decide) (Nat.le_of_ble_eq_true rfl) (fun p e R s m args below meth c hX => ?_)
  show zZ p l e R s m args below meth c g 3 _ _ _ _ 0 0 [(0, .ref (gA g 10 0 0)), (1, .int x)] []
  refine z_aload_n hX dX5_kindOf_0 0 rfl ?_
  refine z_iload_n hX dX5_kindOf_1 1 rfl ?_
  refine z_iconst (v := 3) hX dX5_kindOf_2 (by decide) ?_
  refine z_callV1 hX (no_tells l hx) cv_RX5_173 zRc10 dX5_kindOf_3 (by decide) rfl rfl (Nat.le_of_ble_eq_true rfl) ?_
  refine z_istore_n (lv' := [(2, _), (0, _), (1, _)]) hX dX5_kindOf_6 (by decide) rfl ?_
  refine z_aload_n hX dX5_kindOf_7 1 rfl ?_
  refine zg_X5_thrown hX   fl_RX5_42 dX5_kindOf_8 ?_
  refine z_isv (show _ = (1 : Int32) from rfl) ?_
  refine z_if_le (tgt := 19) hX dX5_kindOf_11 (by decide) (fun h11 => absurd h11 (by decide)) (fun h11 => ?_)
  refine z_bipush (v := 32) hX dX5_kindOf_14 (by decide) ?_
  refine z_goto (tgt := 21) hX dX5_kindOf_16 (by decide) ?_
  exact z_iret hX dX5_kindOf_21 (by decide) rfl rfl (fun _ h => h)
set_option maxHeartbeats 4000000 in
set_option maxRecDepth 100000 in
theorem ok_X5_orderOf (l : Launch) {g : zG} {κ : zKp} {μ : zMu} {ω : zOm} {a b : Nat → Int32} {i : Nat} (hn : bnI b) (hlt : i < bn b) (h7 : bf b i 7 = 0) (hL : lineW b i) : zM l g yX5_orderOf cX5_orderOf 2 (some .char) 4 0 [.ref (gA g 10 0 0), .int (nI i)] κ (zN μ a b) ω κ (zN μ (upd a 2 0) b) ω (some (.int (bf b i 6))) := by
  refine zM_of (by decide) (Nat.le_of_ble_eq_true rfl) (fun p e R s m args below meth c hX => ?_)
  show zZ p l e R s m args below meth c g 2 _ _ _ _ 0 0 [(0, .ref (gA g 10 0 0)), (1, .int (nI i))] []
  refine z_aload_n hX dX5_orderOf_0 0 rfl ?_
  refine z_aload_n hX dX5_orderOf_1 0 rfl ?_
  refine z_iload_n hX dX5_orderOf_2 1 rfl ?_
  refine z_callV1 hX (ok_X5_isLine l) cv_RX5_153 zRc10 dX5_orderOf_3 (by decide) rfl rfl (Nat.le_of_ble_eq_true rfl) ?_
  refine z_isv (if_pos (isl_in hn hlt)) ?_
  refine z_if_ne (tgt := 13) hX dX5_orderOf_6 (by decide) (fun h6 => ?_) (fun h6 => absurd h6 (by decide))
  refine z_aload_n hX dX5_orderOf_13 0 rfl ?_
  refine z_iload_n hX dX5_orderOf_14 1 rfl ?_
  refine z_callV1 hX (ok_X5_stands l (lt12 hn hlt)) cv_RX5_66 zRc10 dX5_orderOf_15 (by decide) rfl rfl (Nat.le_of_ble_eq_true rfl) ?_
  refine z_if_neB (tgt := 25) hX dX5_orderOf_18 (by decide) (fun h18 => ?_) (fun h18 => absurd h18 (Classical.not_not.mpr h7))
  refine z_iconst (v := 0) hX dX5_orderOf_25 (by decide) ?_
  refine zp_X5_thrown hX   fl_RX5_42 dX5_orderOf_26 ?_
  refine z_aload_n hX dX5_orderOf_29 0 rfl ?_
  refine zg_X5_thrown hX   fl_RX5_42 dX5_orderOf_30 ?_
  refine z_isv (show _ = (0 : Int32) from rfl) ?_
  refine z_if_le (tgt := 41) hX dX5_orderOf_33 (by decide) (fun h33 => ?_) (fun h33 => absurd h33 (by decide))
  refine z_aload_n hX dX5_orderOf_41 0 rfl ?_
  refine z_iload_n hX dX5_orderOf_42 1 rfl ?_
  refine z_bipush (v := 6) hX dX5_orderOf_43 (by decide) ?_
  refine z_callV1 hX (ok_X5_of (w := 6) l (lt12 hn hlt) (by decide)) cv_RX5_58 zRc10 dX5_orderOf_45 (by decide) rfl rfl (Nat.le_of_ble_eq_true rfl) ?_
  refine z_i2c hX dX5_orderOf_48 ?_
  refine z_isv (c16_o hL.2.2.2.2.2.2.1) ?_
  exact z_iret hX dX5_orderOf_49 (by decide) (char_o hL.2.2.2.2.2.2.1) rfl (fun _ h => h)
set_option maxHeartbeats 4000000 in
set_option maxRecDepth 100000 in
theorem go_X5_orderOf (l : Launch) {g : zG} {κ : zKp} {μ : zMu} {ω : zOm} {a b : Nat → Int32} {i : Nat} (hn : bnI b) (hlt : i < bn b) (h7 : ¬ bf b i 7 = 0)  : zM l g yX5_orderOf cX5_orderOf 2 (some .char) 4 0 [.ref (gA g 10 0 0), .int (nI i)] κ (zN μ a b) ω κ (zN μ (upd a 2 2) b) ω (some (.int 32)) := by
  refine zM_of (by decide) (Nat.le_of_ble_eq_true rfl) (fun p e R s m args below meth c hX => ?_)
  show zZ p l e R s m args below meth c g 2 _ _ _ _ 0 0 [(0, .ref (gA g 10 0 0)), (1, .int (nI i))] []
  refine z_aload_n hX dX5_orderOf_0 0 rfl ?_
  refine z_aload_n hX dX5_orderOf_1 0 rfl ?_
  refine z_iload_n hX dX5_orderOf_2 1 rfl ?_
  refine z_callV1 hX (ok_X5_isLine l) cv_RX5_153 zRc10 dX5_orderOf_3 (by decide) rfl rfl (Nat.le_of_ble_eq_true rfl) ?_
  refine z_isv (if_pos (isl_in hn hlt)) ?_
  refine z_if_ne (tgt := 13) hX dX5_orderOf_6 (by decide) (fun h6 => ?_) (fun h6 => absurd h6 (by decide))
  refine z_aload_n hX dX5_orderOf_13 0 rfl ?_
  refine z_iload_n hX dX5_orderOf_14 1 rfl ?_
  refine z_callV1 hX (ok_X5_stands l (lt12 hn hlt)) cv_RX5_66 zRc10 dX5_orderOf_15 (by decide) rfl rfl (Nat.le_of_ble_eq_true rfl) ?_
  refine z_if_neB (tgt := 25) hX dX5_orderOf_18 (by decide) (fun h18 => absurd h18 h7) (fun h18 => ?_)
  refine z_iconst (v := 2) hX dX5_orderOf_21 (by decide) ?_
  refine z_goto (tgt := 26) hX dX5_orderOf_22 (by decide) ?_
  refine zp_X5_thrown hX   fl_RX5_42 dX5_orderOf_26 ?_
  refine z_aload_n hX dX5_orderOf_29 0 rfl ?_
  refine zg_X5_thrown hX   fl_RX5_42 dX5_orderOf_30 ?_
  refine z_isv (show _ = (2 : Int32) from rfl) ?_
  refine z_if_le (tgt := 41) hX dX5_orderOf_33 (by decide) (fun h33 => absurd h33 (by decide)) (fun h33 => ?_)
  refine z_bipush (v := 32) hX dX5_orderOf_36 (by decide) ?_
  refine z_goto (tgt := 49) hX dX5_orderOf_38 (by decide) ?_
  exact z_iret hX dX5_orderOf_49 (by decide) rfl rfl (fun _ h => h)
set_option maxHeartbeats 4000000 in
set_option maxRecDepth 100000 in
theorem no_X5_orderOf (l : Launch) {g : zG} {κ : zKp} {μ : zMu} {ω : zOm} {a b : Nat → Int32} {x : Int32} (hx : ¬ (0 ≤ x ∧ x ≤ b 0 - 1))  : zM l g yX5_orderOf cX5_orderOf 2 (some .char) 4 0 [.ref (gA g 10 0 0), .int x] κ (zN μ a b) ω κ (zN μ (upd a 2 1) b) ω (some (.int 32)) := by
  refine zM_of (by decide) (Nat.le_of_ble_eq_true rfl) (fun p e R s m args below meth c hX => ?_)
  show zZ p l e R s m args below meth c g 2 _ _ _ _ 0 0 [(0, .ref (gA g 10 0 0)), (1, .int x)] []
  refine z_aload_n hX dX5_orderOf_0 0 rfl ?_
  refine z_aload_n hX dX5_orderOf_1 0 rfl ?_
  refine z_iload_n hX dX5_orderOf_2 1 rfl ?_
  refine z_callV1 hX (ok_X5_isLine l) cv_RX5_153 zRc10 dX5_orderOf_3 (by decide) rfl rfl (Nat.le_of_ble_eq_true rfl) ?_
  refine z_isv (if_neg hx) ?_
  refine z_if_ne (tgt := 13) hX dX5_orderOf_6 (by decide) (fun h6 => absurd h6 (by decide)) (fun h6 => ?_)
  refine z_iconst (v := 1) hX dX5_orderOf_9 (by decide) ?_
  refine z_goto (tgt := 26) hX dX5_orderOf_10 (by decide) ?_
  refine zp_X5_thrown hX   fl_RX5_42 dX5_orderOf_26 ?_
  refine z_aload_n hX dX5_orderOf_29 0 rfl ?_
  refine zg_X5_thrown hX   fl_RX5_42 dX5_orderOf_30 ?_
  refine z_isv (show _ = (1 : Int32) from rfl) ?_
  refine z_if_le (tgt := 41) hX dX5_orderOf_33 (by decide) (fun h33 => absurd h33 (by decide)) (fun h33 => ?_)
  refine z_bipush (v := 32) hX dX5_orderOf_36 (by decide) ?_
  refine z_goto (tgt := 49) hX dX5_orderOf_38 (by decide) ?_
  exact z_iret hX dX5_orderOf_49 (by decide) rfl rfl (fun _ h => h)
set_option maxHeartbeats 4000000 in
set_option maxRecDepth 100000 in
theorem ok_X5_isStanding (l : Launch) {g : zG} {κ : zKp} {μ : zMu} {ω : zOm} {a b : Nat → Int32} {i : Nat} (hn : bnI b) (hlt : i < bn b)  : zM l g yX5_isStanding cX5_isStanding 2 (some .boolean) 4 0 [.ref (gA g 10 0 0), .int (nI i)] κ (zN μ a b) ω κ (zN μ (upd a 2 0) b) ω (some (.int (if bf b i 7 = 0 then 1 else 0))) := by
  refine zM_of (by decide) (Nat.le_of_ble_eq_true rfl) (fun p e R s m args below meth c hX => ?_)
  show zZ p l e R s m args below meth c g 2 _ _ _ _ 0 0 [(0, .ref (gA g 10 0 0)), (1, .int (nI i))] []
  refine z_aload_n hX dX5_isStanding_0 0 rfl ?_
  refine z_aload_n hX dX5_isStanding_1 0 rfl ?_
  refine z_iload_n hX dX5_isStanding_2 1 rfl ?_
  refine z_callV1 hX (ok_X5_isLine l) cv_RX5_153 zRc10 dX5_isStanding_3 (by decide) rfl rfl (Nat.le_of_ble_eq_true rfl) ?_
  refine z_isv (if_pos (isl_in hn hlt)) ?_
  refine z_callV1 hX (ok_there1 l) cv_RX5_169 zRc10 dX5_isStanding_6 (by decide) rfl rfl (Nat.le_of_ble_eq_true rfl) ?_
  refine z_if_eq (tgt := 24) hX dX5_isStanding_9 (by decide) (fun h9 => absurd h9 (by decide)) (fun h9 => ?_)
  refine z_aload_n hX dX5_isStanding_12 0 rfl ?_
  refine z_iload_n hX dX5_isStanding_13 1 rfl ?_
  refine z_callV1 hX (ok_X5_stands l (lt12 hn hlt)) cv_RX5_66 zRc10 dX5_isStanding_14 (by decide) rfl rfl (Nat.le_of_ble_eq_true rfl) ?_
  refine z_if_eqB (tgt := 24) hX dX5_isStanding_17 (by decide) (fun h17 => ?_) (fun h17 => ?_)
  · skip
    refine z_iconst (v := 0) hX dX5_isStanding_24 (by decide) ?_
    exact z_iret hX dX5_isStanding_25 (by decide) rfl (by simp [h17]) (fun _ h => h)
  · skip
    refine z_iconst (v := 1) hX dX5_isStanding_20 (by decide) ?_
    refine z_goto (tgt := 25) hX dX5_isStanding_21 (by decide) ?_
    exact z_iret hX dX5_isStanding_25 (by decide) rfl (by simp [h17]) (fun _ h => h)
set_option maxHeartbeats 4000000 in
set_option maxRecDepth 100000 in
theorem no_X5_isStanding (l : Launch) {g : zG} {κ : zKp} {μ : zMu} {ω : zOm} {a b : Nat → Int32} {x : Int32} (hx : ¬ (0 ≤ x ∧ x ≤ b 0 - 1))  : zM l g yX5_isStanding cX5_isStanding 2 (some .boolean) 4 0 [.ref (gA g 10 0 0), .int x] κ (zN μ a b) ω κ (zN μ (upd a 2 1) b) ω (some (.int 0)) := by
  refine zM_of (by decide) (Nat.le_of_ble_eq_true rfl) (fun p e R s m args below meth c hX => ?_)
  show zZ p l e R s m args below meth c g 2 _ _ _ _ 0 0 [(0, .ref (gA g 10 0 0)), (1, .int x)] []
  refine z_aload_n hX dX5_isStanding_0 0 rfl ?_
  refine z_aload_n hX dX5_isStanding_1 0 rfl ?_
  refine z_iload_n hX dX5_isStanding_2 1 rfl ?_
  refine z_callV1 hX (ok_X5_isLine l) cv_RX5_153 zRc10 dX5_isStanding_3 (by decide) rfl rfl (Nat.le_of_ble_eq_true rfl) ?_
  refine z_isv (if_neg hx) ?_
  refine z_callV1 hX (ok_there0 l) cv_RX5_169 zRc10 dX5_isStanding_6 (by decide) rfl rfl (Nat.le_of_ble_eq_true rfl) ?_
  refine z_if_eq (tgt := 24) hX dX5_isStanding_9 (by decide) (fun h9 => ?_) (fun h9 => absurd h9 (by decide))
  refine z_iconst (v := 0) hX dX5_isStanding_24 (by decide) ?_
  exact z_iret hX dX5_isStanding_25 (by decide) rfl rfl (fun _ h => h)
set_option maxHeartbeats 4000000 in
set_option maxRecDepth 100000 in
theorem ok_X5_isRouted (l : Launch) {g : zG} {κ : zKp} {μ : zMu} {ω : zOm} {a b : Nat → Int32} {i : Nat} (hn : bnI b) (hlt : i < bn b)  : zM l g yX5_isRouted cX5_isRouted 2 (some .boolean) 4 0 [.ref (gA g 10 0 0), .int (nI i)] κ (zN μ a b) ω κ (zN μ (upd a 2 0) b) ω (some (.int (if bf b i 7 = 1 then 1 else 0))) := by
  refine zM_of (by decide) (Nat.le_of_ble_eq_true rfl) (fun p e R s m args below meth c hX => ?_)
  show zZ p l e R s m args below meth c g 2 _ _ _ _ 0 0 [(0, .ref (gA g 10 0 0)), (1, .int (nI i))] []
  refine z_aload_n hX dX5_isRouted_0 0 rfl ?_
  refine z_aload_n hX dX5_isRouted_1 0 rfl ?_
  refine z_iload_n hX dX5_isRouted_2 1 rfl ?_
  refine z_callV1 hX (ok_X5_isLine l) cv_RX5_153 zRc10 dX5_isRouted_3 (by decide) rfl rfl (Nat.le_of_ble_eq_true rfl) ?_
  refine z_isv (if_pos (isl_in hn hlt)) ?_
  refine z_callV1 hX (ok_there1 l) cv_RX5_169 zRc10 dX5_isRouted_6 (by decide) rfl rfl (Nat.le_of_ble_eq_true rfl) ?_
  refine z_if_eq (tgt := 27) hX dX5_isRouted_9 (by decide) (fun h9 => absurd h9 (by decide)) (fun h9 => ?_)
  refine z_aload_n hX dX5_isRouted_12 0 rfl ?_
  refine z_iload_n hX dX5_isRouted_13 1 rfl ?_
  refine z_bipush (v := 7) hX dX5_isRouted_14 (by decide) ?_
  refine z_callV1 hX (ok_X5_of (w := 7) l (lt12 hn hlt) (by decide)) cv_RX5_58 zRc10 dX5_isRouted_16 (by decide) rfl rfl (Nat.le_of_ble_eq_true rfl) ?_
  refine z_iconst (v := 1) hX dX5_isRouted_19 (by decide) ?_
  refine z_icmp_ne (tgt := 27) hX dX5_isRouted_20 (by decide) (fun h20 => ?_) (fun h20 => ?_)
  · skip
    refine z_iconst (v := 0) hX dX5_isRouted_27 (by decide) ?_
    exact z_iret hX dX5_isRouted_28 (by decide) rfl (by simp [h20]) (fun _ h => h)
  · skip
    refine z_iconst (v := 1) hX dX5_isRouted_23 (by decide) ?_
    refine z_goto (tgt := 28) hX dX5_isRouted_24 (by decide) ?_
    exact z_iret hX dX5_isRouted_28 (by decide) rfl (by simp [h20]) (fun _ h => h)
set_option maxHeartbeats 4000000 in
set_option maxRecDepth 100000 in
theorem no_X5_isRouted (l : Launch) {g : zG} {κ : zKp} {μ : zMu} {ω : zOm} {a b : Nat → Int32} {x : Int32} (hx : ¬ (0 ≤ x ∧ x ≤ b 0 - 1))  : zM l g yX5_isRouted cX5_isRouted 2 (some .boolean) 4 0 [.ref (gA g 10 0 0), .int x] κ (zN μ a b) ω κ (zN μ (upd a 2 1) b) ω (some (.int 0)) := by
  refine zM_of (by decide) (Nat.le_of_ble_eq_true rfl) (fun p e R s m args below meth c hX => ?_)
  show zZ p l e R s m args below meth c g 2 _ _ _ _ 0 0 [(0, .ref (gA g 10 0 0)), (1, .int x)] []
  refine z_aload_n hX dX5_isRouted_0 0 rfl ?_
  refine z_aload_n hX dX5_isRouted_1 0 rfl ?_
  refine z_iload_n hX dX5_isRouted_2 1 rfl ?_
  refine z_callV1 hX (ok_X5_isLine l) cv_RX5_153 zRc10 dX5_isRouted_3 (by decide) rfl rfl (Nat.le_of_ble_eq_true rfl) ?_
  refine z_isv (if_neg hx) ?_
  refine z_callV1 hX (ok_there0 l) cv_RX5_169 zRc10 dX5_isRouted_6 (by decide) rfl rfl (Nat.le_of_ble_eq_true rfl) ?_
  refine z_if_eq (tgt := 27) hX dX5_isRouted_9 (by decide) (fun h9 => ?_) (fun h9 => absurd h9 (by decide))
  refine z_iconst (v := 0) hX dX5_isRouted_27 (by decide) ?_
  exact z_iret hX dX5_isRouted_28 (by decide) rfl rfl (fun _ h => h)
set_option maxHeartbeats 4000000 in
set_option maxRecDepth 100000 in
theorem ok_X5_attackOf (l : Launch) {g : zG} {κ : zKp} {μ : zMu} {ω : zOm} {a b : Nat → Int32} {i : Nat} (hn : bnI b) (hlt : i < bn b) (hL : lineW b i) : zM l g yX5_attackOf cX5_attackOf 2 (some .int) 4 0 [.ref (gA g 10 0 0), .int (nI i)] κ (zN μ a b) ω κ (zN μ (upd a 2 0) b) ω (some (.int (attB b i))) := by
  refine zM_of (by decide) (Nat.le_of_ble_eq_true rfl) (fun p e R s m args below meth c hX => ?_)
  show zZ p l e R s m args below meth c g 2 _ _ _ _ 0 0 [(0, .ref (gA g 10 0 0)), (1, .int (nI i))] []
  refine z_aload_n hX dX5_attackOf_0 0 rfl ?_
  refine z_aload_n hX dX5_attackOf_1 0 rfl ?_
  refine z_iload_n hX dX5_attackOf_2 1 rfl ?_
  refine z_callV1 hX (ok_X5_isLine l) cv_RX5_153 zRc10 dX5_attackOf_3 (by decide) rfl rfl (Nat.le_of_ble_eq_true rfl) ?_
  refine z_isv (if_pos (isl_in hn hlt)) ?_
  refine z_callV1 hX (ok_there1 l) cv_RX5_169 zRc10 dX5_attackOf_6 (by decide) rfl rfl (Nat.le_of_ble_eq_true rfl) ?_
  refine z_if_eq (tgt := 20) hX dX5_attackOf_9 (by decide) (fun h9 => absurd h9 (by decide)) (fun h9 => ?_)
  refine z_aload_n hX dX5_attackOf_12 0 rfl ?_
  refine z_iload_n hX dX5_attackOf_13 1 rfl ?_
  refine z_callV1 hX (ok_X5_attack l (lt12 hn hlt) hL) cv_RX5_78 zRc10 dX5_attackOf_14 (by decide) rfl rfl (Nat.le_of_ble_eq_true rfl) ?_
  refine z_goto (tgt := 21) hX dX5_attackOf_17 (by decide) ?_
  exact z_iretI hX dX5_attackOf_21 (by decide) rfl (fun _ h => h)
set_option maxHeartbeats 4000000 in
set_option maxRecDepth 100000 in
theorem no_X5_attackOf (l : Launch) {g : zG} {κ : zKp} {μ : zMu} {ω : zOm} {a b : Nat → Int32} {x : Int32} (hx : ¬ (0 ≤ x ∧ x ≤ b 0 - 1))  : zM l g yX5_attackOf cX5_attackOf 2 (some .int) 4 0 [.ref (gA g 10 0 0), .int x] κ (zN μ a b) ω κ (zN μ (upd a 2 1) b) ω (some (.int 0)) := by
  refine zM_of (by decide) (Nat.le_of_ble_eq_true rfl) (fun p e R s m args below meth c hX => ?_)
  show zZ p l e R s m args below meth c g 2 _ _ _ _ 0 0 [(0, .ref (gA g 10 0 0)), (1, .int x)] []
  refine z_aload_n hX dX5_attackOf_0 0 rfl ?_
  refine z_aload_n hX dX5_attackOf_1 0 rfl ?_
  refine z_iload_n hX dX5_attackOf_2 1 rfl ?_
  refine z_callV1 hX (ok_X5_isLine l) cv_RX5_153 zRc10 dX5_attackOf_3 (by decide) rfl rfl (Nat.le_of_ble_eq_true rfl) ?_
  refine z_isv (if_neg hx) ?_
  refine z_callV1 hX (ok_there0 l) cv_RX5_169 zRc10 dX5_attackOf_6 (by decide) rfl rfl (Nat.le_of_ble_eq_true rfl) ?_
  refine z_if_eq (tgt := 20) hX dX5_attackOf_9 (by decide) (fun h9 => ?_) (fun h9 => absurd h9 (by decide))
  refine z_iconst (v := 0) hX dX5_attackOf_20 (by decide) ?_
  exact z_iretI hX dX5_attackOf_21 (by decide) rfl (fun _ h => h)
set_option maxHeartbeats 4000000 in
set_option maxRecDepth 100000 in
theorem ok_X5_counterOf (l : Launch) {g : zG} {κ : zKp} {μ : zMu} {ω : zOm} {a b : Nat → Int32} {i : Nat} (hn : bnI b) (hlt : i < bn b)  : zM l g yX5_counterOf cX5_counterOf 2 (some .int) 4 0 [.ref (gA g 10 0 0), .int (nI i)] κ (zN μ a b) ω κ (zN μ (upd a 2 0) b) ω (some (.int (cntB b i))) := by
  refine zM_of (by decide) (Nat.le_of_ble_eq_true rfl) (fun p e R s m args below meth c hX => ?_)
  show zZ p l e R s m args below meth c g 2 _ _ _ _ 0 0 [(0, .ref (gA g 10 0 0)), (1, .int (nI i))] []
  refine z_aload_n hX dX5_counterOf_0 0 rfl ?_
  refine z_aload_n hX dX5_counterOf_1 0 rfl ?_
  refine z_iload_n hX dX5_counterOf_2 1 rfl ?_
  refine z_callV1 hX (ok_X5_isLine l) cv_RX5_153 zRc10 dX5_counterOf_3 (by decide) rfl rfl (Nat.le_of_ble_eq_true rfl) ?_
  refine z_isv (if_pos (isl_in hn hlt)) ?_
  refine z_callV1 hX (ok_there1 l) cv_RX5_169 zRc10 dX5_counterOf_6 (by decide) rfl rfl (Nat.le_of_ble_eq_true rfl) ?_
  refine z_if_eq (tgt := 20) hX dX5_counterOf_9 (by decide) (fun h9 => absurd h9 (by decide)) (fun h9 => ?_)
  refine z_aload_n hX dX5_counterOf_12 0 rfl ?_
  refine z_iload_n hX dX5_counterOf_13 1 rfl ?_
  refine z_callV1 hX (ok_X5_counter l (lt12 hn hlt)) cv_RX5_89 zRc10 dX5_counterOf_14 (by decide) rfl rfl (Nat.le_of_ble_eq_true rfl) ?_
  refine z_goto (tgt := 21) hX dX5_counterOf_17 (by decide) ?_
  exact z_iretI hX dX5_counterOf_21 (by decide) rfl (fun _ h => h)
set_option maxHeartbeats 4000000 in
set_option maxRecDepth 100000 in
theorem no_X5_counterOf (l : Launch) {g : zG} {κ : zKp} {μ : zMu} {ω : zOm} {a b : Nat → Int32} {x : Int32} (hx : ¬ (0 ≤ x ∧ x ≤ b 0 - 1))  : zM l g yX5_counterOf cX5_counterOf 2 (some .int) 4 0 [.ref (gA g 10 0 0), .int x] κ (zN μ a b) ω κ (zN μ (upd a 2 1) b) ω (some (.int 0)) := by
  refine zM_of (by decide) (Nat.le_of_ble_eq_true rfl) (fun p e R s m args below meth c hX => ?_)
  show zZ p l e R s m args below meth c g 2 _ _ _ _ 0 0 [(0, .ref (gA g 10 0 0)), (1, .int x)] []
  refine z_aload_n hX dX5_counterOf_0 0 rfl ?_
  refine z_aload_n hX dX5_counterOf_1 0 rfl ?_
  refine z_iload_n hX dX5_counterOf_2 1 rfl ?_
  refine z_callV1 hX (ok_X5_isLine l) cv_RX5_153 zRc10 dX5_counterOf_3 (by decide) rfl rfl (Nat.le_of_ble_eq_true rfl) ?_
  refine z_isv (if_neg hx) ?_
  refine z_callV1 hX (ok_there0 l) cv_RX5_169 zRc10 dX5_counterOf_6 (by decide) rfl rfl (Nat.le_of_ble_eq_true rfl) ?_
  refine z_if_eq (tgt := 20) hX dX5_counterOf_9 (by decide) (fun h9 => ?_) (fun h9 => absurd h9 (by decide))
  refine z_iconst (v := 0) hX dX5_counterOf_20 (by decide) ?_
  exact z_iretI hX dX5_counterOf_21 (by decide) rfl (fun _ h => h)
set_option maxHeartbeats 4000000 in
set_option maxRecDepth 100000 in
theorem ok_X5_lineIn (l : Launch) {g : zG} {κ : zKp} {μ : zMu} {ω : zOm} {a b : Nat → Int32} {x y : Int32} (hn : bnI b) (h1 : 0 ≤ x ∧ x ≤ 2) (h2 : 0 ≤ y ∧ y ≤ 9) (h0 : 0 ≤ cellB b x y) : zM l g yX5_lineIn cX5_lineIn 4 (some .int) 4 0 [.ref (gA g 10 0 0), .int x, .int y] κ (zN μ a b) ω κ (zN μ (upd a 2 0) b) ω (some (.int (cellB b x y))) := by
  refine zM_of (by decide) (Nat.le_of_ble_eq_true rfl) (fun p e R s m args below meth c hX => ?_)
  show zZ p l e R s m args below meth c g 4 _ _ _ _ 0 0 [(0, .ref (gA g 10 0 0)), (1, .int x), (2, .int y)] []
  refine z_aload_n hX dX5_lineIn_0 0 rfl ?_
  refine z_iload_n hX dX5_lineIn_1 1 rfl ?_
  refine z_iload_n hX dX5_lineIn_2 2 rfl ?_
  refine z_callV1 hX (ok_X5_cell l hn) cv_RX5_99 zRc10 dX5_lineIn_3 (by decide) rfl rfl (Nat.le_of_ble_eq_true rfl) ?_
  refine z_istore_n (lv' := [(3, _), (0, _), (1, _), (2, _)]) hX dX5_lineIn_6 (by decide) rfl ?_
  refine z_aload_n hX dX5_lineIn_7 1 rfl ?_
  refine z_iload_n hX dX5_lineIn_8 2 rfl ?_
  refine z_callS1 hX (ok_X5_isLane l) cs_RX5_134 dX5_lineIn_9 (by decide) rfl rfl (Nat.le_of_ble_eq_true rfl) ?_
  refine z_if_eqB (tgt := 22) hX dX5_lineIn_12 (by decide) (fun h12 => absurd h12 (Classical.not_not.mpr h1)) (fun h12 => ?_)
  refine z_iload_n hX dX5_lineIn_15 3 rfl ?_
  refine z_callS1 hX (ok_X5_isColumn l) cs_RX5_102 dX5_lineIn_16 (by decide) rfl rfl (Nat.le_of_ble_eq_true rfl) ?_
  refine z_if_neB (tgt := 26) hX dX5_lineIn_19 (by decide) (fun h19 => ?_) (fun h19 => absurd h19 (Classical.not_not.mpr h2))
  refine z_iload_n hX dX5_lineIn_26 0 rfl ?_
  refine z_if_ge (tgt := 34) hX dX5_lineIn_27 (by decide) (fun h27 => ?_) (fun h27 => absurd h27 (Classical.not_not.mpr h0))
  refine z_iconst (v := 0) hX dX5_lineIn_34 (by decide) ?_
  refine zp_X5_thrown hX   fl_RX5_42 dX5_lineIn_35 ?_
  refine z_aload_n hX dX5_lineIn_38 1 rfl ?_
  refine zg_X5_thrown hX   fl_RX5_42 dX5_lineIn_39 ?_
  refine z_isv (show _ = (0 : Int32) from rfl) ?_
  refine z_if_le (tgt := 49) hX dX5_lineIn_42 (by decide) (fun h42 => ?_) (fun h42 => absurd h42 (by decide))
  refine z_iload_n hX dX5_lineIn_49 0 rfl ?_
  exact z_iretI hX dX5_lineIn_50 (by decide) rfl (fun _ h => h)
set_option maxHeartbeats 4000000 in
set_option maxRecDepth 100000 in
theorem go_X5_lineIn (l : Launch) {g : zG} {κ : zKp} {μ : zMu} {ω : zOm} {a b : Nat → Int32} {x y : Int32} (hn : bnI b) (h1 : 0 ≤ x ∧ x ≤ 2) (h2 : 0 ≤ y ∧ y ≤ 9) (h0 : ¬ 0 ≤ cellB b x y) : zM l g yX5_lineIn cX5_lineIn 4 (some .int) 4 0 [.ref (gA g 10 0 0), .int x, .int y] κ (zN μ a b) ω κ (zN μ (upd a 2 2) b) ω (some (.int 0)) := by
  refine zM_of (by decide) (Nat.le_of_ble_eq_true rfl) (fun p e R s m args below meth c hX => ?_)
  show zZ p l e R s m args below meth c g 4 _ _ _ _ 0 0 [(0, .ref (gA g 10 0 0)), (1, .int x), (2, .int y)] []
  refine z_aload_n hX dX5_lineIn_0 0 rfl ?_
  refine z_iload_n hX dX5_lineIn_1 1 rfl ?_
  refine z_iload_n hX dX5_lineIn_2 2 rfl ?_
  refine z_callV1 hX (ok_X5_cell l hn) cv_RX5_99 zRc10 dX5_lineIn_3 (by decide) rfl rfl (Nat.le_of_ble_eq_true rfl) ?_
  refine z_istore_n (lv' := [(3, _), (0, _), (1, _), (2, _)]) hX dX5_lineIn_6 (by decide) rfl ?_
  refine z_aload_n hX dX5_lineIn_7 1 rfl ?_
  refine z_iload_n hX dX5_lineIn_8 2 rfl ?_
  refine z_callS1 hX (ok_X5_isLane l) cs_RX5_134 dX5_lineIn_9 (by decide) rfl rfl (Nat.le_of_ble_eq_true rfl) ?_
  refine z_if_eqB (tgt := 22) hX dX5_lineIn_12 (by decide) (fun h12 => absurd h12 (Classical.not_not.mpr h1)) (fun h12 => ?_)
  refine z_iload_n hX dX5_lineIn_15 3 rfl ?_
  refine z_callS1 hX (ok_X5_isColumn l) cs_RX5_102 dX5_lineIn_16 (by decide) rfl rfl (Nat.le_of_ble_eq_true rfl) ?_
  refine z_if_neB (tgt := 26) hX dX5_lineIn_19 (by decide) (fun h19 => ?_) (fun h19 => absurd h19 (Classical.not_not.mpr h2))
  refine z_iload_n hX dX5_lineIn_26 0 rfl ?_
  refine z_if_ge (tgt := 34) hX dX5_lineIn_27 (by decide) (fun h27 => absurd h27 h0) (fun h27 => ?_)
  refine z_iconst (v := 2) hX dX5_lineIn_30 (by decide) ?_
  refine z_goto (tgt := 35) hX dX5_lineIn_31 (by decide) ?_
  refine zp_X5_thrown hX   fl_RX5_42 dX5_lineIn_35 ?_
  refine z_aload_n hX dX5_lineIn_38 1 rfl ?_
  refine zg_X5_thrown hX   fl_RX5_42 dX5_lineIn_39 ?_
  refine z_isv (show _ = (2 : Int32) from rfl) ?_
  refine z_if_le (tgt := 49) hX dX5_lineIn_42 (by decide) (fun h42 => absurd h42 (by decide)) (fun h42 => ?_)
  refine z_iconst (v := 0) hX dX5_lineIn_45 (by decide) ?_
  refine z_goto (tgt := 50) hX dX5_lineIn_46 (by decide) ?_
  exact z_iretI hX dX5_lineIn_50 (by decide) rfl (fun _ h => h)
set_option maxHeartbeats 4000000 in
set_option maxRecDepth 100000 in
theorem no_X5_lineIn (l : Launch) {g : zG} {κ : zKp} {μ : zMu} {ω : zOm} {a b : Nat → Int32} {x y : Int32} (hn : bnI b) (hx : ¬ ((0 ≤ x ∧ x ≤ 2) ∧ (0 ≤ y ∧ y ≤ 9))) : zM l g yX5_lineIn cX5_lineIn 4 (some .int) 4 0 [.ref (gA g 10 0 0), .int x, .int y] κ (zN μ a b) ω κ (zN μ (upd a 2 1) b) ω (some (.int 0)) := by
  refine zM_of (by decide) (Nat.le_of_ble_eq_true rfl) (fun p e R s m args below meth c hX => ?_)
  show zZ p l e R s m args below meth c g 4 _ _ _ _ 0 0 [(0, .ref (gA g 10 0 0)), (1, .int x), (2, .int y)] []
  refine z_aload_n hX dX5_lineIn_0 0 rfl ?_
  refine z_iload_n hX dX5_lineIn_1 1 rfl ?_
  refine z_iload_n hX dX5_lineIn_2 2 rfl ?_
  refine z_callV1 hX (ok_X5_cell l hn) cv_RX5_99 zRc10 dX5_lineIn_3 (by decide) rfl rfl (Nat.le_of_ble_eq_true rfl) ?_
  refine z_istore_n (lv' := [(3, _), (0, _), (1, _), (2, _)]) hX dX5_lineIn_6 (by decide) rfl ?_
  refine z_aload_n hX dX5_lineIn_7 1 rfl ?_
  refine z_iload_n hX dX5_lineIn_8 2 rfl ?_
  refine z_callS1 hX (ok_X5_isLane l) cs_RX5_134 dX5_lineIn_9 (by decide) rfl rfl (Nat.le_of_ble_eq_true rfl) ?_
  refine z_if_eqB (tgt := 22) hX dX5_lineIn_12 (by decide) (fun h12 => ?_) (fun h12 => ?_)
  · skip
    refine z_iconst (v := 1) hX dX5_lineIn_22 (by decide) ?_
    refine z_goto (tgt := 35) hX dX5_lineIn_23 (by decide) ?_
    refine zp_X5_thrown hX   fl_RX5_42 dX5_lineIn_35 ?_
    refine z_aload_n hX dX5_lineIn_38 1 rfl ?_
    refine zg_X5_thrown hX   fl_RX5_42 dX5_lineIn_39 ?_
    refine z_isv (show _ = (1 : Int32) from rfl) ?_
    refine z_if_le (tgt := 49) hX dX5_lineIn_42 (by decide) (fun h42 => absurd h42 (by decide)) (fun h42 => ?_)
    refine z_iconst (v := 0) hX dX5_lineIn_45 (by decide) ?_
    refine z_goto (tgt := 50) hX dX5_lineIn_46 (by decide) ?_
    exact z_iretI hX dX5_lineIn_50 (by decide) rfl (fun _ h => h)
  · skip
    refine z_iload_n hX dX5_lineIn_15 3 rfl ?_
    refine z_callS1 hX (ok_X5_isColumn l) cs_RX5_102 dX5_lineIn_16 (by decide) rfl rfl (Nat.le_of_ble_eq_true rfl) ?_
    refine z_if_neB (tgt := 26) hX dX5_lineIn_19 (by decide) (fun h19 => absurd h19 (fun q => hx ⟨h12, q⟩)) (fun h19 => ?_)
    refine z_iconst (v := 1) hX dX5_lineIn_22 (by decide) ?_
    refine z_goto (tgt := 35) hX dX5_lineIn_23 (by decide) ?_
    refine zp_X5_thrown hX   fl_RX5_42 dX5_lineIn_35 ?_
    refine z_aload_n hX dX5_lineIn_38 1 rfl ?_
    refine zg_X5_thrown hX   fl_RX5_42 dX5_lineIn_39 ?_
    refine z_isv (show _ = (1 : Int32) from rfl) ?_
    refine z_if_le (tgt := 49) hX dX5_lineIn_42 (by decide) (fun h42 => absurd h42 (by decide)) (fun h42 => ?_)
    refine z_iconst (v := 0) hX dX5_lineIn_45 (by decide) ?_
    refine z_goto (tgt := 50) hX dX5_lineIn_46 (by decide) ?_
    exact z_iretI hX dX5_lineIn_50 (by decide) rfl (fun _ h => h)
set_option maxHeartbeats 4000000 in
set_option maxRecDepth 100000 in
theorem ok_X5_lineCount (l : Launch) {g : zG} {κ : zKp} {μ : zMu} {ω : zOm} {a b : Nat → Int32}  : zM l g yX5_lineCount cX5_lineCount 1 (some .int) 1 0 [.ref (gA g 10 0 0)] κ (zN μ a b) ω κ (zN μ (upd a 2 0) b) ω (some (.int (b 0))) := by
  refine zM_of (by decide) (Nat.le_of_ble_eq_true rfl) (fun p e R s m args below meth c hX => ?_)
  show zZ p l e R s m args below meth c g 1 _ _ _ _ 0 0 [(0, .ref (gA g 10 0 0))] []
  refine z_aload_n hX dX5_lineCount_0 0 rfl ?_
  refine z_iconst (v := 0) hX dX5_lineCount_1 (by decide) ?_
  refine zp_X5_thrown hX   fl_RX5_42 dX5_lineCount_2 ?_
  refine z_aload_n hX dX5_lineCount_5 0 rfl ?_
  refine zg_X5_s hX   fl_RX5_9 dX5_lineCount_6 ?_
  refine z_iconst (v := 0) hX dX5_lineCount_9 (by decide) ?_
  refine za_s hX  (show (0 : Int32) = nI 0 from rfl) (by decide) dX5_lineCount_10 ?_
  exact z_iretI hX dX5_lineCount_11 (by decide) rfl (fun _ h => h)
set_option maxHeartbeats 4000000 in
set_option maxRecDepth 100000 in
theorem ok_X5_fightCount (l : Launch) {g : zG} {κ : zKp} {μ : zMu} {ω : zOm} {a b : Nat → Int32}  : zM l g yX5_fightCount cX5_fightCount 1 (some .int) 1 0 [.ref (gA g 10 0 0)] κ (zN μ a b) ω κ (zN μ (upd a 2 0) b) ω (some (.int (b 2))) := by
  refine zM_of (by decide) (Nat.le_of_ble_eq_true rfl) (fun p e R s m args below meth c hX => ?_)
  show zZ p l e R s m args below meth c g 1 _ _ _ _ 0 0 [(0, .ref (gA g 10 0 0))] []
  refine z_aload_n hX dX5_fightCount_0 0 rfl ?_
  refine z_iconst (v := 0) hX dX5_fightCount_1 (by decide) ?_
  refine zp_X5_thrown hX   fl_RX5_42 dX5_fightCount_2 ?_
  refine z_aload_n hX dX5_fightCount_5 0 rfl ?_
  refine zg_X5_s hX   fl_RX5_9 dX5_fightCount_6 ?_
  refine z_iconst (v := 2) hX dX5_fightCount_9 (by decide) ?_
  refine za_s hX  (show (2 : Int32) = nI 2 from rfl) (by decide) dX5_fightCount_10 ?_
  exact z_iretI hX dX5_fightCount_11 (by decide) rfl (fun _ h => h)
set_option maxHeartbeats 4000000 in
set_option maxRecDepth 100000 in
theorem ok_X5_turnCount (l : Launch) {g : zG} {κ : zKp} {μ : zMu} {ω : zOm} {a b : Nat → Int32}  : zM l g yX5_turnCount cX5_turnCount 1 (some .int) 1 0 [.ref (gA g 10 0 0)] κ (zN μ a b) ω κ (zN μ (upd a 2 0) b) ω (some (.int (b 1))) := by
  refine zM_of (by decide) (Nat.le_of_ble_eq_true rfl) (fun p e R s m args below meth c hX => ?_)
  show zZ p l e R s m args below meth c g 1 _ _ _ _ 0 0 [(0, .ref (gA g 10 0 0))] []
  refine z_aload_n hX dX5_turnCount_0 0 rfl ?_
  refine z_iconst (v := 0) hX dX5_turnCount_1 (by decide) ?_
  refine zp_X5_thrown hX   fl_RX5_42 dX5_turnCount_2 ?_
  refine z_aload_n hX dX5_turnCount_5 0 rfl ?_
  refine zg_X5_s hX   fl_RX5_9 dX5_turnCount_6 ?_
  refine z_iconst (v := 1) hX dX5_turnCount_9 (by decide) ?_
  refine za_s hX  (show (1 : Int32) = nI 1 from rfl) (by decide) dX5_turnCount_10 ?_
  exact z_iretI hX dX5_turnCount_11 (by decide) rfl (fun _ h => h)
set_option maxHeartbeats 4000000 in
set_option maxRecDepth 100000 in
theorem ok_X5_isConsistent (l : Launch) {g : zG} {κ : zKp} {μ : zMu} {ω : zOm} {a b : Nat → Int32}  : zM l g yX5_isConsistent cX5_isConsistent 1 (some .boolean) 1 0 [.ref (gA g 10 0 0)] κ (zN μ a b) ω κ (zN μ (upd a 2 0) b) ω (some (.int 1)) := by
  refine zM_of (by decide) (Nat.le_of_ble_eq_true rfl) (fun p e R s m args below meth c hX => ?_)
  show zZ p l e R s m args below meth c g 1 _ _ _ _ 0 0 [(0, .ref (gA g 10 0 0))] []
  refine z_aload_n hX dX5_isConsistent_0 0 rfl ?_
  refine z_iconst (v := 0) hX dX5_isConsistent_1 (by decide) ?_
  refine zp_X5_thrown hX   fl_RX5_42 dX5_isConsistent_2 ?_
  refine z_iconst (v := 1) hX dX5_isConsistent_5 (by decide) ?_
  exact z_iret hX dX5_isConsistent_6 (by decide) rfl rfl (fun _ h => h)
set_option maxHeartbeats 4000000 in
set_option maxRecDepth 100000 in
theorem ok_X5_jarsOf (l : Launch) {g : zG} {κ : zKp} {μ : zMu} {ω : zOm} {a b : Nat → Int32} {x : Int32} (hx : 0 ≤ x ∧ x ≤ 1)  : zM l g yX5_jarsOf cX5_jarsOf 2 (some .int) 4 0 [.ref (gA g 10 0 0), .int x] κ (zN μ a b) ω κ (zN μ (upd a 2 0) b) ω (some (.int (if x = 0 then b 3 else b 4))) := by
  refine zM_of (by decide) (Nat.le_of_ble_eq_true rfl) (fun p e R s m args below meth c hX => ?_)
  show zZ p l e R s m args below meth c g 2 _ _ _ _ 0 0 [(0, .ref (gA g 10 0 0)), (1, .int x)] []
  refine z_aload_n hX dX5_jarsOf_0 0 rfl ?_
  refine z_iload_n hX dX5_jarsOf_1 1 rfl ?_
  refine z_callS1 hX (ok_X5_isSide l) cs_RX5_131 dX5_jarsOf_2 (by decide) rfl rfl (Nat.le_of_ble_eq_true rfl) ?_
  refine z_isv (if_pos hx) ?_
  refine z_callV1 hX (ok_there1 l) cv_RX5_169 zRc10 dX5_jarsOf_5 (by decide) rfl rfl (Nat.le_of_ble_eq_true rfl) ?_
  refine z_if_eq (tgt := 22) hX dX5_jarsOf_8 (by decide) (fun h8 => absurd h8 (by decide)) (fun h8 => ?_)
  rcases jar_i hx with rfl | rfl
  · skip
    refine z_aload_n hX dX5_jarsOf_11 0 rfl ?_
    refine zg_X5_s hX   fl_RX5_9 dX5_jarsOf_12 ?_
    refine z_iconst (v := 3) hX dX5_jarsOf_15 (by decide) ?_
    refine z_iload_n hX dX5_jarsOf_16 1 rfl ?_
    refine z_iadd hX dX5_jarsOf_17 ?_
    refine za_s hX  (show (3 : Int32) + 0 = nI 3 from rfl) (by decide) dX5_jarsOf_18 ?_
    refine z_goto (tgt := 23) hX dX5_jarsOf_19 (by decide) ?_
    exact z_iretI hX dX5_jarsOf_23 (by decide) rfl (fun _ h => h)
  · skip
    refine z_aload_n hX dX5_jarsOf_11 0 rfl ?_
    refine zg_X5_s hX   fl_RX5_9 dX5_jarsOf_12 ?_
    refine z_iconst (v := 3) hX dX5_jarsOf_15 (by decide) ?_
    refine z_iload_n hX dX5_jarsOf_16 1 rfl ?_
    refine z_iadd hX dX5_jarsOf_17 ?_
    refine za_s hX  (show (3 : Int32) + 1 = nI 4 from rfl) (by decide) dX5_jarsOf_18 ?_
    refine z_goto (tgt := 23) hX dX5_jarsOf_19 (by decide) ?_
    exact z_iretI hX dX5_jarsOf_23 (by decide) rfl (fun _ h => h)
set_option maxHeartbeats 4000000 in
set_option maxRecDepth 100000 in
theorem no_X5_jarsOf (l : Launch) {g : zG} {κ : zKp} {μ : zMu} {ω : zOm} {a b : Nat → Int32} {x : Int32} (hx : ¬ (0 ≤ x ∧ x ≤ 1))  : zM l g yX5_jarsOf cX5_jarsOf 2 (some .int) 4 0 [.ref (gA g 10 0 0), .int x] κ (zN μ a b) ω κ (zN μ (upd a 2 1) b) ω (some (.int 0)) := by
  refine zM_of (by decide) (Nat.le_of_ble_eq_true rfl) (fun p e R s m args below meth c hX => ?_)
  show zZ p l e R s m args below meth c g 2 _ _ _ _ 0 0 [(0, .ref (gA g 10 0 0)), (1, .int x)] []
  refine z_aload_n hX dX5_jarsOf_0 0 rfl ?_
  refine z_iload_n hX dX5_jarsOf_1 1 rfl ?_
  refine z_callS1 hX (ok_X5_isSide l) cs_RX5_131 dX5_jarsOf_2 (by decide) rfl rfl (Nat.le_of_ble_eq_true rfl) ?_
  refine z_isv (if_neg hx) ?_
  refine z_callV1 hX (ok_there0 l) cv_RX5_169 zRc10 dX5_jarsOf_5 (by decide) rfl rfl (Nat.le_of_ble_eq_true rfl) ?_
  refine z_if_eq (tgt := 22) hX dX5_jarsOf_8 (by decide) (fun h8 => ?_) (fun h8 => absurd h8 (by decide))
  refine z_iconst (v := 0) hX dX5_jarsOf_22 (by decide) ?_
  exact z_iretI hX dX5_jarsOf_23 (by decide) rfl (fun _ h => h)
set_option maxHeartbeats 4000000 in
set_option maxRecDepth 100000 in
theorem ok_X5_sum (l : Launch) {g : zG} {κ : zKp} {μ : zMu} {ω : zOm} {a b : Nat → Int32} {x : Int32} (hn : bnI b) : zM l g yX5_sum cX5_sum 4 (some .int) 2 0 [.ref (gA g 10 0 0), .int x] κ (zN μ a b) ω κ (zN μ a b) ω (some (.int (sumB b x))) := by
  refine zM_of (by decide) (Nat.le_of_ble_eq_true rfl) (fun p e R s m args below meth c hX => ?_)
  show zZ p l e R s m args below meth c g 4 _ _ _ _ 0 0 [(0, .ref (gA g 10 0 0)), (1, .int x)] []
  refine z_iconst (v := 0) hX dX5_sum_0 (by decide) ?_
  refine z_istore_n (lv' := [(2, _), (0, _), (1, _)]) hX dX5_sum_1 (by decide) rfl ?_
  refine z_iconst (v := 0) hX dX5_sum_2 (by decide) ?_
  refine z_istore_n (lv' := [(3, _), (2, _), (0, _), (1, _)]) hX dX5_sum_3 (by decide) rfl ?_
  have hL : ∀ (dz : Nat) (k : Nat) (sv : Int32), bn b - k = dz → k ≤ bn b → sv = sm (strF b x) k → zZ p l e R s m args below meth c g 4 (zQ g κ (zN μ a b) ω (some (.int (sumB b x))) below args s 0) κ (zN μ a b) ω 0 4 [(0, .ref (gA g 10 0 0)), (1, .int x), (2, .int sv), (3, .int (nI k))] [] := by
    intro dz
    induction dz with
    | zero =>
      intro k sv hd hk hs
      have hkn : k = bn b := by omega
      refine z_iload_n hX dX5_sum_4 3 rfl ?_
      refine z_aload_n hX dX5_sum_5 0 rfl ?_
      refine zg_X5_s hX   fl_RX5_9 dX5_sum_6 ?_
      refine z_iconst (v := 0) hX dX5_sum_9 (by decide) ?_
      refine za_s hX  (show (0 : Int32) = nI 0 from rfl) (by decide) dX5_sum_10 ?_
      refine z_icmp_ge (tgt := 43) hX dX5_sum_11 (by decide) (fun h11 => ?_) (fun h11 => absurd h11 (Classical.not_not.mpr (by rw [hkn]; exact cnt_le hn)))
      refine z_iload_n hX dX5_sum_43 2 rfl ?_
      exact z_iretI hX dX5_sum_44 (by decide) (by rw [hs, hkn]; rfl) (fun _ h => h)
    | succ dz ih =>
      intro k sv hd hk hs
      have hkn : k < bn b := by omega
      refine z_iload_n hX dX5_sum_4 3 rfl ?_
      refine z_aload_n hX dX5_sum_5 0 rfl ?_
      refine zg_X5_s hX   fl_RX5_9 dX5_sum_6 ?_
      refine z_iconst (v := 0) hX dX5_sum_9 (by decide) ?_
      refine za_s hX  (show (0 : Int32) = nI 0 from rfl) (by decide) dX5_sum_10 ?_
      refine z_icmp_ge (tgt := 43) hX dX5_sum_11 (by decide) (fun h11 => absurd h11 (cnt_gt hn hkn)) (fun h11 => ?_)
      refine z_iload_n hX dX5_sum_14 2 rfl ?_
      refine z_aload_n hX dX5_sum_15 0 rfl ?_
      refine z_iload_n hX dX5_sum_16 3 rfl ?_
      refine z_iconst (v := 0) hX dX5_sum_17 (by decide) ?_
      refine z_callV1 hX (ok_X5_of (w := 0) l (lt12 hn hkn) (by decide)) cv_RX5_58 zRc10 dX5_sum_18 (by decide) rfl rfl (Nat.le_of_ble_eq_true rfl) ?_
      refine z_iload_n hX dX5_sum_21 1 rfl ?_
      refine z_icmp_ne (tgt := 34) hX dX5_sum_22 (by decide) (fun h22 => ?_) (fun h22 => ?_)
      · skip
        refine z_iconst (v := 0) hX dX5_sum_34 (by decide) ?_
        refine z_iadd hX dX5_sum_35 ?_
        refine z_istore_n (lv' := [(2, _), (0, _), (1, _), (3, _)]) hX dX5_sum_36 (by decide) rfl ?_
        refine z_iinc (v := nI (k + 1)) (lv' := [(3, _), (2, _), (0, _), (1, _)]) hX dX5_sum_37 3 rfl (nI_1 k) (by decide) rfl ?_
        refine z_goto (tgt := 4) hX dX5_sum_40 (by decide) ?_
        refine z_sub [2, 3, 1, 0] rfl ?_
        exact ih (k + 1) _ (by omega) hkn (sm_y hs (if_neg h22))
      · skip
        refine z_aload_n hX dX5_sum_25 0 rfl ?_
        refine z_iload_n hX dX5_sum_26 3 rfl ?_
        refine z_iconst (v := 4) hX dX5_sum_27 (by decide) ?_
        refine z_callV1 hX (ok_X5_of (w := 4) l (lt12 hn hkn) (by decide)) cv_RX5_58 zRc10 dX5_sum_28 (by decide) rfl rfl (Nat.le_of_ble_eq_true rfl) ?_
        refine z_goto (tgt := 35) hX dX5_sum_31 (by decide) ?_
        refine z_iadd hX dX5_sum_35 ?_
        refine z_istore_n (lv' := [(2, _), (0, _), (1, _), (3, _)]) hX dX5_sum_36 (by decide) rfl ?_
        refine z_iinc (v := nI (k + 1)) (lv' := [(3, _), (2, _), (0, _), (1, _)]) hX dX5_sum_37 3 rfl (nI_1 k) (by decide) rfl ?_
        refine z_goto (tgt := 4) hX dX5_sum_40 (by decide) ?_
        refine z_sub [2, 3, 1, 0] rfl ?_
        exact ih (k + 1) _ (by omega) hkn (sm_y hs (if_pos h22))
  refine z_sub [2, 3, 1, 0] rfl ?_
  exact hL (bn b) 0 0 (Nat.sub_zero _) (Nat.zero_le _) rfl
set_option maxHeartbeats 4000000 in
set_option maxRecDepth 100000 in
theorem ok_X5_strengthOfSide (l : Launch) {g : zG} {κ : zKp} {μ : zMu} {ω : zOm} {a b : Nat → Int32} {x : Int32} (hx : 0 ≤ x ∧ x ≤ 1) (hn : bnI b) : zM l g yX5_strengthOfSide cX5_strengthOfSide 2 (some .int) 4 0 [.ref (gA g 10 0 0), .int x] κ (zN μ a b) ω κ (zN μ (upd a 2 0) b) ω (some (.int (sumB b x))) := by
  refine zM_of (by decide) (Nat.le_of_ble_eq_true rfl) (fun p e R s m args below meth c hX => ?_)
  show zZ p l e R s m args below meth c g 2 _ _ _ _ 0 0 [(0, .ref (gA g 10 0 0)), (1, .int x)] []
  refine z_aload_n hX dX5_strengthOfSide_0 0 rfl ?_
  refine z_iload_n hX dX5_strengthOfSide_1 1 rfl ?_
  refine z_callS1 hX (ok_X5_isSide l) cs_RX5_131 dX5_strengthOfSide_2 (by decide) rfl rfl (Nat.le_of_ble_eq_true rfl) ?_
  refine z_isv (if_pos hx) ?_
  refine z_callV1 hX (ok_there1 l) cv_RX5_169 zRc10 dX5_strengthOfSide_5 (by decide) rfl rfl (Nat.le_of_ble_eq_true rfl) ?_
  refine z_if_eq (tgt := 19) hX dX5_strengthOfSide_8 (by decide) (fun h8 => absurd h8 (by decide)) (fun h8 => ?_)
  refine z_aload_n hX dX5_strengthOfSide_11 0 rfl ?_
  refine z_iload_n hX dX5_strengthOfSide_12 1 rfl ?_
  refine z_callV1 hX (ok_X5_sum l hn) cv_RX5_185 zRc10 dX5_strengthOfSide_13 (by decide) rfl rfl (Nat.le_of_ble_eq_true rfl) ?_
  refine z_goto (tgt := 20) hX dX5_strengthOfSide_16 (by decide) ?_
  exact z_iretI hX dX5_strengthOfSide_20 (by decide) rfl (fun _ h => h)
set_option maxHeartbeats 4000000 in
set_option maxRecDepth 100000 in
theorem no_X5_strengthOfSide (l : Launch) {g : zG} {κ : zKp} {μ : zMu} {ω : zOm} {a b : Nat → Int32} {x : Int32} (hx : ¬ (0 ≤ x ∧ x ≤ 1))  : zM l g yX5_strengthOfSide cX5_strengthOfSide 2 (some .int) 4 0 [.ref (gA g 10 0 0), .int x] κ (zN μ a b) ω κ (zN μ (upd a 2 1) b) ω (some (.int 0)) := by
  refine zM_of (by decide) (Nat.le_of_ble_eq_true rfl) (fun p e R s m args below meth c hX => ?_)
  show zZ p l e R s m args below meth c g 2 _ _ _ _ 0 0 [(0, .ref (gA g 10 0 0)), (1, .int x)] []
  refine z_aload_n hX dX5_strengthOfSide_0 0 rfl ?_
  refine z_iload_n hX dX5_strengthOfSide_1 1 rfl ?_
  refine z_callS1 hX (ok_X5_isSide l) cs_RX5_131 dX5_strengthOfSide_2 (by decide) rfl rfl (Nat.le_of_ble_eq_true rfl) ?_
  refine z_isv (if_neg hx) ?_
  refine z_callV1 hX (ok_there0 l) cv_RX5_169 zRc10 dX5_strengthOfSide_5 (by decide) rfl rfl (Nat.le_of_ble_eq_true rfl) ?_
  refine z_if_eq (tgt := 19) hX dX5_strengthOfSide_8 (by decide) (fun h8 => ?_) (fun h8 => absurd h8 (by decide))
  refine z_iconst (v := 0) hX dX5_strengthOfSide_19 (by decide) ?_
  exact z_iretI hX dX5_strengthOfSide_20 (by decide) rfl (fun _ h => h)
set_option maxHeartbeats 4000000 in
set_option maxRecDepth 100000 in
theorem ok_X5_strengthByCells (l : Launch) {g : zG} {κ : zKp} {μ : zMu} {ω : zOm} {a b : Nat → Int32} {x : Int32} (hx : 0 ≤ x ∧ x ≤ 1) (hn : bnI b) : zM l g yX5_strengthByCells cX5_strengthByCells 2 (some .int) 5 0 [.ref (gA g 10 0 0), .int x] κ (zN μ a b) ω κ (zN μ (upd a 2 0) b) ω (some (.int (sumB b x))) := by
  refine zM_of (by decide) (Nat.le_of_ble_eq_true rfl) (fun p e R s m args below meth c hX => ?_)
  show zZ p l e R s m args below meth c g 2 _ _ _ _ 0 0 [(0, .ref (gA g 10 0 0)), (1, .int x)] []
  refine z_aload_n hX dX5_strengthByCells_0 0 rfl ?_
  refine z_iload_n hX dX5_strengthByCells_1 1 rfl ?_
  refine z_callV1 hX (ok_X5_strengthOfSide l hx hn) cv_RX5_188 zRc10 dX5_strengthByCells_2 (by decide) rfl rfl (Nat.le_of_ble_eq_true rfl) ?_
  exact z_iretI hX dX5_strengthByCells_5 (by decide) rfl (fun _ h => h)
set_option maxHeartbeats 4000000 in
set_option maxRecDepth 100000 in
theorem no_X5_strengthByCells (l : Launch) {g : zG} {κ : zKp} {μ : zMu} {ω : zOm} {a b : Nat → Int32} {x : Int32} (hx : ¬ (0 ≤ x ∧ x ≤ 1))  : zM l g yX5_strengthByCells cX5_strengthByCells 2 (some .int) 5 0 [.ref (gA g 10 0 0), .int x] κ (zN μ a b) ω κ (zN μ (upd a 2 1) b) ω (some (.int 0)) := by
  refine zM_of (by decide) (Nat.le_of_ble_eq_true rfl) (fun p e R s m args below meth c hX => ?_)
  show zZ p l e R s m args below meth c g 2 _ _ _ _ 0 0 [(0, .ref (gA g 10 0 0)), (1, .int x)] []
  refine z_aload_n hX dX5_strengthByCells_0 0 rfl ?_
  refine z_iload_n hX dX5_strengthByCells_1 1 rfl ?_
  refine z_callV1 hX (no_X5_strengthOfSide l hx) cv_RX5_188 zRc10 dX5_strengthByCells_2 (by decide) rfl rfl (Nat.le_of_ble_eq_true rfl) ?_
  exact z_iretI hX dX5_strengthByCells_5 (by decide) rfl (fun _ h => h)
set_option maxHeartbeats 4000000 in
set_option maxRecDepth 100000 in
theorem ok_X5_fallenOf (l : Launch) {g : zG} {κ : zKp} {μ : zMu} {ω : zOm} {a b : Nat → Int32} {x : Int32} (hx : 0 ≤ x ∧ x ≤ 1) (hn : bnI b) : zM l g yX5_fallenOf cX5_fallenOf 5 (some .int) 4 0 [.ref (gA g 10 0 0), .int x] κ (zN μ a b) ω κ (zN μ (upd a 2 0) b) ω (some (.int (falB b x))) := by
  refine zM_of (by decide) (Nat.le_of_ble_eq_true rfl) (fun p e R s m args below meth c hX => ?_)
  show zZ p l e R s m args below meth c g 5 _ _ _ _ 0 0 [(0, .ref (gA g 10 0 0)), (1, .int x)] []
  refine z_iconst (v := 0) hX dX5_fallenOf_0 (by decide) ?_
  refine z_istore_n (lv' := [(2, _), (0, _), (1, _)]) hX dX5_fallenOf_1 (by decide) rfl ?_
  refine z_aload_n hX dX5_fallenOf_2 1 rfl ?_
  refine z_iload_n hX dX5_fallenOf_3 2 rfl ?_
  refine z_callS1 hX (ok_X5_isSide l) cs_RX5_131 dX5_fallenOf_4 (by decide) rfl rfl (Nat.le_of_ble_eq_true rfl) ?_
  refine z_isv (if_pos hx) ?_
  refine z_callV1 hX (ok_there1 l) cv_RX5_169 zRc10 dX5_fallenOf_7 (by decide) rfl rfl (Nat.le_of_ble_eq_true rfl) ?_
  refine z_istore_n (lv' := [(3, _), (2, _), (0, _), (1, _)]) hX dX5_fallenOf_10 (by decide) rfl ?_
  refine z_iconst (v := 0) hX dX5_fallenOf_11 (by decide) ?_
  refine z_istore (lv' := [(4, _), (3, _), (2, _), (0, _), (1, _)]) hX dX5_fallenOf_12 (by decide) rfl ?_
  have hL : ∀ (dz : Nat) (k : Nat) (sv : Int32), bn b - k = dz → k ≤ bn b → sv = sm (falF b x) k → zZ p l e R s m args below meth c g 5 (zQ g κ (zN μ (upd a 2 0) b) ω (some (.int (falB b x))) below args s 0) κ (zN μ (upd a 2 0) b) ω 0 14 [(0, .ref (gA g 10 0 0)), (1, .int x), (2, .int sv), (3, .int 1), (4, .int (nI k))] [] := by
    intro dz
    induction dz with
    | zero =>
      intro k sv hd hk hs
      have hkn : k = bn b := by omega
      refine z_iload hX dX5_fallenOf_14 4 rfl ?_
      refine z_aload_n hX dX5_fallenOf_16 0 rfl ?_
      refine zg_X5_s hX   fl_RX5_9 dX5_fallenOf_17 ?_
      refine z_iconst (v := 0) hX dX5_fallenOf_20 (by decide) ?_
      refine za_s hX  (show (0 : Int32) = nI 0 from rfl) (by decide) dX5_fallenOf_21 ?_
      refine z_icmp_ge (tgt := 63) hX dX5_fallenOf_22 (by decide) (fun h22 => ?_) (fun h22 => absurd h22 (Classical.not_not.mpr (by rw [hkn]; exact cnt_le hn)))
      refine z_iload_n hX dX5_fallenOf_63 2 rfl ?_
      exact z_iretI hX dX5_fallenOf_64 (by decide) (by rw [hs, hkn]; rfl) (fun _ h => h)
    | succ dz ih =>
      intro k sv hd hk hs
      have hkn : k < bn b := by omega
      refine z_iload hX dX5_fallenOf_14 4 rfl ?_
      refine z_aload_n hX dX5_fallenOf_16 0 rfl ?_
      refine zg_X5_s hX   fl_RX5_9 dX5_fallenOf_17 ?_
      refine z_iconst (v := 0) hX dX5_fallenOf_20 (by decide) ?_
      refine za_s hX  (show (0 : Int32) = nI 0 from rfl) (by decide) dX5_fallenOf_21 ?_
      refine z_icmp_ge (tgt := 63) hX dX5_fallenOf_22 (by decide) (fun h22 => absurd h22 (cnt_gt hn hkn)) (fun h22 => ?_)
      refine z_iload_n hX dX5_fallenOf_25 3 rfl ?_
      refine z_if_eq (tgt := 63) hX dX5_fallenOf_26 (by decide) (fun h26 => absurd h26 (by decide)) (fun h26 => ?_)
      refine z_iload_n hX dX5_fallenOf_29 2 rfl ?_
      refine z_aload_n hX dX5_fallenOf_30 0 rfl ?_
      refine z_iload hX dX5_fallenOf_31 4 rfl ?_
      refine z_iconst (v := 0) hX dX5_fallenOf_33 (by decide) ?_
      refine z_callV1 hX (ok_X5_of (w := 0) l (lt12 hn hkn) (by decide)) cv_RX5_58 zRc10 dX5_fallenOf_34 (by decide) rfl rfl (Nat.le_of_ble_eq_true rfl) ?_
      refine z_iload_n hX dX5_fallenOf_37 1 rfl ?_
      refine z_icmp_ne (tgt := 54) hX dX5_fallenOf_38 (by decide) (fun h38 => ?_) (fun h38 => ?_)
      · skip
        refine z_iconst (v := 0) hX dX5_fallenOf_54 (by decide) ?_
        refine z_iadd hX dX5_fallenOf_55 ?_
        refine z_istore_n (lv' := [(2, _), (0, _), (1, _), (3, _), (4, _)]) hX dX5_fallenOf_56 (by decide) rfl ?_
        refine z_iinc (v := nI (k + 1)) (lv' := [(4, _), (2, _), (0, _), (1, _), (3, _)]) hX dX5_fallenOf_57 4 rfl (nI_1 k) (by decide) rfl ?_
        refine z_goto (tgt := 14) hX dX5_fallenOf_60 (by decide) ?_
        refine z_sub [2, 3, 1, 4, 0] rfl ?_
        exact ih (k + 1) _ (by omega) hkn (sm_y hs (if_neg (fun q => h38 q.1)))
      · skip
        refine z_aload_n hX dX5_fallenOf_41 0 rfl ?_
        refine z_iload hX dX5_fallenOf_42 4 rfl ?_
        refine z_callV1 hX (ok_X5_isGone l (lt12 hn hkn)) cv_RX5_62 zRc10 dX5_fallenOf_44 (by decide) rfl rfl (Nat.le_of_ble_eq_true rfl) ?_
        refine z_if_eqB (tgt := 54) hX dX5_fallenOf_47 (by decide) (fun h47 => ?_) (fun h47 => ?_)
        · skip
          refine z_iconst (v := 0) hX dX5_fallenOf_54 (by decide) ?_
          refine z_iadd hX dX5_fallenOf_55 ?_
          refine z_istore_n (lv' := [(2, _), (0, _), (1, _), (3, _), (4, _)]) hX dX5_fallenOf_56 (by decide) rfl ?_
          refine z_iinc (v := nI (k + 1)) (lv' := [(4, _), (2, _), (0, _), (1, _), (3, _)]) hX dX5_fallenOf_57 4 rfl (nI_1 k) (by decide) rfl ?_
          refine z_goto (tgt := 14) hX dX5_fallenOf_60 (by decide) ?_
          refine z_sub [2, 3, 1, 4, 0] rfl ?_
          exact ih (k + 1) _ (by omega) hkn (sm_y hs (if_neg (fun q => h47 q.2)))
        · skip
          refine z_iconst (v := 1) hX dX5_fallenOf_50 (by decide) ?_
          refine z_goto (tgt := 55) hX dX5_fallenOf_51 (by decide) ?_
          refine z_iadd hX dX5_fallenOf_55 ?_
          refine z_istore_n (lv' := [(2, _), (0, _), (1, _), (3, _), (4, _)]) hX dX5_fallenOf_56 (by decide) rfl ?_
          refine z_iinc (v := nI (k + 1)) (lv' := [(4, _), (2, _), (0, _), (1, _), (3, _)]) hX dX5_fallenOf_57 4 rfl (nI_1 k) (by decide) rfl ?_
          refine z_goto (tgt := 14) hX dX5_fallenOf_60 (by decide) ?_
          refine z_sub [2, 3, 1, 4, 0] rfl ?_
          exact ih (k + 1) _ (by omega) hkn (sm_y hs (if_pos ⟨h38, h47⟩))
  refine z_sub [3, 4, 2, 1, 0] rfl ?_
  exact hL (bn b) 0 0 (Nat.sub_zero _) (Nat.zero_le _) rfl
set_option maxHeartbeats 4000000 in
set_option maxRecDepth 100000 in
theorem no_X5_fallenOf (l : Launch) {g : zG} {κ : zKp} {μ : zMu} {ω : zOm} {a b : Nat → Int32} {x : Int32} (hx : ¬ (0 ≤ x ∧ x ≤ 1))  : zM l g yX5_fallenOf cX5_fallenOf 5 (some .int) 4 0 [.ref (gA g 10 0 0), .int x] κ (zN μ a b) ω κ (zN μ (upd a 2 1) b) ω (some (.int 0)) := by
  refine zM_of (by decide) (Nat.le_of_ble_eq_true rfl) (fun p e R s m args below meth c hX => ?_)
  show zZ p l e R s m args below meth c g 5 _ _ _ _ 0 0 [(0, .ref (gA g 10 0 0)), (1, .int x)] []
  refine z_iconst (v := 0) hX dX5_fallenOf_0 (by decide) ?_
  refine z_istore_n (lv' := [(2, _), (0, _), (1, _)]) hX dX5_fallenOf_1 (by decide) rfl ?_
  refine z_aload_n hX dX5_fallenOf_2 1 rfl ?_
  refine z_iload_n hX dX5_fallenOf_3 2 rfl ?_
  refine z_callS1 hX (ok_X5_isSide l) cs_RX5_131 dX5_fallenOf_4 (by decide) rfl rfl (Nat.le_of_ble_eq_true rfl) ?_
  refine z_isv (if_neg hx) ?_
  refine z_callV1 hX (ok_there0 l) cv_RX5_169 zRc10 dX5_fallenOf_7 (by decide) rfl rfl (Nat.le_of_ble_eq_true rfl) ?_
  refine z_istore_n (lv' := [(3, _), (2, _), (0, _), (1, _)]) hX dX5_fallenOf_10 (by decide) rfl ?_
  refine z_iconst (v := 0) hX dX5_fallenOf_11 (by decide) ?_
  refine z_istore (lv' := [(4, _), (3, _), (2, _), (0, _), (1, _)]) hX dX5_fallenOf_12 (by decide) rfl ?_
  refine z_iload hX dX5_fallenOf_14 0 rfl ?_
  refine z_aload_n hX dX5_fallenOf_16 3 rfl ?_
  refine zg_X5_s hX   fl_RX5_9 dX5_fallenOf_17 ?_
  refine z_iconst (v := 0) hX dX5_fallenOf_20 (by decide) ?_
  refine za_s hX  (show (0 : Int32) = nI 0 from rfl) (by decide) dX5_fallenOf_21 ?_
  refine z_icmp_ge (tgt := 63) hX dX5_fallenOf_22 (by decide) (fun h22 => ?_) (fun h22 => ?_)
  · skip
    refine z_iload_n hX dX5_fallenOf_63 2 rfl ?_
    exact z_iretI hX dX5_fallenOf_64 (by decide) rfl (fun _ h => h)
  · skip
    refine z_iload_n hX dX5_fallenOf_25 1 rfl ?_
    refine z_if_eq (tgt := 63) hX dX5_fallenOf_26 (by decide) (fun h26 => ?_) (fun h26 => absurd h26 (by decide))
    refine z_iload_n hX dX5_fallenOf_63 2 rfl ?_
    exact z_iretI hX dX5_fallenOf_64 (by decide) rfl (fun _ h => h)
set_option maxHeartbeats 4000000 in
set_option maxRecDepth 100000 in
theorem ok_X5_leader (l : Launch) {g : zG} {κ : zKp} {μ : zMu} {ω : zOm} {a b : Nat → Int32} (hn : bnI b) (h0 : ¬ sumB b 0 - sumB b 1 = 0) : zM l g yX5_leader cX5_leader 2 (some .int) 4 0 [.ref (gA g 10 0 0)] κ (zN μ a b) ω κ (zN μ (upd a 2 0) b) ω (some (.int (if sumB b 0 - sumB b 1 < 0 then 1 else 0))) := by
  refine zM_of (by decide) (Nat.le_of_ble_eq_true rfl) (fun p e R s m args below meth c hX => ?_)
  show zZ p l e R s m args below meth c g 2 _ _ _ _ 0 0 [(0, .ref (gA g 10 0 0))] []
  refine z_aload_n hX dX5_leader_0 0 rfl ?_
  refine z_iconst (v := 0) hX dX5_leader_1 (by decide) ?_
  refine z_callV1 hX (ok_X5_sum l hn) cv_RX5_185 zRc10 dX5_leader_2 (by decide) rfl rfl (Nat.le_of_ble_eq_true rfl) ?_
  refine z_aload_n hX dX5_leader_5 0 rfl ?_
  refine z_iconst (v := 1) hX dX5_leader_6 (by decide) ?_
  refine z_callV1 hX (ok_X5_sum l hn) cv_RX5_185 zRc10 dX5_leader_7 (by decide) rfl rfl (Nat.le_of_ble_eq_true rfl) ?_
  refine z_isub hX dX5_leader_10 ?_
  refine z_istore_n (lv' := [(1, _), (0, _)]) hX dX5_leader_11 (by decide) rfl ?_
  refine z_aload_n hX dX5_leader_12 1 rfl ?_
  refine z_iload_n hX dX5_leader_13 0 rfl ?_
  refine z_if_eq (tgt := 21) hX dX5_leader_14 (by decide) (fun h14 => absurd h14 h0) (fun h14 => ?_)
  refine z_iconst (v := 1) hX dX5_leader_17 (by decide) ?_
  refine z_goto (tgt := 22) hX dX5_leader_18 (by decide) ?_
  refine z_callV1 hX (ok_there1 l) cv_RX5_169 zRc10 dX5_leader_22 (by decide) rfl rfl (Nat.le_of_ble_eq_true rfl) ?_
  refine z_if_eq (tgt := 36) hX dX5_leader_25 (by decide) (fun h25 => absurd h25 (by decide)) (fun h25 => ?_)
  refine z_iload_n hX dX5_leader_28 0 rfl ?_
  refine z_if_ge (tgt := 36) hX dX5_leader_29 (by decide) (fun h29 => ?_) (fun h29 => ?_)
  · skip
    refine z_iconst (v := 0) hX dX5_leader_36 (by decide) ?_
    exact z_iretI hX dX5_leader_37 (by decide) (by rw [if_neg (Int32.not_lt.mpr h29)]) (fun _ h => h)
  · skip
    refine z_iconst (v := 1) hX dX5_leader_32 (by decide) ?_
    refine z_goto (tgt := 37) hX dX5_leader_33 (by decide) ?_
    exact z_iretI hX dX5_leader_37 (by decide) (by rw [if_pos (Int32.not_le.mp h29)]) (fun _ h => h)
set_option maxHeartbeats 4000000 in
set_option maxRecDepth 100000 in
theorem no_X5_leader (l : Launch) {g : zG} {κ : zKp} {μ : zMu} {ω : zOm} {a b : Nat → Int32} (hn : bnI b) (h0 : sumB b 0 - sumB b 1 = 0) : zM l g yX5_leader cX5_leader 2 (some .int) 4 0 [.ref (gA g 10 0 0)] κ (zN μ a b) ω κ (zN μ (upd a 2 1) b) ω (some (.int 0)) := by
  refine zM_of (by decide) (Nat.le_of_ble_eq_true rfl) (fun p e R s m args below meth c hX => ?_)
  show zZ p l e R s m args below meth c g 2 _ _ _ _ 0 0 [(0, .ref (gA g 10 0 0))] []
  refine z_aload_n hX dX5_leader_0 0 rfl ?_
  refine z_iconst (v := 0) hX dX5_leader_1 (by decide) ?_
  refine z_callV1 hX (ok_X5_sum l hn) cv_RX5_185 zRc10 dX5_leader_2 (by decide) rfl rfl (Nat.le_of_ble_eq_true rfl) ?_
  refine z_aload_n hX dX5_leader_5 0 rfl ?_
  refine z_iconst (v := 1) hX dX5_leader_6 (by decide) ?_
  refine z_callV1 hX (ok_X5_sum l hn) cv_RX5_185 zRc10 dX5_leader_7 (by decide) rfl rfl (Nat.le_of_ble_eq_true rfl) ?_
  refine z_isub hX dX5_leader_10 ?_
  refine z_istore_n (lv' := [(1, _), (0, _)]) hX dX5_leader_11 (by decide) rfl ?_
  refine z_aload_n hX dX5_leader_12 1 rfl ?_
  refine z_iload_n hX dX5_leader_13 0 rfl ?_
  refine z_if_eq (tgt := 21) hX dX5_leader_14 (by decide) (fun h14 => ?_) (fun h14 => absurd h14 (Classical.not_not.mpr h0))
  refine z_iconst (v := 0) hX dX5_leader_21 (by decide) ?_
  refine z_callV1 hX (ok_there0 l) cv_RX5_169 zRc10 dX5_leader_22 (by decide) rfl rfl (Nat.le_of_ble_eq_true rfl) ?_
  refine z_if_eq (tgt := 36) hX dX5_leader_25 (by decide) (fun h25 => ?_) (fun h25 => absurd h25 (by decide))
  refine z_iconst (v := 0) hX dX5_leader_36 (by decide) ?_
  exact z_iretI hX dX5_leader_37 (by decide) rfl (fun _ h => h)
set_option maxHeartbeats 4000000 in
set_option maxRecDepth 100000 in
theorem ok_X5_frontOf (l : Launch) {g : zG} {κ : zKp} {μ : zMu} {ω : zOm} {a b : Nat → Int32} {x y : Int32} (hn : bnI b) (hx : 0 ≤ x ∧ x ≤ 1) (hy : 0 ≤ y ∧ y ≤ 2) (h0 : 0 ≤ froN b x y 10) : zM l g yX5_frontOf cX5_frontOf 8 (some .int) 4 0 [.ref (gA g 10 0 0), .int x, .int y] κ (zN μ a b) ω κ (zN μ (upd a 2 0) b) ω (some (.int (froN b x y 10))) := by
  refine zM_of (by decide) (Nat.le_of_ble_eq_true rfl) (fun p e R s m args below meth c hX => ?_)
  show zZ p l e R s m args below meth c g 8 _ _ _ _ 0 0 [(0, .ref (gA g 10 0 0)), (1, .int x), (2, .int y)] []
  refine z_iconst (v := -1) hX dX5_frontOf_0 (by decide) ?_
  refine z_istore_n (lv' := [(3, _), (0, _), (1, _), (2, _)]) hX dX5_frontOf_1 (by decide) rfl ?_
  refine z_iload_n hX dX5_frontOf_2 2 rfl ?_
  refine z_callS1 hX (ok_X5_isSide l) cs_RX5_131 dX5_frontOf_3 (by decide) rfl rfl (Nat.le_of_ble_eq_true rfl) ?_
  refine z_isv (if_pos hx) ?_
  refine z_if_eq (tgt := 20) hX dX5_frontOf_6 (by decide) (fun h6 => absurd h6 (by decide)) (fun h6 => ?_)
  refine z_iload_n hX dX5_frontOf_9 3 rfl ?_
  refine z_callS1 hX (ok_X5_isLane l) cs_RX5_134 dX5_frontOf_10 (by decide) rfl rfl (Nat.le_of_ble_eq_true rfl) ?_
  refine z_isv (if_pos hy) ?_
  refine z_if_eq (tgt := 20) hX dX5_frontOf_13 (by decide) (fun h13 => absurd h13 (by decide)) (fun h13 => ?_)
  refine z_iconst (v := 1) hX dX5_frontOf_16 (by decide) ?_
  refine z_goto (tgt := 21) hX dX5_frontOf_17 (by decide) ?_
  refine z_istore (lv' := [(4, _), (3, _), (0, _), (1, _), (2, _)]) hX dX5_frontOf_21 (by decide) rfl ?_
  refine z_iconst (v := 0) hX dX5_frontOf_23 (by decide) ?_
  refine z_istore (lv' := [(5, _), (4, _), (3, _), (0, _), (1, _), (2, _)]) hX dX5_frontOf_24 (by decide) rfl ?_
  have hL : ∀ (dz : Nat) (k : Nat) (sv : Int32), 10 - k = dz → k ≤ 10 → sv = froN b x y k → zZ p l e R s m args below meth c g 8 (zQ g κ (zN μ (upd a 2 0) b) ω (some (.int (froN b x y 10))) below args s 0) κ (zN μ a b) ω 0 26 [(0, .ref (gA g 10 0 0)), (1, .int x), (2, .int y), (3, .int sv), (4, .int 1), (5, .int (nI k))] [] := by
    intro dz
    induction dz with
    | zero =>
      intro k sv hd hk hs
      have hkn : k = 10 := by omega
      refine z_iload hX dX5_frontOf_26 5 rfl ?_
      refine z_bipush (v := 10) hX dX5_frontOf_28 (by decide) ?_
      refine z_icmp_ge (tgt := 92) hX dX5_frontOf_30 (by decide) (fun h30 => ?_) (fun h30 => absurd h30 (Classical.not_not.mpr (le_i (a := 10) (b := k) (by omega) (by omega))))
      refine z_aload_n hX dX5_frontOf_92 0 rfl ?_
      refine z_iload hX dX5_frontOf_93 4 rfl ?_
      refine z_if_ne (tgt := 102) hX dX5_frontOf_95 (by decide) (fun h95 => ?_) (fun h95 => absurd h95 (by decide))
      refine z_iload_n hX dX5_frontOf_102 3 rfl ?_
      refine z_if_ge (tgt := 110) hX dX5_frontOf_103 (by decide) (fun h103 => ?_) (fun h103 => absurd h103 (Classical.not_not.mpr (by rw [hs, hkn]; exact h0)))
      refine z_iconst (v := 0) hX dX5_frontOf_110 (by decide) ?_
      refine zp_X5_thrown hX   fl_RX5_42 dX5_frontOf_111 ?_
      refine z_aload_n hX dX5_frontOf_114 0 rfl ?_
      refine zg_X5_thrown hX   fl_RX5_42 dX5_frontOf_115 ?_
      refine z_isv (show _ = (0 : Int32) from rfl) ?_
      refine z_if_le (tgt := 125) hX dX5_frontOf_118 (by decide) (fun h118 => ?_) (fun h118 => absurd h118 (by decide))
      refine z_iload_n hX dX5_frontOf_125 3 rfl ?_
      exact z_iretI hX dX5_frontOf_126 (by decide) (by rw [hs, hkn]) (fun _ h => h)
    | succ dz ih =>
      intro k sv hd hk hs
      have hkn : k < 10 := by omega
      refine z_iload hX dX5_frontOf_26 5 rfl ?_
      refine z_bipush (v := 10) hX dX5_frontOf_28 (by decide) ?_
      refine z_icmp_ge (tgt := 92) hX dX5_frontOf_30 (by decide) (fun h30 => absurd h30 (nle_i (a := k) (b := 10) hkn (by decide))) (fun h30 => ?_)
      refine z_iload hX dX5_frontOf_33 4 rfl ?_
      refine z_if_eq (tgt := 92) hX dX5_frontOf_35 (by decide) (fun h35 => absurd h35 (by decide)) (fun h35 => ?_)
      refine z_iload_n hX dX5_frontOf_38 1 rfl ?_
      refine z_if_ne (tgt := 47) hX dX5_frontOf_39 (by decide) (fun h39 => ?_) (fun h39 => ?_)
      · skip
        refine z_bipush (v := 9) hX dX5_frontOf_47 (by decide) ?_
        refine z_iload hX dX5_frontOf_49 5 rfl ?_
        refine z_isub hX dX5_frontOf_51 ?_
        refine z_isv (show _ = frC x k from (if_neg h39).symm) ?_
        refine z_istore (lv' := [(6, _), (0, _), (1, _), (2, _), (3, _), (4, _), (5, _)]) hX dX5_frontOf_52 (by decide) rfl ?_
        refine z_aload_n hX dX5_frontOf_54 1 rfl ?_
        refine z_iload_n hX dX5_frontOf_55 3 rfl ?_
        refine z_iload hX dX5_frontOf_56 0 rfl ?_
        rcases cellB_spec b y (frC x k) with ⟨fc, -⟩ | ⟨j, fj, fc, -⟩
        · skip
          refine z_callV1 hX (ok_X5_cell l hn) cv_RX5_99 zRc10 dX5_frontOf_58 (by decide) rfl rfl (Nat.le_of_ble_eq_true rfl) ?_
          refine z_isv fc ?_
          refine z_istore (lv' := [(7, _), (6, _), (0, _), (1, _), (2, _), (3, _), (4, _), (5, _)]) hX dX5_frontOf_61 (by decide) rfl ?_
          refine z_iload hX dX5_frontOf_63 0 rfl ?_
          refine z_if_lt (tgt := 84) hX dX5_frontOf_65 (by decide) (fun h65 => ?_) (fun h65 => absurd h65 (by decide))
          refine z_iload_n hX dX5_frontOf_84 5 rfl ?_
          refine z_istore_n (lv' := [(3, _), (7, _), (6, _), (0, _), (1, _), (2, _), (4, _), (5, _)]) hX dX5_frontOf_85 (by decide) rfl ?_
          refine z_iinc (v := nI (k + 1)) (lv' := [(5, _), (3, _), (7, _), (6, _), (0, _), (1, _), (2, _), (4, _)]) hX dX5_frontOf_86 7 rfl (nI_1 k) (by decide) rfl ?_
          refine z_goto (tgt := 26) hX dX5_frontOf_89 (by decide) ?_
          refine z_sub [4, 5, 6, 1, 7, 0] rfl ?_
          exact ih (k + 1) _ (by omega) hkn (by rw [froN, if_neg (fun q => absurd q.1 (by rw [fc]; decide))]; exact hs)
        · skip
          refine z_callV1 hX (ok_X5_cell l hn) cv_RX5_99 zRc10 dX5_frontOf_58 (by decide) rfl rfl (Nat.le_of_ble_eq_true rfl) ?_
          refine z_isv fc ?_
          refine z_istore (lv' := [(7, _), (6, _), (0, _), (1, _), (2, _), (3, _), (4, _), (5, _)]) hX dX5_frontOf_61 (by decide) rfl ?_
          refine z_iload hX dX5_frontOf_63 0 rfl ?_
          refine z_if_lt (tgt := 84) hX dX5_frontOf_65 (by decide) (fun h65 => absurd h65 (nn_i (by have := hn.1; omega))) (fun h65 => ?_)
          refine z_aload_n hX dX5_frontOf_68 2 rfl ?_
          refine z_iload hX dX5_frontOf_69 0 rfl ?_
          refine z_iconst (v := 0) hX dX5_frontOf_71 (by decide) ?_
          refine z_callV1 hX (ok_X5_of (w := 0) l (lt12 hn fj) (by decide)) cv_RX5_58 zRc10 dX5_frontOf_72 (by decide) rfl rfl (Nat.le_of_ble_eq_true rfl) ?_
          refine z_iload_n hX dX5_frontOf_75 3 rfl ?_
          refine z_icmp_ne (tgt := 84) hX dX5_frontOf_76 (by decide) (fun h76 => ?_) (fun h76 => ?_)
          · skip
            refine z_iload_n hX dX5_frontOf_84 5 rfl ?_
            refine z_istore_n (lv' := [(3, _), (7, _), (6, _), (0, _), (1, _), (2, _), (4, _), (5, _)]) hX dX5_frontOf_85 (by decide) rfl ?_
            refine z_iinc (v := nI (k + 1)) (lv' := [(5, _), (3, _), (7, _), (6, _), (0, _), (1, _), (2, _), (4, _)]) hX dX5_frontOf_86 7 rfl (nI_1 k) (by decide) rfl ?_
            refine z_goto (tgt := 26) hX dX5_frontOf_89 (by decide) ?_
            refine z_sub [4, 5, 6, 1, 7, 0] rfl ?_
            exact ih (k + 1) _ (by omega) hkn (by rw [froN, if_neg (fun q => h76 (by have := q.2; rw [fc, nI_clamp (by have := hn.1; omega)] at this; exact this))]; exact hs)
          · skip
            refine z_iload hX dX5_frontOf_79 1 rfl ?_
            refine z_goto (tgt := 85) hX dX5_frontOf_81 (by decide) ?_
            refine z_istore_n (lv' := [(3, _), (7, _), (6, _), (0, _), (1, _), (2, _), (4, _), (5, _)]) hX dX5_frontOf_85 (by decide) rfl ?_
            refine z_iinc (v := nI (k + 1)) (lv' := [(5, _), (3, _), (7, _), (6, _), (0, _), (1, _), (2, _), (4, _)]) hX dX5_frontOf_86 7 rfl (nI_1 k) (by decide) rfl ?_
            refine z_goto (tgt := 26) hX dX5_frontOf_89 (by decide) ?_
            refine z_sub [4, 5, 6, 1, 7, 0] rfl ?_
            exact ih (k + 1) _ (by omega) hkn (by rw [froN, if_pos ⟨by rw [fc]; exact ge_i (by have := hn.1; omega), by rw [fc, nI_clamp (by have := hn.1; omega)]; exact h76⟩])
      · skip
        refine z_iload hX dX5_frontOf_42 5 rfl ?_
        refine z_goto (tgt := 52) hX dX5_frontOf_44 (by decide) ?_
        refine z_isv (show _ = frC x k from (if_pos h39).symm) ?_
        refine z_istore (lv' := [(6, _), (0, _), (1, _), (2, _), (3, _), (4, _), (5, _)]) hX dX5_frontOf_52 (by decide) rfl ?_
        refine z_aload_n hX dX5_frontOf_54 1 rfl ?_
        refine z_iload_n hX dX5_frontOf_55 3 rfl ?_
        refine z_iload hX dX5_frontOf_56 0 rfl ?_
        rcases cellB_spec b y (frC x k) with ⟨fc, -⟩ | ⟨j, fj, fc, -⟩
        · skip
          refine z_callV1 hX (ok_X5_cell l hn) cv_RX5_99 zRc10 dX5_frontOf_58 (by decide) rfl rfl (Nat.le_of_ble_eq_true rfl) ?_
          refine z_isv fc ?_
          refine z_istore (lv' := [(7, _), (6, _), (0, _), (1, _), (2, _), (3, _), (4, _), (5, _)]) hX dX5_frontOf_61 (by decide) rfl ?_
          refine z_iload hX dX5_frontOf_63 0 rfl ?_
          refine z_if_lt (tgt := 84) hX dX5_frontOf_65 (by decide) (fun h65 => ?_) (fun h65 => absurd h65 (by decide))
          refine z_iload_n hX dX5_frontOf_84 5 rfl ?_
          refine z_istore_n (lv' := [(3, _), (7, _), (6, _), (0, _), (1, _), (2, _), (4, _), (5, _)]) hX dX5_frontOf_85 (by decide) rfl ?_
          refine z_iinc (v := nI (k + 1)) (lv' := [(5, _), (3, _), (7, _), (6, _), (0, _), (1, _), (2, _), (4, _)]) hX dX5_frontOf_86 7 rfl (nI_1 k) (by decide) rfl ?_
          refine z_goto (tgt := 26) hX dX5_frontOf_89 (by decide) ?_
          refine z_sub [4, 5, 6, 1, 7, 0] rfl ?_
          exact ih (k + 1) _ (by omega) hkn (by rw [froN, if_neg (fun q => absurd q.1 (by rw [fc]; decide))]; exact hs)
        · skip
          refine z_callV1 hX (ok_X5_cell l hn) cv_RX5_99 zRc10 dX5_frontOf_58 (by decide) rfl rfl (Nat.le_of_ble_eq_true rfl) ?_
          refine z_isv fc ?_
          refine z_istore (lv' := [(7, _), (6, _), (0, _), (1, _), (2, _), (3, _), (4, _), (5, _)]) hX dX5_frontOf_61 (by decide) rfl ?_
          refine z_iload hX dX5_frontOf_63 0 rfl ?_
          refine z_if_lt (tgt := 84) hX dX5_frontOf_65 (by decide) (fun h65 => absurd h65 (nn_i (by have := hn.1; omega))) (fun h65 => ?_)
          refine z_aload_n hX dX5_frontOf_68 2 rfl ?_
          refine z_iload hX dX5_frontOf_69 0 rfl ?_
          refine z_iconst (v := 0) hX dX5_frontOf_71 (by decide) ?_
          refine z_callV1 hX (ok_X5_of (w := 0) l (lt12 hn fj) (by decide)) cv_RX5_58 zRc10 dX5_frontOf_72 (by decide) rfl rfl (Nat.le_of_ble_eq_true rfl) ?_
          refine z_iload_n hX dX5_frontOf_75 3 rfl ?_
          refine z_icmp_ne (tgt := 84) hX dX5_frontOf_76 (by decide) (fun h76 => ?_) (fun h76 => ?_)
          · skip
            refine z_iload_n hX dX5_frontOf_84 5 rfl ?_
            refine z_istore_n (lv' := [(3, _), (7, _), (6, _), (0, _), (1, _), (2, _), (4, _), (5, _)]) hX dX5_frontOf_85 (by decide) rfl ?_
            refine z_iinc (v := nI (k + 1)) (lv' := [(5, _), (3, _), (7, _), (6, _), (0, _), (1, _), (2, _), (4, _)]) hX dX5_frontOf_86 7 rfl (nI_1 k) (by decide) rfl ?_
            refine z_goto (tgt := 26) hX dX5_frontOf_89 (by decide) ?_
            refine z_sub [4, 5, 6, 1, 7, 0] rfl ?_
            exact ih (k + 1) _ (by omega) hkn (by rw [froN, if_neg (fun q => h76 (by have := q.2; rw [fc, nI_clamp (by have := hn.1; omega)] at this; exact this))]; exact hs)
          · skip
            refine z_iload hX dX5_frontOf_79 1 rfl ?_
            refine z_goto (tgt := 85) hX dX5_frontOf_81 (by decide) ?_
            refine z_istore_n (lv' := [(3, _), (7, _), (6, _), (0, _), (1, _), (2, _), (4, _), (5, _)]) hX dX5_frontOf_85 (by decide) rfl ?_
            refine z_iinc (v := nI (k + 1)) (lv' := [(5, _), (3, _), (7, _), (6, _), (0, _), (1, _), (2, _), (4, _)]) hX dX5_frontOf_86 7 rfl (nI_1 k) (by decide) rfl ?_
            refine z_goto (tgt := 26) hX dX5_frontOf_89 (by decide) ?_
            refine z_sub [4, 5, 6, 1, 7, 0] rfl ?_
            exact ih (k + 1) _ (by omega) hkn (by rw [froN, if_pos ⟨by rw [fc]; exact ge_i (by have := hn.1; omega), by rw [fc, nI_clamp (by have := hn.1; omega)]; exact h76⟩])
  refine z_sub [3, 4, 5, 2, 1, 0] rfl ?_
  exact hL 10 0 (-1) (Nat.sub_zero _) (Nat.zero_le _) rfl
set_option maxHeartbeats 4000000 in
set_option maxRecDepth 100000 in
theorem go_X5_frontOf (l : Launch) {g : zG} {κ : zKp} {μ : zMu} {ω : zOm} {a b : Nat → Int32} {x y : Int32} (hn : bnI b) (hx : 0 ≤ x ∧ x ≤ 1) (hy : 0 ≤ y ∧ y ≤ 2) (h0 : ¬ 0 ≤ froN b x y 10) : zM l g yX5_frontOf cX5_frontOf 8 (some .int) 4 0 [.ref (gA g 10 0 0), .int x, .int y] κ (zN μ a b) ω κ (zN μ (upd a 2 2) b) ω (some (.int 0)) := by
  refine zM_of (by decide) (Nat.le_of_ble_eq_true rfl) (fun p e R s m args below meth c hX => ?_)
  show zZ p l e R s m args below meth c g 8 _ _ _ _ 0 0 [(0, .ref (gA g 10 0 0)), (1, .int x), (2, .int y)] []
  refine z_iconst (v := -1) hX dX5_frontOf_0 (by decide) ?_
  refine z_istore_n (lv' := [(3, _), (0, _), (1, _), (2, _)]) hX dX5_frontOf_1 (by decide) rfl ?_
  refine z_iload_n hX dX5_frontOf_2 2 rfl ?_
  refine z_callS1 hX (ok_X5_isSide l) cs_RX5_131 dX5_frontOf_3 (by decide) rfl rfl (Nat.le_of_ble_eq_true rfl) ?_
  refine z_isv (if_pos hx) ?_
  refine z_if_eq (tgt := 20) hX dX5_frontOf_6 (by decide) (fun h6 => absurd h6 (by decide)) (fun h6 => ?_)
  refine z_iload_n hX dX5_frontOf_9 3 rfl ?_
  refine z_callS1 hX (ok_X5_isLane l) cs_RX5_134 dX5_frontOf_10 (by decide) rfl rfl (Nat.le_of_ble_eq_true rfl) ?_
  refine z_isv (if_pos hy) ?_
  refine z_if_eq (tgt := 20) hX dX5_frontOf_13 (by decide) (fun h13 => absurd h13 (by decide)) (fun h13 => ?_)
  refine z_iconst (v := 1) hX dX5_frontOf_16 (by decide) ?_
  refine z_goto (tgt := 21) hX dX5_frontOf_17 (by decide) ?_
  refine z_istore (lv' := [(4, _), (3, _), (0, _), (1, _), (2, _)]) hX dX5_frontOf_21 (by decide) rfl ?_
  refine z_iconst (v := 0) hX dX5_frontOf_23 (by decide) ?_
  refine z_istore (lv' := [(5, _), (4, _), (3, _), (0, _), (1, _), (2, _)]) hX dX5_frontOf_24 (by decide) rfl ?_
  have hL : ∀ (dz : Nat) (k : Nat) (sv : Int32), 10 - k = dz → k ≤ 10 → sv = froN b x y k → zZ p l e R s m args below meth c g 8 (zQ g κ (zN μ (upd a 2 2) b) ω (some (.int 0)) below args s 0) κ (zN μ a b) ω 0 26 [(0, .ref (gA g 10 0 0)), (1, .int x), (2, .int y), (3, .int sv), (4, .int 1), (5, .int (nI k))] [] := by
    intro dz
    induction dz with
    | zero =>
      intro k sv hd hk hs
      have hkn : k = 10 := by omega
      refine z_iload hX dX5_frontOf_26 5 rfl ?_
      refine z_bipush (v := 10) hX dX5_frontOf_28 (by decide) ?_
      refine z_icmp_ge (tgt := 92) hX dX5_frontOf_30 (by decide) (fun h30 => ?_) (fun h30 => absurd h30 (Classical.not_not.mpr (le_i (a := 10) (b := k) (by omega) (by omega))))
      refine z_aload_n hX dX5_frontOf_92 0 rfl ?_
      refine z_iload hX dX5_frontOf_93 4 rfl ?_
      refine z_if_ne (tgt := 102) hX dX5_frontOf_95 (by decide) (fun h95 => ?_) (fun h95 => absurd h95 (by decide))
      refine z_iload_n hX dX5_frontOf_102 3 rfl ?_
      refine z_if_ge (tgt := 110) hX dX5_frontOf_103 (by decide) (fun h103 => absurd h103 (by rw [hs, hkn]; exact h0)) (fun h103 => ?_)
      refine z_iconst (v := 2) hX dX5_frontOf_106 (by decide) ?_
      refine z_goto (tgt := 111) hX dX5_frontOf_107 (by decide) ?_
      refine zp_X5_thrown hX   fl_RX5_42 dX5_frontOf_111 ?_
      refine z_aload_n hX dX5_frontOf_114 0 rfl ?_
      refine zg_X5_thrown hX   fl_RX5_42 dX5_frontOf_115 ?_
      refine z_isv (show _ = (2 : Int32) from rfl) ?_
      refine z_if_le (tgt := 125) hX dX5_frontOf_118 (by decide) (fun h118 => absurd h118 (by decide)) (fun h118 => ?_)
      refine z_iconst (v := 0) hX dX5_frontOf_121 (by decide) ?_
      refine z_goto (tgt := 126) hX dX5_frontOf_122 (by decide) ?_
      exact z_iretI hX dX5_frontOf_126 (by decide) rfl (fun _ h => h)
    | succ dz ih =>
      intro k sv hd hk hs
      have hkn : k < 10 := by omega
      refine z_iload hX dX5_frontOf_26 5 rfl ?_
      refine z_bipush (v := 10) hX dX5_frontOf_28 (by decide) ?_
      refine z_icmp_ge (tgt := 92) hX dX5_frontOf_30 (by decide) (fun h30 => absurd h30 (nle_i (a := k) (b := 10) hkn (by decide))) (fun h30 => ?_)
      refine z_iload hX dX5_frontOf_33 4 rfl ?_
      refine z_if_eq (tgt := 92) hX dX5_frontOf_35 (by decide) (fun h35 => absurd h35 (by decide)) (fun h35 => ?_)
      refine z_iload_n hX dX5_frontOf_38 1 rfl ?_
      refine z_if_ne (tgt := 47) hX dX5_frontOf_39 (by decide) (fun h39 => ?_) (fun h39 => ?_)
      · skip
        refine z_bipush (v := 9) hX dX5_frontOf_47 (by decide) ?_
        refine z_iload hX dX5_frontOf_49 5 rfl ?_
        refine z_isub hX dX5_frontOf_51 ?_
        refine z_isv (show _ = frC x k from (if_neg h39).symm) ?_
        refine z_istore (lv' := [(6, _), (0, _), (1, _), (2, _), (3, _), (4, _), (5, _)]) hX dX5_frontOf_52 (by decide) rfl ?_
        refine z_aload_n hX dX5_frontOf_54 1 rfl ?_
        refine z_iload_n hX dX5_frontOf_55 3 rfl ?_
        refine z_iload hX dX5_frontOf_56 0 rfl ?_
        rcases cellB_spec b y (frC x k) with ⟨fc, -⟩ | ⟨j, fj, fc, -⟩
        · skip
          refine z_callV1 hX (ok_X5_cell l hn) cv_RX5_99 zRc10 dX5_frontOf_58 (by decide) rfl rfl (Nat.le_of_ble_eq_true rfl) ?_
          refine z_isv fc ?_
          refine z_istore (lv' := [(7, _), (6, _), (0, _), (1, _), (2, _), (3, _), (4, _), (5, _)]) hX dX5_frontOf_61 (by decide) rfl ?_
          refine z_iload hX dX5_frontOf_63 0 rfl ?_
          refine z_if_lt (tgt := 84) hX dX5_frontOf_65 (by decide) (fun h65 => ?_) (fun h65 => absurd h65 (by decide))
          refine z_iload_n hX dX5_frontOf_84 5 rfl ?_
          refine z_istore_n (lv' := [(3, _), (7, _), (6, _), (0, _), (1, _), (2, _), (4, _), (5, _)]) hX dX5_frontOf_85 (by decide) rfl ?_
          refine z_iinc (v := nI (k + 1)) (lv' := [(5, _), (3, _), (7, _), (6, _), (0, _), (1, _), (2, _), (4, _)]) hX dX5_frontOf_86 7 rfl (nI_1 k) (by decide) rfl ?_
          refine z_goto (tgt := 26) hX dX5_frontOf_89 (by decide) ?_
          refine z_sub [4, 5, 6, 1, 7, 0] rfl ?_
          exact ih (k + 1) _ (by omega) hkn (by rw [froN, if_neg (fun q => absurd q.1 (by rw [fc]; decide))]; exact hs)
        · skip
          refine z_callV1 hX (ok_X5_cell l hn) cv_RX5_99 zRc10 dX5_frontOf_58 (by decide) rfl rfl (Nat.le_of_ble_eq_true rfl) ?_
          refine z_isv fc ?_
          refine z_istore (lv' := [(7, _), (6, _), (0, _), (1, _), (2, _), (3, _), (4, _), (5, _)]) hX dX5_frontOf_61 (by decide) rfl ?_
          refine z_iload hX dX5_frontOf_63 0 rfl ?_
          refine z_if_lt (tgt := 84) hX dX5_frontOf_65 (by decide) (fun h65 => absurd h65 (nn_i (by have := hn.1; omega))) (fun h65 => ?_)
          refine z_aload_n hX dX5_frontOf_68 2 rfl ?_
          refine z_iload hX dX5_frontOf_69 0 rfl ?_
          refine z_iconst (v := 0) hX dX5_frontOf_71 (by decide) ?_
          refine z_callV1 hX (ok_X5_of (w := 0) l (lt12 hn fj) (by decide)) cv_RX5_58 zRc10 dX5_frontOf_72 (by decide) rfl rfl (Nat.le_of_ble_eq_true rfl) ?_
          refine z_iload_n hX dX5_frontOf_75 3 rfl ?_
          refine z_icmp_ne (tgt := 84) hX dX5_frontOf_76 (by decide) (fun h76 => ?_) (fun h76 => ?_)
          · skip
            refine z_iload_n hX dX5_frontOf_84 5 rfl ?_
            refine z_istore_n (lv' := [(3, _), (7, _), (6, _), (0, _), (1, _), (2, _), (4, _), (5, _)]) hX dX5_frontOf_85 (by decide) rfl ?_
            refine z_iinc (v := nI (k + 1)) (lv' := [(5, _), (3, _), (7, _), (6, _), (0, _), (1, _), (2, _), (4, _)]) hX dX5_frontOf_86 7 rfl (nI_1 k) (by decide) rfl ?_
            refine z_goto (tgt := 26) hX dX5_frontOf_89 (by decide) ?_
            refine z_sub [4, 5, 6, 1, 7, 0] rfl ?_
            exact ih (k + 1) _ (by omega) hkn (by rw [froN, if_neg (fun q => h76 (by have := q.2; rw [fc, nI_clamp (by have := hn.1; omega)] at this; exact this))]; exact hs)
          · skip
            refine z_iload hX dX5_frontOf_79 1 rfl ?_
            refine z_goto (tgt := 85) hX dX5_frontOf_81 (by decide) ?_
            refine z_istore_n (lv' := [(3, _), (7, _), (6, _), (0, _), (1, _), (2, _), (4, _), (5, _)]) hX dX5_frontOf_85 (by decide) rfl ?_
            refine z_iinc (v := nI (k + 1)) (lv' := [(5, _), (3, _), (7, _), (6, _), (0, _), (1, _), (2, _), (4, _)]) hX dX5_frontOf_86 7 rfl (nI_1 k) (by decide) rfl ?_
            refine z_goto (tgt := 26) hX dX5_frontOf_89 (by decide) ?_
            refine z_sub [4, 5, 6, 1, 7, 0] rfl ?_
            exact ih (k + 1) _ (by omega) hkn (by rw [froN, if_pos ⟨by rw [fc]; exact ge_i (by have := hn.1; omega), by rw [fc, nI_clamp (by have := hn.1; omega)]; exact h76⟩])
      · skip
        refine z_iload hX dX5_frontOf_42 5 rfl ?_
        refine z_goto (tgt := 52) hX dX5_frontOf_44 (by decide) ?_
        refine z_isv (show _ = frC x k from (if_pos h39).symm) ?_
        refine z_istore (lv' := [(6, _), (0, _), (1, _), (2, _), (3, _), (4, _), (5, _)]) hX dX5_frontOf_52 (by decide) rfl ?_
        refine z_aload_n hX dX5_frontOf_54 1 rfl ?_
        refine z_iload_n hX dX5_frontOf_55 3 rfl ?_
        refine z_iload hX dX5_frontOf_56 0 rfl ?_
        rcases cellB_spec b y (frC x k) with ⟨fc, -⟩ | ⟨j, fj, fc, -⟩
        · skip
          refine z_callV1 hX (ok_X5_cell l hn) cv_RX5_99 zRc10 dX5_frontOf_58 (by decide) rfl rfl (Nat.le_of_ble_eq_true rfl) ?_
          refine z_isv fc ?_
          refine z_istore (lv' := [(7, _), (6, _), (0, _), (1, _), (2, _), (3, _), (4, _), (5, _)]) hX dX5_frontOf_61 (by decide) rfl ?_
          refine z_iload hX dX5_frontOf_63 0 rfl ?_
          refine z_if_lt (tgt := 84) hX dX5_frontOf_65 (by decide) (fun h65 => ?_) (fun h65 => absurd h65 (by decide))
          refine z_iload_n hX dX5_frontOf_84 5 rfl ?_
          refine z_istore_n (lv' := [(3, _), (7, _), (6, _), (0, _), (1, _), (2, _), (4, _), (5, _)]) hX dX5_frontOf_85 (by decide) rfl ?_
          refine z_iinc (v := nI (k + 1)) (lv' := [(5, _), (3, _), (7, _), (6, _), (0, _), (1, _), (2, _), (4, _)]) hX dX5_frontOf_86 7 rfl (nI_1 k) (by decide) rfl ?_
          refine z_goto (tgt := 26) hX dX5_frontOf_89 (by decide) ?_
          refine z_sub [4, 5, 6, 1, 7, 0] rfl ?_
          exact ih (k + 1) _ (by omega) hkn (by rw [froN, if_neg (fun q => absurd q.1 (by rw [fc]; decide))]; exact hs)
        · skip
          refine z_callV1 hX (ok_X5_cell l hn) cv_RX5_99 zRc10 dX5_frontOf_58 (by decide) rfl rfl (Nat.le_of_ble_eq_true rfl) ?_
          refine z_isv fc ?_
          refine z_istore (lv' := [(7, _), (6, _), (0, _), (1, _), (2, _), (3, _), (4, _), (5, _)]) hX dX5_frontOf_61 (by decide) rfl ?_
          refine z_iload hX dX5_frontOf_63 0 rfl ?_
          refine z_if_lt (tgt := 84) hX dX5_frontOf_65 (by decide) (fun h65 => absurd h65 (nn_i (by have := hn.1; omega))) (fun h65 => ?_)
          refine z_aload_n hX dX5_frontOf_68 2 rfl ?_
          refine z_iload hX dX5_frontOf_69 0 rfl ?_
          refine z_iconst (v := 0) hX dX5_frontOf_71 (by decide) ?_
          refine z_callV1 hX (ok_X5_of (w := 0) l (lt12 hn fj) (by decide)) cv_RX5_58 zRc10 dX5_frontOf_72 (by decide) rfl rfl (Nat.le_of_ble_eq_true rfl) ?_
          refine z_iload_n hX dX5_frontOf_75 3 rfl ?_
          refine z_icmp_ne (tgt := 84) hX dX5_frontOf_76 (by decide) (fun h76 => ?_) (fun h76 => ?_)
          · skip
            refine z_iload_n hX dX5_frontOf_84 5 rfl ?_
            refine z_istore_n (lv' := [(3, _), (7, _), (6, _), (0, _), (1, _), (2, _), (4, _), (5, _)]) hX dX5_frontOf_85 (by decide) rfl ?_
            refine z_iinc (v := nI (k + 1)) (lv' := [(5, _), (3, _), (7, _), (6, _), (0, _), (1, _), (2, _), (4, _)]) hX dX5_frontOf_86 7 rfl (nI_1 k) (by decide) rfl ?_
            refine z_goto (tgt := 26) hX dX5_frontOf_89 (by decide) ?_
            refine z_sub [4, 5, 6, 1, 7, 0] rfl ?_
            exact ih (k + 1) _ (by omega) hkn (by rw [froN, if_neg (fun q => h76 (by have := q.2; rw [fc, nI_clamp (by have := hn.1; omega)] at this; exact this))]; exact hs)
          · skip
            refine z_iload hX dX5_frontOf_79 1 rfl ?_
            refine z_goto (tgt := 85) hX dX5_frontOf_81 (by decide) ?_
            refine z_istore_n (lv' := [(3, _), (7, _), (6, _), (0, _), (1, _), (2, _), (4, _), (5, _)]) hX dX5_frontOf_85 (by decide) rfl ?_
            refine z_iinc (v := nI (k + 1)) (lv' := [(5, _), (3, _), (7, _), (6, _), (0, _), (1, _), (2, _), (4, _)]) hX dX5_frontOf_86 7 rfl (nI_1 k) (by decide) rfl ?_
            refine z_goto (tgt := 26) hX dX5_frontOf_89 (by decide) ?_
            refine z_sub [4, 5, 6, 1, 7, 0] rfl ?_
            exact ih (k + 1) _ (by omega) hkn (by rw [froN, if_pos ⟨by rw [fc]; exact ge_i (by have := hn.1; omega), by rw [fc, nI_clamp (by have := hn.1; omega)]; exact h76⟩])
  refine z_sub [3, 4, 5, 2, 1, 0] rfl ?_
  exact hL 10 0 (-1) (Nat.sub_zero _) (Nat.zero_le _) rfl
set_option maxHeartbeats 4000000 in
set_option maxRecDepth 100000 in
theorem no_X5_frontOf (l : Launch) {g : zG} {κ : zKp} {μ : zMu} {ω : zOm} {a b : Nat → Int32} {x y : Int32} (hx : ¬ ((0 ≤ x ∧ x ≤ 1) ∧ (0 ≤ y ∧ y ≤ 2))) : zM l g yX5_frontOf cX5_frontOf 8 (some .int) 4 0 [.ref (gA g 10 0 0), .int x, .int y] κ (zN μ a b) ω κ (zN μ (upd a 2 1) b) ω (some (.int 0)) := by
  refine zM_of (by decide) (Nat.le_of_ble_eq_true rfl) (fun p e R s m args below meth c hX => ?_)
  show zZ p l e R s m args below meth c g 8 _ _ _ _ 0 0 [(0, .ref (gA g 10 0 0)), (1, .int x), (2, .int y)] []
  refine z_iconst (v := -1) hX dX5_frontOf_0 (by decide) ?_
  refine z_istore_n (lv' := [(3, _), (0, _), (1, _), (2, _)]) hX dX5_frontOf_1 (by decide) rfl ?_
  refine z_iload_n hX dX5_frontOf_2 2 rfl ?_
  refine z_callS1 hX (ok_X5_isSide l) cs_RX5_131 dX5_frontOf_3 (by decide) rfl rfl (Nat.le_of_ble_eq_true rfl) ?_
  refine z_if_eqB (tgt := 20) hX dX5_frontOf_6 (by decide) (fun h6 => ?_) (fun h6 => ?_)
  · skip
    refine z_iconst (v := 0) hX dX5_frontOf_20 (by decide) ?_
    refine z_istore (lv' := [(4, _), (3, _), (0, _), (1, _), (2, _)]) hX dX5_frontOf_21 (by decide) rfl ?_
    refine z_iconst (v := 0) hX dX5_frontOf_23 (by decide) ?_
    refine z_istore (lv' := [(5, _), (4, _), (3, _), (0, _), (1, _), (2, _)]) hX dX5_frontOf_24 (by decide) rfl ?_
    refine z_iload hX dX5_frontOf_26 0 rfl ?_
    refine z_bipush (v := 10) hX dX5_frontOf_28 (by decide) ?_
    refine z_icmp_ge (tgt := 92) hX dX5_frontOf_30 (by decide) (fun h30 => absurd h30 (by decide)) (fun h30 => ?_)
    refine z_iload hX dX5_frontOf_33 1 rfl ?_
    refine z_if_eq (tgt := 92) hX dX5_frontOf_35 (by decide) (fun h35 => ?_) (fun h35 => absurd h35 (by decide))
    refine z_aload_n hX dX5_frontOf_92 3 rfl ?_
    refine z_iload hX dX5_frontOf_93 1 rfl ?_
    refine z_if_ne (tgt := 102) hX dX5_frontOf_95 (by decide) (fun h95 => absurd h95 (by decide)) (fun h95 => ?_)
    refine z_iconst (v := 1) hX dX5_frontOf_98 (by decide) ?_
    refine z_goto (tgt := 111) hX dX5_frontOf_99 (by decide) ?_
    refine zp_X5_thrown hX   fl_RX5_42 dX5_frontOf_111 ?_
    refine z_aload_n hX dX5_frontOf_114 3 rfl ?_
    refine zg_X5_thrown hX   fl_RX5_42 dX5_frontOf_115 ?_
    refine z_isv (show _ = (1 : Int32) from rfl) ?_
    refine z_if_le (tgt := 125) hX dX5_frontOf_118 (by decide) (fun h118 => absurd h118 (by decide)) (fun h118 => ?_)
    refine z_iconst (v := 0) hX dX5_frontOf_121 (by decide) ?_
    refine z_goto (tgt := 126) hX dX5_frontOf_122 (by decide) ?_
    exact z_iretI hX dX5_frontOf_126 (by decide) rfl (fun _ h => h)
  · skip
    refine z_iload_n hX dX5_frontOf_9 3 rfl ?_
    refine z_callS1 hX (ok_X5_isLane l) cs_RX5_134 dX5_frontOf_10 (by decide) rfl rfl (Nat.le_of_ble_eq_true rfl) ?_
    refine z_if_eqB (tgt := 20) hX dX5_frontOf_13 (by decide) (fun h13 => ?_) (fun h13 => absurd h13 (fun q => hx ⟨h6, q⟩))
    refine z_iconst (v := 0) hX dX5_frontOf_20 (by decide) ?_
    refine z_istore (lv' := [(4, _), (3, _), (0, _), (1, _), (2, _)]) hX dX5_frontOf_21 (by decide) rfl ?_
    refine z_iconst (v := 0) hX dX5_frontOf_23 (by decide) ?_
    refine z_istore (lv' := [(5, _), (4, _), (3, _), (0, _), (1, _), (2, _)]) hX dX5_frontOf_24 (by decide) rfl ?_
    refine z_iload hX dX5_frontOf_26 0 rfl ?_
    refine z_bipush (v := 10) hX dX5_frontOf_28 (by decide) ?_
    refine z_icmp_ge (tgt := 92) hX dX5_frontOf_30 (by decide) (fun h30 => absurd h30 (by decide)) (fun h30 => ?_)
    refine z_iload hX dX5_frontOf_33 1 rfl ?_
    refine z_if_eq (tgt := 92) hX dX5_frontOf_35 (by decide) (fun h35 => ?_) (fun h35 => absurd h35 (by decide))
    refine z_aload_n hX dX5_frontOf_92 3 rfl ?_
    refine z_iload hX dX5_frontOf_93 1 rfl ?_
    refine z_if_ne (tgt := 102) hX dX5_frontOf_95 (by decide) (fun h95 => absurd h95 (by decide)) (fun h95 => ?_)
    refine z_iconst (v := 1) hX dX5_frontOf_98 (by decide) ?_
    refine z_goto (tgt := 111) hX dX5_frontOf_99 (by decide) ?_
    refine zp_X5_thrown hX   fl_RX5_42 dX5_frontOf_111 ?_
    refine z_aload_n hX dX5_frontOf_114 3 rfl ?_
    refine zg_X5_thrown hX   fl_RX5_42 dX5_frontOf_115 ?_
    refine z_isv (show _ = (1 : Int32) from rfl) ?_
    refine z_if_le (tgt := 125) hX dX5_frontOf_118 (by decide) (fun h118 => absurd h118 (by decide)) (fun h118 => ?_)
    refine z_iconst (v := 0) hX dX5_frontOf_121 (by decide) ?_
    refine z_goto (tgt := 126) hX dX5_frontOf_122 (by decide) ?_
    exact z_iretI hX dX5_frontOf_126 (by decide) rfl (fun _ h => h)
end ZM3
