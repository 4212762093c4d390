section ZEM
set_option maxHeartbeats 4000000 in
set_option maxRecDepth 100000 in
theorem go_X5_enemyAhead (l : Launch) {g : zG} {κ : zKp} {μ : zMu} {ω : zOm} {a b : Nat → Int32} {i : Nat} (hn : bnI b) (hlt : i < bn b) (h7 : bf b i 7 = 2) : zM l g yX5_enemyAhead cX5_enemyAhead 6 (some .int) 4 0 [.ref (gA g 10 0 0), .int (nI i)] κ (zN μ a b) ω κ (zN μ (upd a 2 2) b) ω (some (.int 0)) := by
  refine zM_of (by decide) (Nat.le_of_ble_eq_true rfl) (fun p e R s m args below meth c hX => ?_)
  show zZ p l e R s m args below meth c g 6 _ _ _ _ 0 0 [(0, .ref (gA g 10 0 0)), (1, .int (nI i))] []
  refine z_iconst (v := -1) hX dX5_enemyAhead_0 (by decide) ?_
  refine z_istore_n (lv' := [(2, _), (0, _), (1, _)]) hX dX5_enemyAhead_1 (by decide) rfl ?_
  refine z_aload_n hX dX5_enemyAhead_2 1 rfl ?_
  refine z_iload_n hX dX5_enemyAhead_3 2 rfl ?_
  refine z_callV1 hX (go_asks l hn hlt h7) cv_RX5_176 zRc10 dX5_enemyAhead_4 (by decide) rfl rfl (Nat.le_of_ble_eq_true rfl) ?_
  refine z_istore_n (lv' := [(3, _), (2, _), (0, _), (1, _)]) hX dX5_enemyAhead_7 (by decide) rfl ?_
  refine z_iload_n hX dX5_enemyAhead_8 0 rfl ?_
  refine z_if_eq (tgt := 21) hX dX5_enemyAhead_9 (by decide) (fun h9 => ?_) (fun h9 => absurd h9 (by decide))
  refine z_iconst (v := -1) hX dX5_enemyAhead_21 (by decide) ?_
  refine z_istore (lv' := [(4, _), (3, _), (2, _), (0, _), (1, _)]) hX dX5_enemyAhead_22 (by decide) rfl ?_
  refine z_iload hX dX5_enemyAhead_24 0 rfl ?_
  refine z_callS1 hX (ok_X5_isColumn l) cs_RX5_102 dX5_enemyAhead_26 (by decide) rfl rfl (Nat.le_of_ble_eq_true rfl) ?_
  refine z_if_eqB (tgt := 80) hX dX5_enemyAhead_29 (by decide) (fun h29 => ?_) (fun h29 => absurd h29 (by decide))
  refine z_aload_n hX dX5_enemyAhead_80 3 rfl ?_
  refine z_aload_n hX dX5_enemyAhead_81 3 rfl ?_
  refine zg_X5_thrown hX   fl_RX5_42 dX5_enemyAhead_82 ?_
  refine z_isv (show _ = (2 : Int32) from rfl) ?_
  refine z_if_le (tgt := 95) hX dX5_enemyAhead_85 (by decide) (fun h85 => absurd h85 (by decide)) (fun h85 => ?_)
  refine z_aload_n hX dX5_enemyAhead_88 3 rfl ?_
  refine zg_X5_thrown hX   fl_RX5_42 dX5_enemyAhead_89 ?_
  refine z_isv (show _ = (2 : Int32) from rfl) ?_
  refine z_goto (tgt := 104) hX dX5_enemyAhead_92 (by decide) ?_
  refine zp_X5_thrown hX   fl_RX5_42 dX5_enemyAhead_104 ?_
  refine z_aload_n hX dX5_enemyAhead_107 3 rfl ?_
  refine zg_X5_thrown hX   fl_RX5_42 dX5_enemyAhead_108 ?_
  refine z_isv (show _ = (2 : Int32) from rfl) ?_
  refine z_if_le (tgt := 118) hX dX5_enemyAhead_111 (by decide) (fun h111 => absurd h111 (by decide)) (fun h111 => ?_)
  refine z_iconst (v := 0) hX dX5_enemyAhead_114 (by decide) ?_
  refine z_goto (tgt := 119) hX dX5_enemyAhead_115 (by decide) ?_
  exact z_iretI hX dX5_enemyAhead_119 (by decide) rfl (fun _ h => by rw [upd_2] at h; exact h)
set_option maxHeartbeats 4000000 in
set_option maxRecDepth 100000 in
theorem no_X5_enemyAhead (l : Launch) {g : zG} {κ : zKp} {μ : zMu} {ω : zOm} {a b : Nat → Int32} {x : Int32} (hx : ¬ (0 ≤ x ∧ x ≤ b 0 - 1))  : zM l g yX5_enemyAhead cX5_enemyAhead 6 (some .int) 4 0 [.ref (gA g 10 0 0), .int x] κ (zN μ a b) ω κ (zN μ (upd a 2 1) b) ω (some (.int 0)) := by
  refine zM_of (by decide) (Nat.le_of_ble_eq_true rfl) (fun p e R s m args below meth c hX => ?_)
  show zZ p l e R s m args below meth c g 6 _ _ _ _ 0 0 [(0, .ref (gA g 10 0 0)), (1, .int x)] []
  refine z_iconst (v := -1) hX dX5_enemyAhead_0 (by decide) ?_
  refine z_istore_n (lv' := [(2, _), (0, _), (1, _)]) hX dX5_enemyAhead_1 (by decide) rfl ?_
  refine z_aload_n hX dX5_enemyAhead_2 1 rfl ?_
  refine z_iload_n hX dX5_enemyAhead_3 2 rfl ?_
  refine z_callV1 hX (no_asks l hx) cv_RX5_176 zRc10 dX5_enemyAhead_4 (by decide) rfl rfl (Nat.le_of_ble_eq_true rfl) ?_
  refine z_istore_n (lv' := [(3, _), (2, _), (0, _), (1, _)]) hX dX5_enemyAhead_7 (by decide) rfl ?_
  refine z_iload_n hX dX5_enemyAhead_8 0 rfl ?_
  refine z_if_eq (tgt := 21) hX dX5_enemyAhead_9 (by decide) (fun h9 => ?_) (fun h9 => absurd h9 (by decide))
  refine z_iconst (v := -1) hX dX5_enemyAhead_21 (by decide) ?_
  refine z_istore (lv' := [(4, _), (3, _), (2, _), (0, _), (1, _)]) hX dX5_enemyAhead_22 (by decide) rfl ?_
  refine z_iload hX dX5_enemyAhead_24 0 rfl ?_
  refine z_callS1 hX (ok_X5_isColumn l) cs_RX5_102 dX5_enemyAhead_26 (by decide) rfl rfl (Nat.le_of_ble_eq_true rfl) ?_
  refine z_if_eqB (tgt := 80) hX dX5_enemyAhead_29 (by decide) (fun h29 => ?_) (fun h29 => absurd h29 (by decide))
  refine z_aload_n hX dX5_enemyAhead_80 3 rfl ?_
  refine z_aload_n hX dX5_enemyAhead_81 3 rfl ?_
  refine zg_X5_thrown hX   fl_RX5_42 dX5_enemyAhead_82 ?_
  refine z_isv (show _ = (1 : Int32) from rfl) ?_
  refine z_if_le (tgt := 95) hX dX5_enemyAhead_85 (by decide) (fun h85 => absurd h85 (by decide)) (fun h85 => ?_)
  refine z_aload_n hX dX5_enemyAhead_88 3 rfl ?_
  refine zg_X5_thrown hX   fl_RX5_42 dX5_enemyAhead_89 ?_
  refine z_isv (show _ = (1 : Int32) from rfl) ?_
  refine z_goto (tgt := 104) hX dX5_enemyAhead_92 (by decide) ?_
  refine zp_X5_thrown hX   fl_RX5_42 dX5_enemyAhead_104 ?_
  refine z_aload_n hX dX5_enemyAhead_107 3 rfl ?_
  refine zg_X5_thrown hX   fl_RX5_42 dX5_enemyAhead_108 ?_
  refine z_isv (show _ = (1 : Int32) from rfl) ?_
  refine z_if_le (tgt := 118) hX dX5_enemyAhead_111 (by decide) (fun h111 => absurd h111 (by decide)) (fun h111 => ?_)
  refine z_iconst (v := 0) hX dX5_enemyAhead_114 (by decide) ?_
  refine z_goto (tgt := 119) hX dX5_enemyAhead_115 (by decide) ?_
  exact z_iretI hX dX5_enemyAhead_119 (by decide) rfl (fun _ h => by rw [upd_2] at h; exact h)
set_option maxHeartbeats 4000000 in
set_option maxRecDepth 100000 in
theorem ok_X5_enemyByDistances (l : Launch) {g : zG} {κ : zKp} {μ : zMu} {ω : zOm} {a b : Nat → Int32} {i : Nat} (hW : batW b) (hlt : i < bn b) (h7 : ¬ bf b i 7 = 2) (h0 : 0 ≤ enB b i) : zM l g yX5_enemyByDistances cX5_enemyByDistances 2 (some .int) 6 0 [.ref (gA g 10 0 0), .int (nI i)] κ (zN μ a b) ω κ (zN μ (upd a 2 0) b) ω (some (.int (enB b i))) := by
  refine zM_of (by decide) (Nat.le_of_ble_eq_true rfl) (fun p e R s m args below meth c hX => ?_)
  show zZ p l e R s m args below meth c g 2 _ _ _ _ 0 0 [(0, .ref (gA g 10 0 0)), (1, .int (nI i))] []
  refine z_aload_n hX dX5_enemyByDistances_0 0 rfl ?_
  refine z_iload_n hX dX5_enemyByDistances_1 1 rfl ?_
  refine z_callV1 hX (ok_X5_enemyAhead l hW hlt h7 h0) cv_RX5_182 zRc10 dX5_enemyByDistances_2 (by decide) rfl rfl (Nat.le_of_ble_eq_true rfl) ?_
  exact z_iretI hX dX5_enemyByDistances_5 (by decide) rfl (fun _ h => h)
set_option maxHeartbeats 4000000 in
set_option maxRecDepth 100000 in
theorem em_X5_enemyByDistances (l : Launch) {g : zG} {κ : zKp} {μ : zMu} {ω : zOm} {a b : Nat → Int32} {i : Nat} (hW : batW b) (hlt : i < bn b) (h7 : ¬ bf b i 7 = 2) (h0 : ¬ 0 ≤ enB b i) : zM l g yX5_enemyByDistances cX5_enemyByDistances 2 (some .int) 6 0 [.ref (gA g 10 0 0), .int (nI i)] κ (zN μ a b) ω κ (zN μ (upd a 2 2) b) ω (some (.int 0)) := by
  refine zM_of (by decide) (Nat.le_of_ble_eq_true rfl) (fun p e R s m args below meth c hX => ?_)
  show zZ p l e R s m args below meth c g 2 _ _ _ _ 0 0 [(0, .ref (gA g 10 0 0)), (1, .int (nI i))] []
  refine z_aload_n hX dX5_enemyByDistances_0 0 rfl ?_
  refine z_iload_n hX dX5_enemyByDistances_1 1 rfl ?_
  refine z_callV1 hX (em_X5_enemyAhead l hW hlt h7 h0) cv_RX5_182 zRc10 dX5_enemyByDistances_2 (by decide) rfl rfl (Nat.le_of_ble_eq_true rfl) ?_
  exact z_iretI hX dX5_enemyByDistances_5 (by decide) rfl (fun _ h => h)
set_option maxHeartbeats 4000000 in
set_option maxRecDepth 100000 in
theorem go_X5_enemyByDistances (l : Launch) {g : zG} {κ : zKp} {μ : zMu} {ω : zOm} {a b : Nat → Int32} {i : Nat} (hn : bnI b) (hlt : i < bn b) (h7 : bf b i 7 = 2) : zM l g yX5_enemyByDistances cX5_enemyByDistances 2 (some .int) 6 0 [.ref (gA g 10 0 0), .int (nI i)] κ (zN μ a b) ω κ (zN μ (upd a 2 2) b) ω (some (.int 0)) := by
  refine zM_of (by decide) (Nat.le_of_ble_eq_true rfl) (fun p e R s m args below meth c hX => ?_)
  show zZ p l e R s m args below meth c g 2 _ _ _ _ 0 0 [(0, .ref (gA g 10 0 0)), (1, .int (nI i))] []
  refine z_aload_n hX dX5_enemyByDistances_0 0 rfl ?_
  refine z_iload_n hX dX5_enemyByDistances_1 1 rfl ?_
  refine z_callV1 hX (go_X5_enemyAhead l hn hlt h7) cv_RX5_182 zRc10 dX5_enemyByDistances_2 (by decide) rfl rfl (Nat.le_of_ble_eq_true rfl) ?_
  exact z_iretI hX dX5_enemyByDistances_5 (by decide) rfl (fun _ h => h)
set_option maxHeartbeats 4000000 in
set_option maxRecDepth 100000 in
theorem no_X5_enemyByDistances (l : Launch) {g : zG} {κ : zKp} {μ : zMu} {ω : zOm} {a b : Nat → Int32} {x : Int32} (hx : ¬ (0 ≤ x ∧ x ≤ b 0 - 1))  : zM l g yX5_enemyByDistances cX5_enemyByDistances 2 (some .int) 6 0 [.ref (gA g 10 0 0), .int x] κ (zN μ a b) ω κ (zN μ (upd a 2 1) b) ω (some (.int 0)) := by
  refine zM_of (by decide) (Nat.le_of_ble_eq_true rfl) (fun p e R s m args below meth c hX => ?_)
  show zZ p l e R s m args below meth c g 2 _ _ _ _ 0 0 [(0, .ref (gA g 10 0 0)), (1, .int x)] []
  refine z_aload_n hX dX5_enemyByDistances_0 0 rfl ?_
  refine z_iload_n hX dX5_enemyByDistances_1 1 rfl ?_
  refine z_callV1 hX (no_X5_enemyAhead l hx) cv_RX5_182 zRc10 dX5_enemyByDistances_2 (by decide) rfl rfl (Nat.le_of_ble_eq_true rfl) ?_
  exact z_iretI hX dX5_enemyByDistances_5 (by decide) rfl (fun _ h => h)
end ZEM
