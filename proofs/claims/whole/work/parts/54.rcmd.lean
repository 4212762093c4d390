section ZRC2
theorem m5 (m0 : Nat) : 5 * nI m0 = nI (5 * m0) := by rw [show (5 : Int32) = nI 5 from rfl, pk_mul]
theorem lk_l {a b d f : Int} : Op.lookupswitch.offset #[((108 : Int), a), (111, b), (114, d)].toList f ((108 : Int32).toInt) = a := by rw [show ((108 : Int32).toInt) = 108 by decide]; rfl
theorem lk_o {a b d f : Int} : Op.lookupswitch.offset #[((108 : Int), a), (111, b), (114, d)].toList f ((111 : Int32).toInt) = b := by rw [show ((111 : Int32).toInt) = 111 by decide]; rfl
theorem lk_r {a b d f : Int} : Op.lookupswitch.offset #[((108 : Int), a), (111, b), (114, d)].toList f ((114 : Int32).toInt) = d := by rw [show ((114 : Int32).toInt) = 114 by decide]; rfl
theorem lk_d {a b d f : Int} {x : Int32} (h1 : ¬ x = 108) (h2 : ¬ x = 111) (h3 : ¬ x = 114) : Op.lookupswitch.offset #[((108 : Int), a), (111, b), (114, d)].toList f x.toInt = f := by
  have q : ∀ z : Int32, ¬ x = z → ¬ z.toInt = x.toInt := fun z hz e => hz (Int32.toInt_inj.mp e.symm)
  have q1 := q 108 h1
  have q2 := q 111 h2
  have q3 := q 114 h3
  rw [show ((108 : Int32).toInt) = 108 by decide] at q1
  rw [show ((111 : Int32).toInt) = 111 by decide] at q2
  rw [show ((114 : Int32).toInt) = 114 by decide] at q3
  show Op.lookupswitch.offset [((108 : Int), a), (111, b), (114, d)] f x.toInt = f
  rw [Op.lookupswitch.offset_cons, if_neg q1, Op.lookupswitch.offset_cons, if_neg q2, Op.lookupswitch.offset_cons, if_neg q3]
  rfl
theorem zC_u {μ : zMu} {C : Nat → Int32} {q : Nat} {v : Int32} : zRm (zRm μ 8 C) 8 (upd (zRm μ 8 C 8) q v) = zRm μ 8 (upd C q v) := by
  funext w
  unfold zRm
  by_cases h : w = 8
  · rw [if_pos h, if_pos h, if_pos rfl]
  · rw [if_neg h, if_neg h, if_neg h]
set_option maxHeartbeats 4000000 in
set_option maxRecDepth 100000 in
theorem rc_l0 (l : Launch) {g : zG} {κ : zKp} {μ : zMu} {ω : zOm} {n0 p0 m0 : Nat} {a b y : Nat → Int32} (hY : μ 7 = y) (hn : n0 ≤ 60) (ha4 : a 4 = nI n0) (hp : p0 ≤ n0) (hm : 5 * m0 + 4 < 300) (hk : chAt y n0 p0 108) (h_w : ¬ (wdB y n0 (sB 38) p0).1 = true)  : zM l g yX5_readCommand cX5_readCommand 3 none 7 0 [.ref (gA g 10 0 0)] κ (zN μ (rT a p0 0 m0) b) ω κ (zN (zRm μ 8 (upd (upd (upd (upd (upd (μ 8) (5 * m0) (108)) (5 * m0 + 1) (0)) (5 * m0 + 2) (0)) (5 * m0 + 3) (bhB y n0 (wdB y n0 (sB 38) p0).2)) (5 * m0 + 4) (0))) (rT a ((wdB y n0 (sB 38) p0).2) 1 (m0 + 1)) b) ω none := by
  refine zM_of (by decide) (Nat.le_of_ble_eq_true rfl) (fun p e R s m args below meth c hX => ?_)
  show zZ p l e R s m args below meth c g 3 _ _ _ _ 0 0 [(0, .ref (gA g 10 0 0))] []
  refine z_aload_n hX dX5_readCommand_0 0 rfl ?_
  refine zg_X5_isWrong hX fl_RX5_207 dX5_readCommand_1 ?_
  refine z_isv (show _ = 0 from rfl) ?_
  refine z_if_eq (tgt := 8) hX dX5_readCommand_4 (by decide) (fun h4 => ?_) (fun h4 => absurd h4 (by decide))
  refine z_aload_n hX dX5_readCommand_8 0 rfl ?_
  refine z_callV1 hX (ok_behind l hY hn ha4 hp) cv_RX5_211 zRc10 dX5_readCommand_9 (by decide) rfl rfl (Nat.le_of_ble_eq_true rfl) ?_
  refine z_isv (bh_yes hk) ?_
  refine z_istore_n (lv' := [(1, _), (0, _)]) hX dX5_readCommand_12 (by decide) rfl ?_
  refine z_iconst (v := 5) hX dX5_readCommand_13 (by decide) ?_
  refine z_aload_n hX dX5_readCommand_14 1 rfl ?_
  refine zg_X5_commandMany hX fl_RX5_228 dX5_readCommand_15 ?_
  refine z_isv (show _ = nI (m0) from rfl) ?_
  refine z_imul hX dX5_readCommand_18 ?_
  refine z_isv (m5 m0) ?_
  refine z_istore_n (lv' := [(2, _), (1, _), (0, _)]) hX dX5_readCommand_19 (by decide) rfl ?_
  refine z_aload_n hX dX5_readCommand_20 2 rfl ?_
  refine z_dup hX dX5_readCommand_21 rfl ?_
  refine zg_X5_commandMany hX fl_RX5_228 dX5_readCommand_22 ?_
  refine z_isv (show _ = nI (m0) from rfl) ?_
  refine z_iconst (v := 1) hX dX5_readCommand_25 (by decide) ?_
  refine z_iadd hX dX5_readCommand_26 ?_
  refine z_isv (nI_1 m0) ?_
  refine zp_X5_commandMany hX  fl_RX5_228 dX5_readCommand_27 ?_
  rw [rT_9]
  refine z_aload_n hX dX5_readCommand_30 2 rfl ?_
  refine zg_X5_commands hX   fl_RX5_39 dX5_readCommand_31 ?_
  refine z_iload_n hX dX5_readCommand_34 0 rfl ?_
  refine z_iload_n hX dX5_readCommand_35 1 rfl ?_
  refine zs_commands hX (rfl) (by omega) dX5_readCommand_36 ?_
  refine z_iload_n hX dX5_readCommand_37 1 rfl ?_
  refine z_lookup (tgt := 72) hX dX5_readCommand_38 rfl lk_l (by decide) ?_
  refine z_aload_n hX dX5_readCommand_72 2 rfl ?_
  refine zk_ldc hX (i := 38) rfl dX5_readCommand_73 ?_
  refine z_callV0 hX (ok_skip l (y := y) (by exact hY) hn ha4 hp (by decide : 38 < 43)) cv_RX5_220 zRc10 dX5_readCommand_75 (by decide) rfl rfl (Nat.le_of_ble_eq_true rfl) ?_
  refine z_world (μ' := zN (zRm μ 8 (upd (μ 8) (5 * m0) (108))) (rT a ((wdB y n0 (sB 38) p0).2) 1 (m0 + 1)) b) (fun _ h => by rw [show wrB (wdB y n0 (sB 38) p0).1 = 1 by rw [wrB, if_neg h_w]] at h; exact h) ?_
  refine z_aload_n hX dX5_readCommand_78 2 rfl ?_
  refine zg_X5_commands hX   fl_RX5_39 dX5_readCommand_79 ?_
  refine z_iload_n hX dX5_readCommand_82 0 rfl ?_
  refine z_iconst (v := 1) hX dX5_readCommand_83 (by decide) ?_
  refine z_iadd hX dX5_readCommand_84 ?_
  refine z_aload_n hX dX5_readCommand_85 2 rfl ?_
  refine z_iconst (v := 1) hX dX5_readCommand_86 (by decide) ?_
  refine z_callV1 hX (wr_readNumber l (y := y) (by exact hY) hn ha4 (by decide)) cv_RX5_233 zRc10 dX5_readCommand_87 (by decide) rfl rfl (Nat.le_of_ble_eq_true rfl) ?_
  refine zs_commands hX (nI_add (5 * m0) 1) (by omega) dX5_readCommand_90 ?_
  rw [zC_u]
  refine z_aload_n hX dX5_readCommand_91 2 rfl ?_
  refine zg_X5_commands hX   fl_RX5_39 dX5_readCommand_92 ?_
  refine z_iload_n hX dX5_readCommand_95 0 rfl ?_
  refine z_iconst (v := 2) hX dX5_readCommand_96 (by decide) ?_
  refine z_iadd hX dX5_readCommand_97 ?_
  refine z_aload_n hX dX5_readCommand_98 2 rfl ?_
  refine z_iconst (v := 1) hX dX5_readCommand_99 (by decide) ?_
  refine z_callV1 hX (wr_readNumber l (y := y) (by exact hY) hn ha4 (by decide)) cv_RX5_233 zRc10 dX5_readCommand_100 (by decide) rfl rfl (Nat.le_of_ble_eq_true rfl) ?_
  refine zs_commands hX (nI_add (5 * m0) 2) (by omega) dX5_readCommand_103 ?_
  rw [zC_u]
  refine z_aload_n hX dX5_readCommand_104 2 rfl ?_
  refine zg_X5_commands hX   fl_RX5_39 dX5_readCommand_105 ?_
  refine z_iload_n hX dX5_readCommand_108 0 rfl ?_
  refine z_iconst (v := 3) hX dX5_readCommand_109 (by decide) ?_
  refine z_iadd hX dX5_readCommand_110 ?_
  refine z_aload_n hX dX5_readCommand_111 2 rfl ?_
  refine z_iconst (v := 1) hX dX5_readCommand_112 (by decide) ?_
  refine z_callV1 hX (wr_rl_k l (y := y) (by exact hY) hn ha4 (wd_le (y := y) (n0 := n0) (sB 38) p0 hp).2) cv_RX5_236 zRc10 dX5_readCommand_113 (by decide) rfl rfl (Nat.le_of_ble_eq_true rfl) ?_
  refine zs_commands hX (nI_add (5 * m0) 3) (by omega) dX5_readCommand_116 ?_
  rw [zC_u]
  refine z_aload_n hX dX5_readCommand_117 2 rfl ?_
  refine zg_X5_commands hX   fl_RX5_39 dX5_readCommand_118 ?_
  refine z_iload_n hX dX5_readCommand_121 0 rfl ?_
  refine z_iconst (v := 4) hX dX5_readCommand_122 (by decide) ?_
  refine z_iadd hX dX5_readCommand_123 ?_
  refine z_aload_n hX dX5_readCommand_124 2 rfl ?_
  refine z_iconst (v := 2) hX dX5_readCommand_125 (by decide) ?_
  refine z_callV1 hX (wr_readNumber l (y := y) (by exact hY) hn ha4 (by decide)) cv_RX5_233 zRc10 dX5_readCommand_126 (by decide) rfl rfl (Nat.le_of_ble_eq_true rfl) ?_
  refine zs_commands hX (nI_add (5 * m0) 4) (by omega) dX5_readCommand_129 ?_
  rw [zC_u]
  refine z_goto (tgt := 196) hX dX5_readCommand_130 (by decide) ?_
  exact z_vret hX dX5_readCommand_196 (by decide) (fun _ h => h)
set_option maxHeartbeats 4000000 in
set_option maxRecDepth 100000 in
theorem rc_l1 (l : Launch) {g : zG} {κ : zKp} {μ : zMu} {ω : zOm} {n0 p0 m0 : Nat} {a b y : Nat → Int32} (hY : μ 7 = y) (hn : n0 ≤ 60) (ha4 : a 4 = nI n0) (hp : p0 ≤ n0) (hm : 5 * m0 + 4 < 300) (hk : chAt y n0 p0 108) (h_w : (wdB y n0 (sB 38) p0).1 = true) (h_a : ¬ (n1B y n0 (wdB y n0 (sB 38) p0).2).1 = true)  : zM l g yX5_readCommand cX5_readCommand 3 none 7 0 [.ref (gA g 10 0 0)] κ (zN μ (rT a p0 0 m0) b) ω κ (zN (zRm μ 8 (upd (upd (upd (upd (upd (μ 8) (5 * m0) (108)) (5 * m0 + 1) (if (n1B y n0 (wdB y n0 (sB 38) p0).2).1 = true then (n1B y n0 (wdB y n0 (sB 38) p0).2).2.2 else 0)) (5 * m0 + 2) (0)) (5 * m0 + 3) (bhB y n0 (n1B y n0 (wdB y n0 (sB 38) p0).2).2.1)) (5 * m0 + 4) (0))) (rT a ((n1B y n0 (wdB y n0 (sB 38) p0).2).2.1) 1 (m0 + 1)) b) ω none := by
  refine zM_of (by decide) (Nat.le_of_ble_eq_true rfl) (fun p e R s m args below meth c hX => ?_)
  show zZ p l e R s m args below meth c g 3 _ _ _ _ 0 0 [(0, .ref (gA g 10 0 0))] []
  refine z_aload_n hX dX5_readCommand_0 0 rfl ?_
  refine zg_X5_isWrong hX fl_RX5_207 dX5_readCommand_1 ?_
  refine z_isv (show _ = 0 from rfl) ?_
  refine z_if_eq (tgt := 8) hX dX5_readCommand_4 (by decide) (fun h4 => ?_) (fun h4 => absurd h4 (by decide))
  refine z_aload_n hX dX5_readCommand_8 0 rfl ?_
  refine z_callV1 hX (ok_behind l hY hn ha4 hp) cv_RX5_211 zRc10 dX5_readCommand_9 (by decide) rfl rfl (Nat.le_of_ble_eq_true rfl) ?_
  refine z_isv (bh_yes hk) ?_
  refine z_istore_n (lv' := [(1, _), (0, _)]) hX dX5_readCommand_12 (by decide) rfl ?_
  refine z_iconst (v := 5) hX dX5_readCommand_13 (by decide) ?_
  refine z_aload_n hX dX5_readCommand_14 1 rfl ?_
  refine zg_X5_commandMany hX fl_RX5_228 dX5_readCommand_15 ?_
  refine z_isv (show _ = nI (m0) from rfl) ?_
  refine z_imul hX dX5_readCommand_18 ?_
  refine z_isv (m5 m0) ?_
  refine z_istore_n (lv' := [(2, _), (1, _), (0, _)]) hX dX5_readCommand_19 (by decide) rfl ?_
  refine z_aload_n hX dX5_readCommand_20 2 rfl ?_
  refine z_dup hX dX5_readCommand_21 rfl ?_
  refine zg_X5_commandMany hX fl_RX5_228 dX5_readCommand_22 ?_
  refine z_isv (show _ = nI (m0) from rfl) ?_
  refine z_iconst (v := 1) hX dX5_readCommand_25 (by decide) ?_
  refine z_iadd hX dX5_readCommand_26 ?_
  refine z_isv (nI_1 m0) ?_
  refine zp_X5_commandMany hX  fl_RX5_228 dX5_readCommand_27 ?_
  rw [rT_9]
  refine z_aload_n hX dX5_readCommand_30 2 rfl ?_
  refine zg_X5_commands hX   fl_RX5_39 dX5_readCommand_31 ?_
  refine z_iload_n hX dX5_readCommand_34 0 rfl ?_
  refine z_iload_n hX dX5_readCommand_35 1 rfl ?_
  refine zs_commands hX (rfl) (by omega) dX5_readCommand_36 ?_
  refine z_iload_n hX dX5_readCommand_37 1 rfl ?_
  refine z_lookup (tgt := 72) hX dX5_readCommand_38 rfl lk_l (by decide) ?_
  refine z_aload_n hX dX5_readCommand_72 2 rfl ?_
  refine zk_ldc hX (i := 38) rfl dX5_readCommand_73 ?_
  refine z_callV0 hX (ok_skip l (y := y) (by exact hY) hn ha4 hp (by decide : 38 < 43)) cv_RX5_220 zRc10 dX5_readCommand_75 (by decide) rfl rfl (Nat.le_of_ble_eq_true rfl) ?_
  refine z_world (μ' := zN (zRm μ 8 (upd (μ 8) (5 * m0) (108))) (rT a ((wdB y n0 (sB 38) p0).2) 0 (m0 + 1)) b) (fun _ h => by rw [show wrB (wdB y n0 (sB 38) p0).1 = 0 by rw [wrB, if_pos h_w]] at h; exact h) ?_
  refine z_aload_n hX dX5_readCommand_78 2 rfl ?_
  refine zg_X5_commands hX   fl_RX5_39 dX5_readCommand_79 ?_
  refine z_iload_n hX dX5_readCommand_82 0 rfl ?_
  refine z_iconst (v := 1) hX dX5_readCommand_83 (by decide) ?_
  refine z_iadd hX dX5_readCommand_84 ?_
  refine z_aload_n hX dX5_readCommand_85 2 rfl ?_
  refine z_iconst (v := 1) hX dX5_readCommand_86 (by decide) ?_
  refine z_callV1 hX (ok_rn1 l (y := y) (by exact hY) hn ha4 (wd_le (y := y) (n0 := n0) (sB 38) p0 hp).2) cv_RX5_233 zRc10 dX5_readCommand_87 (by decide) rfl rfl (Nat.le_of_ble_eq_true rfl) ?_
  refine z_world (μ' := zN (zRm μ 8 (upd (μ 8) (5 * m0) (108))) (rT a ((n1B y n0 (wdB y n0 (sB 38) p0).2).2.1) 1 (m0 + 1)) b) (fun _ h => by rw [show wrB (n1B y n0 (wdB y n0 (sB 38) p0).2).1 = 1 by rw [wrB, if_neg h_a]] at h; exact h) ?_
  refine zs_commands hX (nI_add (5 * m0) 1) (by omega) dX5_readCommand_90 ?_
  rw [zC_u]
  refine z_aload_n hX dX5_readCommand_91 2 rfl ?_
  refine zg_X5_commands hX   fl_RX5_39 dX5_readCommand_92 ?_
  refine z_iload_n hX dX5_readCommand_95 0 rfl ?_
  refine z_iconst (v := 2) hX dX5_readCommand_96 (by decide) ?_
  refine z_iadd hX dX5_readCommand_97 ?_
  refine z_aload_n hX dX5_readCommand_98 2 rfl ?_
  refine z_iconst (v := 1) hX dX5_readCommand_99 (by decide) ?_
  refine z_callV1 hX (wr_readNumber l (y := y) (by exact hY) hn ha4 (by decide)) cv_RX5_233 zRc10 dX5_readCommand_100 (by decide) rfl rfl (Nat.le_of_ble_eq_true rfl) ?_
  refine zs_commands hX (nI_add (5 * m0) 2) (by omega) dX5_readCommand_103 ?_
  rw [zC_u]
  refine z_aload_n hX dX5_readCommand_104 2 rfl ?_
  refine zg_X5_commands hX   fl_RX5_39 dX5_readCommand_105 ?_
  refine z_iload_n hX dX5_readCommand_108 0 rfl ?_
  refine z_iconst (v := 3) hX dX5_readCommand_109 (by decide) ?_
  refine z_iadd hX dX5_readCommand_110 ?_
  refine z_aload_n hX dX5_readCommand_111 2 rfl ?_
  refine z_iconst (v := 1) hX dX5_readCommand_112 (by decide) ?_
  refine z_callV1 hX (wr_rl_k l (y := y) (by exact hY) hn ha4 (n1_le (y := y) (wd_le (y := y) (n0 := n0) (sB 38) p0 hp).2).2) cv_RX5_236 zRc10 dX5_readCommand_113 (by decide) rfl rfl (Nat.le_of_ble_eq_true rfl) ?_
  refine zs_commands hX (nI_add (5 * m0) 3) (by omega) dX5_readCommand_116 ?_
  rw [zC_u]
  refine z_aload_n hX dX5_readCommand_117 2 rfl ?_
  refine zg_X5_commands hX   fl_RX5_39 dX5_readCommand_118 ?_
  refine z_iload_n hX dX5_readCommand_121 0 rfl ?_
  refine z_iconst (v := 4) hX dX5_readCommand_122 (by decide) ?_
  refine z_iadd hX dX5_readCommand_123 ?_
  refine z_aload_n hX dX5_readCommand_124 2 rfl ?_
  refine z_iconst (v := 2) hX dX5_readCommand_125 (by decide) ?_
  refine z_callV1 hX (wr_readNumber l (y := y) (by exact hY) hn ha4 (by decide)) cv_RX5_233 zRc10 dX5_readCommand_126 (by decide) rfl rfl (Nat.le_of_ble_eq_true rfl) ?_
  refine zs_commands hX (nI_add (5 * m0) 4) (by omega) dX5_readCommand_129 ?_
  rw [zC_u]
  refine z_goto (tgt := 196) hX dX5_readCommand_130 (by decide) ?_
  exact z_vret hX dX5_readCommand_196 (by decide) (fun _ h => h)
set_option maxHeartbeats 4000000 in
set_option maxRecDepth 100000 in
theorem rc_l2 (l : Launch) {g : zG} {κ : zKp} {μ : zMu} {ω : zOm} {n0 p0 m0 : Nat} {a b y : Nat → Int32} (hY : μ 7 = y) (hn : n0 ≤ 60) (ha4 : a 4 = nI n0) (hp : p0 ≤ n0) (hm : 5 * m0 + 4 < 300) (hk : chAt y n0 p0 108) (h_w : (wdB y n0 (sB 38) p0).1 = true) (h_a : (n1B y n0 (wdB y n0 (sB 38) p0).2).1 = true) (h_b : ¬ (n1B y n0 (n1B y n0 (wdB y n0 (sB 38) p0).2).2.1).1 = true)  : zM l g yX5_readCommand cX5_readCommand 3 none 7 0 [.ref (gA g 10 0 0)] κ (zN μ (rT a p0 0 m0) b) ω κ (zN (zRm μ 8 (upd (upd (upd (upd (upd (μ 8) (5 * m0) (108)) (5 * m0 + 1) (if (n1B y n0 (wdB y n0 (sB 38) p0).2).1 = true then (n1B y n0 (wdB y n0 (sB 38) p0).2).2.2 else 0)) (5 * m0 + 2) (if (n1B y n0 (n1B y n0 (wdB y n0 (sB 38) p0).2).2.1).1 = true then (n1B y n0 (n1B y n0 (wdB y n0 (sB 38) p0).2).2.1).2.2 else 0)) (5 * m0 + 3) (bhB y n0 (n1B y n0 (n1B y n0 (wdB y n0 (sB 38) p0).2).2.1).2.1)) (5 * m0 + 4) (0))) (rT a ((n1B y n0 (n1B y n0 (wdB y n0 (sB 38) p0).2).2.1).2.1) 1 (m0 + 1)) b) ω none := by
  refine zM_of (by decide) (Nat.le_of_ble_eq_true rfl) (fun p e R s m args below meth c hX => ?_)
  show zZ p l e R s m args below meth c g 3 _ _ _ _ 0 0 [(0, .ref (gA g 10 0 0))] []
  refine z_aload_n hX dX5_readCommand_0 0 rfl ?_
  refine zg_X5_isWrong hX fl_RX5_207 dX5_readCommand_1 ?_
  refine z_isv (show _ = 0 from rfl) ?_
  refine z_if_eq (tgt := 8) hX dX5_readCommand_4 (by decide) (fun h4 => ?_) (fun h4 => absurd h4 (by decide))
  refine z_aload_n hX dX5_readCommand_8 0 rfl ?_
  refine z_callV1 hX (ok_behind l hY hn ha4 hp) cv_RX5_211 zRc10 dX5_readCommand_9 (by decide) rfl rfl (Nat.le_of_ble_eq_true rfl) ?_
  refine z_isv (bh_yes hk) ?_
  refine z_istore_n (lv' := [(1, _), (0, _)]) hX dX5_readCommand_12 (by decide) rfl ?_
  refine z_iconst (v := 5) hX dX5_readCommand_13 (by decide) ?_
  refine z_aload_n hX dX5_readCommand_14 1 rfl ?_
  refine zg_X5_commandMany hX fl_RX5_228 dX5_readCommand_15 ?_
  refine z_isv (show _ = nI (m0) from rfl) ?_
  refine z_imul hX dX5_readCommand_18 ?_
  refine z_isv (m5 m0) ?_
  refine z_istore_n (lv' := [(2, _), (1, _), (0, _)]) hX dX5_readCommand_19 (by decide) rfl ?_
  refine z_aload_n hX dX5_readCommand_20 2 rfl ?_
  refine z_dup hX dX5_readCommand_21 rfl ?_
  refine zg_X5_commandMany hX fl_RX5_228 dX5_readCommand_22 ?_
  refine z_isv (show _ = nI (m0) from rfl) ?_
  refine z_iconst (v := 1) hX dX5_readCommand_25 (by decide) ?_
  refine z_iadd hX dX5_readCommand_26 ?_
  refine z_isv (nI_1 m0) ?_
  refine zp_X5_commandMany hX  fl_RX5_228 dX5_readCommand_27 ?_
  rw [rT_9]
  refine z_aload_n hX dX5_readCommand_30 2 rfl ?_
  refine zg_X5_commands hX   fl_RX5_39 dX5_readCommand_31 ?_
  refine z_iload_n hX dX5_readCommand_34 0 rfl ?_
  refine z_iload_n hX dX5_readCommand_35 1 rfl ?_
  refine zs_commands hX (rfl) (by omega) dX5_readCommand_36 ?_
  refine z_iload_n hX dX5_readCommand_37 1 rfl ?_
  refine z_lookup (tgt := 72) hX dX5_readCommand_38 rfl lk_l (by decide) ?_
  refine z_aload_n hX dX5_readCommand_72 2 rfl ?_
  refine zk_ldc hX (i := 38) rfl dX5_readCommand_73 ?_
  refine z_callV0 hX (ok_skip l (y := y) (by exact hY) hn ha4 hp (by decide : 38 < 43)) cv_RX5_220 zRc10 dX5_readCommand_75 (by decide) rfl rfl (Nat.le_of_ble_eq_true rfl) ?_
  refine z_world (μ' := zN (zRm μ 8 (upd (μ 8) (5 * m0) (108))) (rT a ((wdB y n0 (sB 38) p0).2) 0 (m0 + 1)) b) (fun _ h => by rw [show wrB (wdB y n0 (sB 38) p0).1 = 0 by rw [wrB, if_pos h_w]] at h; exact h) ?_
  refine z_aload_n hX dX5_readCommand_78 2 rfl ?_
  refine zg_X5_commands hX   fl_RX5_39 dX5_readCommand_79 ?_
  refine z_iload_n hX dX5_readCommand_82 0 rfl ?_
  refine z_iconst (v := 1) hX dX5_readCommand_83 (by decide) ?_
  refine z_iadd hX dX5_readCommand_84 ?_
  refine z_aload_n hX dX5_readCommand_85 2 rfl ?_
  refine z_iconst (v := 1) hX dX5_readCommand_86 (by decide) ?_
  refine z_callV1 hX (ok_rn1 l (y := y) (by exact hY) hn ha4 (wd_le (y := y) (n0 := n0) (sB 38) p0 hp).2) cv_RX5_233 zRc10 dX5_readCommand_87 (by decide) rfl rfl (Nat.le_of_ble_eq_true rfl) ?_
  refine z_world (μ' := zN (zRm μ 8 (upd (μ 8) (5 * m0) (108))) (rT a ((n1B y n0 (wdB y n0 (sB 38) p0).2).2.1) 0 (m0 + 1)) b) (fun _ h => by rw [show wrB (n1B y n0 (wdB y n0 (sB 38) p0).2).1 = 0 by rw [wrB, if_pos h_a]] at h; exact h) ?_
  refine zs_commands hX (nI_add (5 * m0) 1) (by omega) dX5_readCommand_90 ?_
  rw [zC_u]
  refine z_aload_n hX dX5_readCommand_91 2 rfl ?_
  refine zg_X5_commands hX   fl_RX5_39 dX5_readCommand_92 ?_
  refine z_iload_n hX dX5_readCommand_95 0 rfl ?_
  refine z_iconst (v := 2) hX dX5_readCommand_96 (by decide) ?_
  refine z_iadd hX dX5_readCommand_97 ?_
  refine z_aload_n hX dX5_readCommand_98 2 rfl ?_
  refine z_iconst (v := 1) hX dX5_readCommand_99 (by decide) ?_
  refine z_callV1 hX (ok_rn1 l (y := y) (by exact hY) hn ha4 (n1_le (y := y) (wd_le (y := y) (n0 := n0) (sB 38) p0 hp).2).2) cv_RX5_233 zRc10 dX5_readCommand_100 (by decide) rfl rfl (Nat.le_of_ble_eq_true rfl) ?_
  refine z_world (μ' := zN (zRm μ 8 (upd (upd (μ 8) (5 * m0) (108)) (5 * m0 + 1) (if (n1B y n0 (wdB y n0 (sB 38) p0).2).1 = true then (n1B y n0 (wdB y n0 (sB 38) p0).2).2.2 else 0))) (rT a ((n1B y n0 (n1B y n0 (wdB y n0 (sB 38) p0).2).2.1).2.1) 1 (m0 + 1)) b) (fun _ h => by rw [show wrB (n1B y n0 (n1B y n0 (wdB y n0 (sB 38) p0).2).2.1).1 = 1 by rw [wrB, if_neg h_b]] at h; exact h) ?_
  refine zs_commands hX (nI_add (5 * m0) 2) (by omega) dX5_readCommand_103 ?_
  rw [zC_u]
  refine z_aload_n hX dX5_readCommand_104 2 rfl ?_
  refine zg_X5_commands hX   fl_RX5_39 dX5_readCommand_105 ?_
  refine z_iload_n hX dX5_readCommand_108 0 rfl ?_
  refine z_iconst (v := 3) hX dX5_readCommand_109 (by decide) ?_
  refine z_iadd hX dX5_readCommand_110 ?_
  refine z_aload_n hX dX5_readCommand_111 2 rfl ?_
  refine z_iconst (v := 1) hX dX5_readCommand_112 (by decide) ?_
  refine z_callV1 hX (wr_rl_k l (y := y) (by exact hY) hn ha4 (n1_le (y := y) (n1_le (y := y) (wd_le (y := y) (n0 := n0) (sB 38) p0 hp).2).2).2) cv_RX5_236 zRc10 dX5_readCommand_113 (by decide) rfl rfl (Nat.le_of_ble_eq_true rfl) ?_
  refine zs_commands hX (nI_add (5 * m0) 3) (by omega) dX5_readCommand_116 ?_
  rw [zC_u]
  refine z_aload_n hX dX5_readCommand_117 2 rfl ?_
  refine zg_X5_commands hX   fl_RX5_39 dX5_readCommand_118 ?_
  refine z_iload_n hX dX5_readCommand_121 0 rfl ?_
  refine z_iconst (v := 4) hX dX5_readCommand_122 (by decide) ?_
  refine z_iadd hX dX5_readCommand_123 ?_
  refine z_aload_n hX dX5_readCommand_124 2 rfl ?_
  refine z_iconst (v := 2) hX dX5_readCommand_125 (by decide) ?_
  refine z_callV1 hX (wr_readNumber l (y := y) (by exact hY) hn ha4 (by decide)) cv_RX5_233 zRc10 dX5_readCommand_126 (by decide) rfl rfl (Nat.le_of_ble_eq_true rfl) ?_
  refine zs_commands hX (nI_add (5 * m0) 4) (by omega) dX5_readCommand_129 ?_
  rw [zC_u]
  refine z_goto (tgt := 196) hX dX5_readCommand_130 (by decide) ?_
  exact z_vret hX dX5_readCommand_196 (by decide) (fun _ h => h)
set_option maxHeartbeats 4000000 in
set_option maxRecDepth 100000 in
theorem rc_l3 (l : Launch) {g : zG} {κ : zKp} {μ : zMu} {ω : zOm} {n0 p0 m0 : Nat} {a b y : Nat → Int32} (hY : μ 7 = y) (hn : n0 ≤ 60) (ha4 : a 4 = nI n0) (hp : p0 ≤ n0) (hm : 5 * m0 + 4 < 300) (hk : chAt y n0 p0 108) (h_w : (wdB y n0 (sB 38) p0).1 = true) (h_a : (n1B y n0 (wdB y n0 (sB 38) p0).2).1 = true) (h_b : (n1B y n0 (n1B y n0 (wdB y n0 (sB 38) p0).2).2.1).1 = true) (h_d : ¬ (sgB kinO y n0 (n1B y n0 (n1B y n0 (wdB y n0 (sB 38) p0).2).2.1).2.1 0).1 = true)  : zM l g yX5_readCommand cX5_readCommand 3 none 7 0 [.ref (gA g 10 0 0)] κ (zN μ (rT a p0 0 m0) b) ω κ (zN (zRm μ 8 (upd (upd (upd (upd (upd (μ 8) (5 * m0) (108)) (5 * m0 + 1) (if (n1B y n0 (wdB y n0 (sB 38) p0).2).1 = true then (n1B y n0 (wdB y n0 (sB 38) p0).2).2.2 else 0)) (5 * m0 + 2) (if (n1B y n0 (n1B y n0 (wdB y n0 (sB 38) p0).2).2.1).1 = true then (n1B y n0 (n1B y n0 (wdB y n0 (sB 38) p0).2).2.1).2.2 else 0)) (5 * m0 + 3) (rlB y n0 (n1B y n0 (n1B y n0 (wdB y n0 (sB 38) p0).2).2.1).2.1)) (5 * m0 + 4) (0))) (rT a ((sgB kinO y n0 (n1B y n0 (n1B y n0 (wdB y n0 (sB 38) p0).2).2.1).2.1 0).2.1) 1 (m0 + 1)) b) ω none := by
  refine zM_of (by decide) (Nat.le_of_ble_eq_true rfl) (fun p e R s m args below meth c hX => ?_)
  show zZ p l e R s m args below meth c g 3 _ _ _ _ 0 0 [(0, .ref (gA g 10 0 0))] []
  refine z_aload_n hX dX5_readCommand_0 0 rfl ?_
  refine zg_X5_isWrong hX fl_RX5_207 dX5_readCommand_1 ?_
  refine z_isv (show _ = 0 from rfl) ?_
  refine z_if_eq (tgt := 8) hX dX5_readCommand_4 (by decide) (fun h4 => ?_) (fun h4 => absurd h4 (by decide))
  refine z_aload_n hX dX5_readCommand_8 0 rfl ?_
  refine z_callV1 hX (ok_behind l hY hn ha4 hp) cv_RX5_211 zRc10 dX5_readCommand_9 (by decide) rfl rfl (Nat.le_of_ble_eq_true rfl) ?_
  refine z_isv (bh_yes hk) ?_
  refine z_istore_n (lv' := [(1, _), (0, _)]) hX dX5_readCommand_12 (by decide) rfl ?_
  refine z_iconst (v := 5) hX dX5_readCommand_13 (by decide) ?_
  refine z_aload_n hX dX5_readCommand_14 1 rfl ?_
  refine zg_X5_commandMany hX fl_RX5_228 dX5_readCommand_15 ?_
  refine z_isv (show _ = nI (m0) from rfl) ?_
  refine z_imul hX dX5_readCommand_18 ?_
  refine z_isv (m5 m0) ?_
  refine z_istore_n (lv' := [(2, _), (1, _), (0, _)]) hX dX5_readCommand_19 (by decide) rfl ?_
  refine z_aload_n hX dX5_readCommand_20 2 rfl ?_
  refine z_dup hX dX5_readCommand_21 rfl ?_
  refine zg_X5_commandMany hX fl_RX5_228 dX5_readCommand_22 ?_
  refine z_isv (show _ = nI (m0) from rfl) ?_
  refine z_iconst (v := 1) hX dX5_readCommand_25 (by decide) ?_
  refine z_iadd hX dX5_readCommand_26 ?_
  refine z_isv (nI_1 m0) ?_
  refine zp_X5_commandMany hX  fl_RX5_228 dX5_readCommand_27 ?_
  rw [rT_9]
  refine z_aload_n hX dX5_readCommand_30 2 rfl ?_
  refine zg_X5_commands hX   fl_RX5_39 dX5_readCommand_31 ?_
  refine z_iload_n hX dX5_readCommand_34 0 rfl ?_
  refine z_iload_n hX dX5_readCommand_35 1 rfl ?_
  refine zs_commands hX (rfl) (by omega) dX5_readCommand_36 ?_
  refine z_iload_n hX dX5_readCommand_37 1 rfl ?_
  refine z_lookup (tgt := 72) hX dX5_readCommand_38 rfl lk_l (by decide) ?_
  refine z_aload_n hX dX5_readCommand_72 2 rfl ?_
  refine zk_ldc hX (i := 38) rfl dX5_readCommand_73 ?_
  refine z_callV0 hX (ok_skip l (y := y) (by exact hY) hn ha4 hp (by decide : 38 < 43)) cv_RX5_220 zRc10 dX5_readCommand_75 (by decide) rfl rfl (Nat.le_of_ble_eq_true rfl) ?_
  refine z_world (μ' := zN (zRm μ 8 (upd (μ 8) (5 * m0) (108))) (rT a ((wdB y n0 (sB 38) p0).2) 0 (m0 + 1)) b) (fun _ h => by rw [show wrB (wdB y n0 (sB 38) p0).1 = 0 by rw [wrB, if_pos h_w]] at h; exact h) ?_
  refine z_aload_n hX dX5_readCommand_78 2 rfl ?_
  refine zg_X5_commands hX   fl_RX5_39 dX5_readCommand_79 ?_
  refine z_iload_n hX dX5_readCommand_82 0 rfl ?_
  refine z_iconst (v := 1) hX dX5_readCommand_83 (by decide) ?_
  refine z_iadd hX dX5_readCommand_84 ?_
  refine z_aload_n hX dX5_readCommand_85 2 rfl ?_
  refine z_iconst (v := 1) hX dX5_readCommand_86 (by decide) ?_
  refine z_callV1 hX (ok_rn1 l (y := y) (by exact hY) hn ha4 (wd_le (y := y) (n0 := n0) (sB 38) p0 hp).2) cv_RX5_233 zRc10 dX5_readCommand_87 (by decide) rfl rfl (Nat.le_of_ble_eq_true rfl) ?_
  refine z_world (μ' := zN (zRm μ 8 (upd (μ 8) (5 * m0) (108))) (rT a ((n1B y n0 (wdB y n0 (sB 38) p0).2).2.1) 0 (m0 + 1)) b) (fun _ h => by rw [show wrB (n1B y n0 (wdB y n0 (sB 38) p0).2).1 = 0 by rw [wrB, if_pos h_a]] at h; exact h) ?_
  refine zs_commands hX (nI_add (5 * m0) 1) (by omega) dX5_readCommand_90 ?_
  rw [zC_u]
  refine z_aload_n hX dX5_readCommand_91 2 rfl ?_
  refine zg_X5_commands hX   fl_RX5_39 dX5_readCommand_92 ?_
  refine z_iload_n hX dX5_readCommand_95 0 rfl ?_
  refine z_iconst (v := 2) hX dX5_readCommand_96 (by decide) ?_
  refine z_iadd hX dX5_readCommand_97 ?_
  refine z_aload_n hX dX5_readCommand_98 2 rfl ?_
  refine z_iconst (v := 1) hX dX5_readCommand_99 (by decide) ?_
  refine z_callV1 hX (ok_rn1 l (y := y) (by exact hY) hn ha4 (n1_le (y := y) (wd_le (y := y) (n0 := n0) (sB 38) p0 hp).2).2) cv_RX5_233 zRc10 dX5_readCommand_100 (by decide) rfl rfl (Nat.le_of_ble_eq_true rfl) ?_
  refine z_world (μ' := zN (zRm μ 8 (upd (upd (μ 8) (5 * m0) (108)) (5 * m0 + 1) (if (n1B y n0 (wdB y n0 (sB 38) p0).2).1 = true then (n1B y n0 (wdB y n0 (sB 38) p0).2).2.2 else 0))) (rT a ((n1B y n0 (n1B y n0 (wdB y n0 (sB 38) p0).2).2.1).2.1) 0 (m0 + 1)) b) (fun _ h => by rw [show wrB (n1B y n0 (n1B y n0 (wdB y n0 (sB 38) p0).2).2.1).1 = 0 by rw [wrB, if_pos h_b]] at h; exact h) ?_
  refine zs_commands hX (nI_add (5 * m0) 2) (by omega) dX5_readCommand_103 ?_
  rw [zC_u]
  refine z_aload_n hX dX5_readCommand_104 2 rfl ?_
  refine zg_X5_commands hX   fl_RX5_39 dX5_readCommand_105 ?_
  refine z_iload_n hX dX5_readCommand_108 0 rfl ?_
  refine z_iconst (v := 3) hX dX5_readCommand_109 (by decide) ?_
  refine z_iadd hX dX5_readCommand_110 ?_
  refine z_aload_n hX dX5_readCommand_111 2 rfl ?_
  refine z_iconst (v := 1) hX dX5_readCommand_112 (by decide) ?_
  refine z_callV1 hX (ok_rl_k l (y := y) (by exact hY) hn ha4 (n1_le (y := y) (n1_le (y := y) (wd_le (y := y) (n0 := n0) (sB 38) p0 hp).2).2).2) cv_RX5_236 zRc10 dX5_readCommand_113 (by decide) rfl rfl (Nat.le_of_ble_eq_true rfl) ?_
  refine z_world (μ' := zN (zRm μ 8 (upd (upd (upd (μ 8) (5 * m0) (108)) (5 * m0 + 1) (if (n1B y n0 (wdB y n0 (sB 38) p0).2).1 = true then (n1B y n0 (wdB y n0 (sB 38) p0).2).2.2 else 0)) (5 * m0 + 2) (if (n1B y n0 (n1B y n0 (wdB y n0 (sB 38) p0).2).2.1).1 = true then (n1B y n0 (n1B y n0 (wdB y n0 (sB 38) p0).2).2.1).2.2 else 0))) (rT a ((sgB kinO y n0 (n1B y n0 (n1B y n0 (wdB y n0 (sB 38) p0).2).2.1).2.1 0).2.1) 1 (m0 + 1)) b) (fun _ h => by rw [show wrB (sgB kinO y n0 (n1B y n0 (n1B y n0 (wdB y n0 (sB 38) p0).2).2.1).2.1 0).1 = 1 by rw [wrB, if_neg h_d]] at h; exact h) ?_
  refine zs_commands hX (nI_add (5 * m0) 3) (by omega) dX5_readCommand_116 ?_
  rw [zC_u]
  refine z_aload_n hX dX5_readCommand_117 2 rfl ?_
  refine zg_X5_commands hX   fl_RX5_39 dX5_readCommand_118 ?_
  refine z_iload_n hX dX5_readCommand_121 0 rfl ?_
  refine z_iconst (v := 4) hX dX5_readCommand_122 (by decide) ?_
  refine z_iadd hX dX5_readCommand_123 ?_
  refine z_aload_n hX dX5_readCommand_124 2 rfl ?_
  refine z_iconst (v := 2) hX dX5_readCommand_125 (by decide) ?_
  refine z_callV1 hX (wr_readNumber l (y := y) (by exact hY) hn ha4 (by decide)) cv_RX5_233 zRc10 dX5_readCommand_126 (by decide) rfl rfl (Nat.le_of_ble_eq_true rfl) ?_
  refine zs_commands hX (nI_add (5 * m0) 4) (by omega) dX5_readCommand_129 ?_
  rw [zC_u]
  refine z_goto (tgt := 196) hX dX5_readCommand_130 (by decide) ?_
  exact z_vret hX dX5_readCommand_196 (by decide) (fun _ h => h)
set_option maxHeartbeats 4000000 in
set_option maxRecDepth 100000 in
theorem rc_l4 (l : Launch) {g : zG} {κ : zKp} {μ : zMu} {ω : zOm} {n0 p0 m0 : Nat} {a b y : Nat → Int32} (hY : μ 7 = y) (hn : n0 ≤ 60) (ha4 : a 4 = nI n0) (hp : p0 ≤ n0) (hm : 5 * m0 + 4 < 300) (hk : chAt y n0 p0 108) (h_w : (wdB y n0 (sB 38) p0).1 = true) (h_a : (n1B y n0 (wdB y n0 (sB 38) p0).2).1 = true) (h_b : (n1B y n0 (n1B y n0 (wdB y n0 (sB 38) p0).2).2.1).1 = true) (h_d : (sgB kinO y n0 (n1B y n0 (n1B y n0 (wdB y n0 (sB 38) p0).2).2.1).2.1 0).1 = true)  : zM l g yX5_readCommand cX5_readCommand 3 none 7 0 [.ref (gA g 10 0 0)] κ (zN μ (rT a p0 0 m0) b) ω κ (zN (zRm μ 8 (upd (upd (upd (upd (upd (μ 8) (5 * m0) (108)) (5 * m0 + 1) (if (n1B y n0 (wdB y n0 (sB 38) p0).2).1 = true then (n1B y n0 (wdB y n0 (sB 38) p0).2).2.2 else 0)) (5 * m0 + 2) (if (n1B y n0 (n1B y n0 (wdB y n0 (sB 38) p0).2).2.1).1 = true then (n1B y n0 (n1B y n0 (wdB y n0 (sB 38) p0).2).2.1).2.2 else 0)) (5 * m0 + 3) (rlB y n0 (n1B y n0 (n1B y n0 (wdB y n0 (sB 38) p0).2).2.1).2.1)) (5 * m0 + 4) (if (nmB y n0 (sgB kinO y n0 (n1B y n0 (n1B y n0 (wdB y n0 (sB 38) p0).2).2.1).2.1 0).2.1).1 = true then (nmB y n0 (sgB kinO y n0 (n1B y n0 (n1B y n0 (wdB y n0 (sB 38) p0).2).2.1).2.1 0).2.1).2.2 else 0))) (rT a ((nmB y n0 (sgB kinO y n0 (n1B y n0 (n1B y n0 (wdB y n0 (sB 38) p0).2).2.1).2.1 0).2.1).2.1) (wrB (nmB y n0 (sgB kinO y n0 (n1B y n0 (n1B y n0 (wdB y n0 (sB 38) p0).2).2.1).2.1 0).2.1).1) (m0 + 1)) b) ω none := by
  refine zM_of (by decide) (Nat.le_of_ble_eq_true rfl) (fun p e R s m args below meth c hX => ?_)
  show zZ p l e R s m args below meth c g 3 _ _ _ _ 0 0 [(0, .ref (gA g 10 0 0))] []
  refine z_aload_n hX dX5_readCommand_0 0 rfl ?_
  refine zg_X5_isWrong hX fl_RX5_207 dX5_readCommand_1 ?_
  refine z_isv (show _ = 0 from rfl) ?_
  refine z_if_eq (tgt := 8) hX dX5_readCommand_4 (by decide) (fun h4 => ?_) (fun h4 => absurd h4 (by decide))
  refine z_aload_n hX dX5_readCommand_8 0 rfl ?_
  refine z_callV1 hX (ok_behind l hY hn ha4 hp) cv_RX5_211 zRc10 dX5_readCommand_9 (by decide) rfl rfl (Nat.le_of_ble_eq_true rfl) ?_
  refine z_isv (bh_yes hk) ?_
  refine z_istore_n (lv' := [(1, _), (0, _)]) hX dX5_readCommand_12 (by decide) rfl ?_
  refine z_iconst (v := 5) hX dX5_readCommand_13 (by decide) ?_
  refine z_aload_n hX dX5_readCommand_14 1 rfl ?_
  refine zg_X5_commandMany hX fl_RX5_228 dX5_readCommand_15 ?_
  refine z_isv (show _ = nI (m0) from rfl) ?_
  refine z_imul hX dX5_readCommand_18 ?_
  refine z_isv (m5 m0) ?_
  refine z_istore_n (lv' := [(2, _), (1, _), (0, _)]) hX dX5_readCommand_19 (by decide) rfl ?_
  refine z_aload_n hX dX5_readCommand_20 2 rfl ?_
  refine z_dup hX dX5_readCommand_21 rfl ?_
  refine zg_X5_commandMany hX fl_RX5_228 dX5_readCommand_22 ?_
  refine z_isv (show _ = nI (m0) from rfl) ?_
  refine z_iconst (v := 1) hX dX5_readCommand_25 (by decide) ?_
  refine z_iadd hX dX5_readCommand_26 ?_
  refine z_isv (nI_1 m0) ?_
  refine zp_X5_commandMany hX  fl_RX5_228 dX5_readCommand_27 ?_
  rw [rT_9]
  refine z_aload_n hX dX5_readCommand_30 2 rfl ?_
  refine zg_X5_commands hX   fl_RX5_39 dX5_readCommand_31 ?_
  refine z_iload_n hX dX5_readCommand_34 0 rfl ?_
  refine z_iload_n hX dX5_readCommand_35 1 rfl ?_
  refine zs_commands hX (rfl) (by omega) dX5_readCommand_36 ?_
  refine z_iload_n hX dX5_readCommand_37 1 rfl ?_
  refine z_lookup (tgt := 72) hX dX5_readCommand_38 rfl lk_l (by decide) ?_
  refine z_aload_n hX dX5_readCommand_72 2 rfl ?_
  refine zk_ldc hX (i := 38) rfl dX5_readCommand_73 ?_
  refine z_callV0 hX (ok_skip l (y := y) (by exact hY) hn ha4 hp (by decide : 38 < 43)) cv_RX5_220 zRc10 dX5_readCommand_75 (by decide) rfl rfl (Nat.le_of_ble_eq_true rfl) ?_
  refine z_world (μ' := zN (zRm μ 8 (upd (μ 8) (5 * m0) (108))) (rT a ((wdB y n0 (sB 38) p0).2) 0 (m0 + 1)) b) (fun _ h => by rw [show wrB (wdB y n0 (sB 38) p0).1 = 0 by rw [wrB, if_pos h_w]] at h; exact h) ?_
  refine z_aload_n hX dX5_readCommand_78 2 rfl ?_
  refine zg_X5_commands hX   fl_RX5_39 dX5_readCommand_79 ?_
  refine z_iload_n hX dX5_readCommand_82 0 rfl ?_
  refine z_iconst (v := 1) hX dX5_readCommand_83 (by decide) ?_
  refine z_iadd hX dX5_readCommand_84 ?_
  refine z_aload_n hX dX5_readCommand_85 2 rfl ?_
  refine z_iconst (v := 1) hX dX5_readCommand_86 (by decide) ?_
  refine z_callV1 hX (ok_rn1 l (y := y) (by exact hY) hn ha4 (wd_le (y := y) (n0 := n0) (sB 38) p0 hp).2) cv_RX5_233 zRc10 dX5_readCommand_87 (by decide) rfl rfl (Nat.le_of_ble_eq_true rfl) ?_
  refine z_world (μ' := zN (zRm μ 8 (upd (μ 8) (5 * m0) (108))) (rT a ((n1B y n0 (wdB y n0 (sB 38) p0).2).2.1) 0 (m0 + 1)) b) (fun _ h => by rw [show wrB (n1B y n0 (wdB y n0 (sB 38) p0).2).1 = 0 by rw [wrB, if_pos h_a]] at h; exact h) ?_
  refine zs_commands hX (nI_add (5 * m0) 1) (by omega) dX5_readCommand_90 ?_
  rw [zC_u]
  refine z_aload_n hX dX5_readCommand_91 2 rfl ?_
  refine zg_X5_commands hX   fl_RX5_39 dX5_readCommand_92 ?_
  refine z_iload_n hX dX5_readCommand_95 0 rfl ?_
  refine z_iconst (v := 2) hX dX5_readCommand_96 (by decide) ?_
  refine z_iadd hX dX5_readCommand_97 ?_
  refine z_aload_n hX dX5_readCommand_98 2 rfl ?_
  refine z_iconst (v := 1) hX dX5_readCommand_99 (by decide) ?_
  refine z_callV1 hX (ok_rn1 l (y := y) (by exact hY) hn ha4 (n1_le (y := y) (wd_le (y := y) (n0 := n0) (sB 38) p0 hp).2).2) cv_RX5_233 zRc10 dX5_readCommand_100 (by decide) rfl rfl (Nat.le_of_ble_eq_true rfl) ?_
  refine z_world (μ' := zN (zRm μ 8 (upd (upd (μ 8) (5 * m0) (108)) (5 * m0 + 1) (if (n1B y n0 (wdB y n0 (sB 38) p0).2).1 = true then (n1B y n0 (wdB y n0 (sB 38) p0).2).2.2 else 0))) (rT a ((n1B y n0 (n1B y n0 (wdB y n0 (sB 38) p0).2).2.1).2.1) 0 (m0 + 1)) b) (fun _ h => by rw [show wrB (n1B y n0 (n1B y n0 (wdB y n0 (sB 38) p0).2).2.1).1 = 0 by rw [wrB, if_pos h_b]] at h; exact h) ?_
  refine zs_commands hX (nI_add (5 * m0) 2) (by omega) dX5_readCommand_103 ?_
  rw [zC_u]
  refine z_aload_n hX dX5_readCommand_104 2 rfl ?_
  refine zg_X5_commands hX   fl_RX5_39 dX5_readCommand_105 ?_
  refine z_iload_n hX dX5_readCommand_108 0 rfl ?_
  refine z_iconst (v := 3) hX dX5_readCommand_109 (by decide) ?_
  refine z_iadd hX dX5_readCommand_110 ?_
  refine z_aload_n hX dX5_readCommand_111 2 rfl ?_
  refine z_iconst (v := 1) hX dX5_readCommand_112 (by decide) ?_
  refine z_callV1 hX (ok_rl_k l (y := y) (by exact hY) hn ha4 (n1_le (y := y) (n1_le (y := y) (wd_le (y := y) (n0 := n0) (sB 38) p0 hp).2).2).2) cv_RX5_236 zRc10 dX5_readCommand_113 (by decide) rfl rfl (Nat.le_of_ble_eq_true rfl) ?_
  refine z_world (μ' := zN (zRm μ 8 (upd (upd (upd (μ 8) (5 * m0) (108)) (5 * m0 + 1) (if (n1B y n0 (wdB y n0 (sB 38) p0).2).1 = true then (n1B y n0 (wdB y n0 (sB 38) p0).2).2.2 else 0)) (5 * m0 + 2) (if (n1B y n0 (n1B y n0 (wdB y n0 (sB 38) p0).2).2.1).1 = true then (n1B y n0 (n1B y n0 (wdB y n0 (sB 38) p0).2).2.1).2.2 else 0))) (rT a ((sgB kinO y n0 (n1B y n0 (n1B y n0 (wdB y n0 (sB 38) p0).2).2.1).2.1 0).2.1) 0 (m0 + 1)) b) (fun _ h => by rw [show wrB (sgB kinO y n0 (n1B y n0 (n1B y n0 (wdB y n0 (sB 38) p0).2).2.1).2.1 0).1 = 0 by rw [wrB, if_pos h_d]] at h; exact h) ?_
  refine zs_commands hX (nI_add (5 * m0) 3) (by omega) dX5_readCommand_116 ?_
  rw [zC_u]
  refine z_aload_n hX dX5_readCommand_117 2 rfl ?_
  refine zg_X5_commands hX   fl_RX5_39 dX5_readCommand_118 ?_
  refine z_iload_n hX dX5_readCommand_121 0 rfl ?_
  refine z_iconst (v := 4) hX dX5_readCommand_122 (by decide) ?_
  refine z_iadd hX dX5_readCommand_123 ?_
  refine z_aload_n hX dX5_readCommand_124 2 rfl ?_
  refine z_iconst (v := 2) hX dX5_readCommand_125 (by decide) ?_
  refine z_callV1 hX (ok_rn2 l (y := y) (by exact hY) hn ha4 (sg_le (K := kinO) (y := y) (z0 := 0) (n1_le (y := y) (n1_le (y := y) (wd_le (y := y) (n0 := n0) (sB 38) p0 hp).2).2).2).2) cv_RX5_233 zRc10 dX5_readCommand_126 (by decide) rfl rfl (Nat.le_of_ble_eq_true rfl) ?_
  refine zs_commands hX (nI_add (5 * m0) 4) (by omega) dX5_readCommand_129 ?_
  rw [zC_u]
  refine z_goto (tgt := 196) hX dX5_readCommand_130 (by decide) ?_
  exact z_vret hX dX5_readCommand_196 (by decide) (fun _ h => h)
set_option maxHeartbeats 4000000 in
set_option maxRecDepth 100000 in
theorem rc_o0 (l : Launch) {g : zG} {κ : zKp} {μ : zMu} {ω : zOm} {n0 p0 m0 : Nat} {a b y : Nat → Int32} (hY : μ 7 = y) (hn : n0 ≤ 60) (ha4 : a 4 = nI n0) (hp : p0 ≤ n0) (hm : 5 * m0 + 4 < 300) (hk : chAt y n0 p0 111) (h_w : ¬ (wdB y n0 (sB 40) p0).1 = true)  : zM l g yX5_readCommand cX5_readCommand 3 none 7 0 [.ref (gA g 10 0 0)] κ (zN μ (rT a p0 0 m0) b) ω κ (zN (zRm μ 8 (upd (upd (upd (μ 8) (5 * m0) (111)) (5 * m0 + 1) (0)) (5 * m0 + 2) (bhB y n0 (wdB y n0 (sB 40) p0).2))) (rT a ((wdB y n0 (sB 40) p0).2) 1 (m0 + 1)) b) ω none := by
  refine zM_of (by decide) (Nat.le_of_ble_eq_true rfl) (fun p e R s m args below meth c hX => ?_)
  show zZ p l e R s m args below meth c g 3 _ _ _ _ 0 0 [(0, .ref (gA g 10 0 0))] []
  refine z_aload_n hX dX5_readCommand_0 0 rfl ?_
  refine zg_X5_isWrong hX fl_RX5_207 dX5_readCommand_1 ?_
  refine z_isv (show _ = 0 from rfl) ?_
  refine z_if_eq (tgt := 8) hX dX5_readCommand_4 (by decide) (fun h4 => ?_) (fun h4 => absurd h4 (by decide))
  refine z_aload_n hX dX5_readCommand_8 0 rfl ?_
  refine z_callV1 hX (ok_behind l hY hn ha4 hp) cv_RX5_211 zRc10 dX5_readCommand_9 (by decide) rfl rfl (Nat.le_of_ble_eq_true rfl) ?_
  refine z_isv (bh_yes hk) ?_
  refine z_istore_n (lv' := [(1, _), (0, _)]) hX dX5_readCommand_12 (by decide) rfl ?_
  refine z_iconst (v := 5) hX dX5_readCommand_13 (by decide) ?_
  refine z_aload_n hX dX5_readCommand_14 1 rfl ?_
  refine zg_X5_commandMany hX fl_RX5_228 dX5_readCommand_15 ?_
  refine z_isv (show _ = nI (m0) from rfl) ?_
  refine z_imul hX dX5_readCommand_18 ?_
  refine z_isv (m5 m0) ?_
  refine z_istore_n (lv' := [(2, _), (1, _), (0, _)]) hX dX5_readCommand_19 (by decide) rfl ?_
  refine z_aload_n hX dX5_readCommand_20 2 rfl ?_
  refine z_dup hX dX5_readCommand_21 rfl ?_
  refine zg_X5_commandMany hX fl_RX5_228 dX5_readCommand_22 ?_
  refine z_isv (show _ = nI (m0) from rfl) ?_
  refine z_iconst (v := 1) hX dX5_readCommand_25 (by decide) ?_
  refine z_iadd hX dX5_readCommand_26 ?_
  refine z_isv (nI_1 m0) ?_
  refine zp_X5_commandMany hX  fl_RX5_228 dX5_readCommand_27 ?_
  rw [rT_9]
  refine z_aload_n hX dX5_readCommand_30 2 rfl ?_
  refine zg_X5_commands hX   fl_RX5_39 dX5_readCommand_31 ?_
  refine z_iload_n hX dX5_readCommand_34 0 rfl ?_
  refine z_iload_n hX dX5_readCommand_35 1 rfl ?_
  refine zs_commands hX (rfl) (by omega) dX5_readCommand_36 ?_
  refine z_iload_n hX dX5_readCommand_37 1 rfl ?_
  refine z_lookup (tgt := 133) hX dX5_readCommand_38 rfl lk_o (by decide) ?_
  refine z_aload_n hX dX5_readCommand_133 2 rfl ?_
  refine zk_ldc hX (i := 40) rfl dX5_readCommand_134 ?_
  refine z_callV0 hX (ok_skip l (y := y) (by exact hY) hn ha4 hp (by decide : 40 < 43)) cv_RX5_220 zRc10 dX5_readCommand_136 (by decide) rfl rfl (Nat.le_of_ble_eq_true rfl) ?_
  refine z_world (μ' := zN (zRm μ 8 (upd (μ 8) (5 * m0) (111))) (rT a ((wdB y n0 (sB 40) p0).2) 1 (m0 + 1)) b) (fun _ h => by rw [show wrB (wdB y n0 (sB 40) p0).1 = 1 by rw [wrB, if_neg h_w]] at h; exact h) ?_
  refine z_aload_n hX dX5_readCommand_139 2 rfl ?_
  refine zg_X5_commands hX   fl_RX5_39 dX5_readCommand_140 ?_
  refine z_iload_n hX dX5_readCommand_143 0 rfl ?_
  refine z_iconst (v := 1) hX dX5_readCommand_144 (by decide) ?_
  refine z_iadd hX dX5_readCommand_145 ?_
  refine z_aload_n hX dX5_readCommand_146 2 rfl ?_
  refine z_iconst (v := 2) hX dX5_readCommand_147 (by decide) ?_
  refine z_callV1 hX (wr_readNumber l (y := y) (by exact hY) hn ha4 (by decide)) cv_RX5_233 zRc10 dX5_readCommand_148 (by decide) rfl rfl (Nat.le_of_ble_eq_true rfl) ?_
  refine zs_commands hX (nI_add (5 * m0) 1) (by omega) dX5_readCommand_151 ?_
  rw [zC_u]
  refine z_aload_n hX dX5_readCommand_152 2 rfl ?_
  refine zg_X5_commands hX   fl_RX5_39 dX5_readCommand_153 ?_
  refine z_iload_n hX dX5_readCommand_156 0 rfl ?_
  refine z_iconst (v := 2) hX dX5_readCommand_157 (by decide) ?_
  refine z_iadd hX dX5_readCommand_158 ?_
  refine z_aload_n hX dX5_readCommand_159 2 rfl ?_
  refine z_iconst (v := 0) hX dX5_readCommand_160 (by decide) ?_
  refine z_callV1 hX (wr_rl_o l (y := y) (by exact hY) hn ha4 (wd_le (y := y) (n0 := n0) (sB 40) p0 hp).2) cv_RX5_236 zRc10 dX5_readCommand_161 (by decide) rfl rfl (Nat.le_of_ble_eq_true rfl) ?_
  refine zs_commands hX (nI_add (5 * m0) 2) (by omega) dX5_readCommand_164 ?_
  rw [zC_u]
  refine z_goto (tgt := 196) hX dX5_readCommand_165 (by decide) ?_
  exact z_vret hX dX5_readCommand_196 (by decide) (fun _ h => h)
set_option maxHeartbeats 4000000 in
set_option maxRecDepth 100000 in
theorem rc_o1 (l : Launch) {g : zG} {κ : zKp} {μ : zMu} {ω : zOm} {n0 p0 m0 : Nat} {a b y : Nat → Int32} (hY : μ 7 = y) (hn : n0 ≤ 60) (ha4 : a 4 = nI n0) (hp : p0 ≤ n0) (hm : 5 * m0 + 4 < 300) (hk : chAt y n0 p0 111) (h_w : (wdB y n0 (sB 40) p0).1 = true) (h_n : ¬ (nmB y n0 (wdB y n0 (sB 40) p0).2).1 = true)  : zM l g yX5_readCommand cX5_readCommand 3 none 7 0 [.ref (gA g 10 0 0)] κ (zN μ (rT a p0 0 m0) b) ω κ (zN (zRm μ 8 (upd (upd (upd (μ 8) (5 * m0) (111)) (5 * m0 + 1) (if (nmB y n0 (wdB y n0 (sB 40) p0).2).1 = true then (nmB y n0 (wdB y n0 (sB 40) p0).2).2.2 else 0)) (5 * m0 + 2) (bhB y n0 (nmB y n0 (wdB y n0 (sB 40) p0).2).2.1))) (rT a ((nmB y n0 (wdB y n0 (sB 40) p0).2).2.1) 1 (m0 + 1)) b) ω none := by
  refine zM_of (by decide) (Nat.le_of_ble_eq_true rfl) (fun p e R s m args below meth c hX => ?_)
  show zZ p l e R s m args below meth c g 3 _ _ _ _ 0 0 [(0, .ref (gA g 10 0 0))] []
  refine z_aload_n hX dX5_readCommand_0 0 rfl ?_
  refine zg_X5_isWrong hX fl_RX5_207 dX5_readCommand_1 ?_
  refine z_isv (show _ = 0 from rfl) ?_
  refine z_if_eq (tgt := 8) hX dX5_readCommand_4 (by decide) (fun h4 => ?_) (fun h4 => absurd h4 (by decide))
  refine z_aload_n hX dX5_readCommand_8 0 rfl ?_
  refine z_callV1 hX (ok_behind l hY hn ha4 hp) cv_RX5_211 zRc10 dX5_readCommand_9 (by decide) rfl rfl (Nat.le_of_ble_eq_true rfl) ?_
  refine z_isv (bh_yes hk) ?_
  refine z_istore_n (lv' := [(1, _), (0, _)]) hX dX5_readCommand_12 (by decide) rfl ?_
  refine z_iconst (v := 5) hX dX5_readCommand_13 (by decide) ?_
  refine z_aload_n hX dX5_readCommand_14 1 rfl ?_
  refine zg_X5_commandMany hX fl_RX5_228 dX5_readCommand_15 ?_
  refine z_isv (show _ = nI (m0) from rfl) ?_
  refine z_imul hX dX5_readCommand_18 ?_
  refine z_isv (m5 m0) ?_
  refine z_istore_n (lv' := [(2, _), (1, _), (0, _)]) hX dX5_readCommand_19 (by decide) rfl ?_
  refine z_aload_n hX dX5_readCommand_20 2 rfl ?_
  refine z_dup hX dX5_readCommand_21 rfl ?_
  refine zg_X5_commandMany hX fl_RX5_228 dX5_readCommand_22 ?_
  refine z_isv (show _ = nI (m0) from rfl) ?_
  refine z_iconst (v := 1) hX dX5_readCommand_25 (by decide) ?_
  refine z_iadd hX dX5_readCommand_26 ?_
  refine z_isv (nI_1 m0) ?_
  refine zp_X5_commandMany hX  fl_RX5_228 dX5_readCommand_27 ?_
  rw [rT_9]
  refine z_aload_n hX dX5_readCommand_30 2 rfl ?_
  refine zg_X5_commands hX   fl_RX5_39 dX5_readCommand_31 ?_
  refine z_iload_n hX dX5_readCommand_34 0 rfl ?_
  refine z_iload_n hX dX5_readCommand_35 1 rfl ?_
  refine zs_commands hX (rfl) (by omega) dX5_readCommand_36 ?_
  refine z_iload_n hX dX5_readCommand_37 1 rfl ?_
  refine z_lookup (tgt := 133) hX dX5_readCommand_38 rfl lk_o (by decide) ?_
  refine z_aload_n hX dX5_readCommand_133 2 rfl ?_
  refine zk_ldc hX (i := 40) rfl dX5_readCommand_134 ?_
  refine z_callV0 hX (ok_skip l (y := y) (by exact hY) hn ha4 hp (by decide : 40 < 43)) cv_RX5_220 zRc10 dX5_readCommand_136 (by decide) rfl rfl (Nat.le_of_ble_eq_true rfl) ?_
  refine z_world (μ' := zN (zRm μ 8 (upd (μ 8) (5 * m0) (111))) (rT a ((wdB y n0 (sB 40) p0).2) 0 (m0 + 1)) b) (fun _ h => by rw [show wrB (wdB y n0 (sB 40) p0).1 = 0 by rw [wrB, if_pos h_w]] at h; exact h) ?_
  refine z_aload_n hX dX5_readCommand_139 2 rfl ?_
  refine zg_X5_commands hX   fl_RX5_39 dX5_readCommand_140 ?_
  refine z_iload_n hX dX5_readCommand_143 0 rfl ?_
  refine z_iconst (v := 1) hX dX5_readCommand_144 (by decide) ?_
  refine z_iadd hX dX5_readCommand_145 ?_
  refine z_aload_n hX dX5_readCommand_146 2 rfl ?_
  refine z_iconst (v := 2) hX dX5_readCommand_147 (by decide) ?_
  refine z_callV1 hX (ok_rn2 l (y := y) (by exact hY) hn ha4 (wd_le (y := y) (n0 := n0) (sB 40) p0 hp).2) cv_RX5_233 zRc10 dX5_readCommand_148 (by decide) rfl rfl (Nat.le_of_ble_eq_true rfl) ?_
  refine z_world (μ' := zN (zRm μ 8 (upd (μ 8) (5 * m0) (111))) (rT a ((nmB y n0 (wdB y n0 (sB 40) p0).2).2.1) 1 (m0 + 1)) b) (fun _ h => by rw [show wrB (nmB y n0 (wdB y n0 (sB 40) p0).2).1 = 1 by rw [wrB, if_neg h_n]] at h; exact h) ?_
  refine zs_commands hX (nI_add (5 * m0) 1) (by omega) dX5_readCommand_151 ?_
  rw [zC_u]
  refine z_aload_n hX dX5_readCommand_152 2 rfl ?_
  refine zg_X5_commands hX   fl_RX5_39 dX5_readCommand_153 ?_
  refine z_iload_n hX dX5_readCommand_156 0 rfl ?_
  refine z_iconst (v := 2) hX dX5_readCommand_157 (by decide) ?_
  refine z_iadd hX dX5_readCommand_158 ?_
  refine z_aload_n hX dX5_readCommand_159 2 rfl ?_
  refine z_iconst (v := 0) hX dX5_readCommand_160 (by decide) ?_
  refine z_callV1 hX (wr_rl_o l (y := y) (by exact hY) hn ha4 (nm_le (y := y) (wd_le (y := y) (n0 := n0) (sB 40) p0 hp).2).2) cv_RX5_236 zRc10 dX5_readCommand_161 (by decide) rfl rfl (Nat.le_of_ble_eq_true rfl) ?_
  refine zs_commands hX (nI_add (5 * m0) 2) (by omega) dX5_readCommand_164 ?_
  rw [zC_u]
  refine z_goto (tgt := 196) hX dX5_readCommand_165 (by decide) ?_
  exact z_vret hX dX5_readCommand_196 (by decide) (fun _ h => h)
set_option maxHeartbeats 4000000 in
set_option maxRecDepth 100000 in
theorem rc_o2 (l : Launch) {g : zG} {κ : zKp} {μ : zMu} {ω : zOm} {n0 p0 m0 : Nat} {a b y : Nat → Int32} (hY : μ 7 = y) (hn : n0 ≤ 60) (ha4 : a 4 = nI n0) (hp : p0 ≤ n0) (hm : 5 * m0 + 4 < 300) (hk : chAt y n0 p0 111) (h_w : (wdB y n0 (sB 40) p0).1 = true) (h_n : (nmB y n0 (wdB y n0 (sB 40) p0).2).1 = true)  : zM l g yX5_readCommand cX5_readCommand 3 none 7 0 [.ref (gA g 10 0 0)] κ (zN μ (rT a p0 0 m0) b) ω κ (zN (zRm μ 8 (upd (upd (upd (μ 8) (5 * m0) (111)) (5 * m0 + 1) (if (nmB y n0 (wdB y n0 (sB 40) p0).2).1 = true then (nmB y n0 (wdB y n0 (sB 40) p0).2).2.2 else 0)) (5 * m0 + 2) (rlB y n0 (nmB y n0 (wdB y n0 (sB 40) p0).2).2.1))) (rT a ((sgB ordO y n0 (nmB y n0 (wdB y n0 (sB 40) p0).2).2.1 0).2.1) (wrB (sgB ordO y n0 (nmB y n0 (wdB y n0 (sB 40) p0).2).2.1 0).1) (m0 + 1)) b) ω none := by
  refine zM_of (by decide) (Nat.le_of_ble_eq_true rfl) (fun p e R s m args below meth c hX => ?_)
  show zZ p l e R s m args below meth c g 3 _ _ _ _ 0 0 [(0, .ref (gA g 10 0 0))] []
  refine z_aload_n hX dX5_readCommand_0 0 rfl ?_
  refine zg_X5_isWrong hX fl_RX5_207 dX5_readCommand_1 ?_
  refine z_isv (show _ = 0 from rfl) ?_
  refine z_if_eq (tgt := 8) hX dX5_readCommand_4 (by decide) (fun h4 => ?_) (fun h4 => absurd h4 (by decide))
  refine z_aload_n hX dX5_readCommand_8 0 rfl ?_
  refine z_callV1 hX (ok_behind l hY hn ha4 hp) cv_RX5_211 zRc10 dX5_readCommand_9 (by decide) rfl rfl (Nat.le_of_ble_eq_true rfl) ?_
  refine z_isv (bh_yes hk) ?_
  refine z_istore_n (lv' := [(1, _), (0, _)]) hX dX5_readCommand_12 (by decide) rfl ?_
  refine z_iconst (v := 5) hX dX5_readCommand_13 (by decide) ?_
  refine z_aload_n hX dX5_readCommand_14 1 rfl ?_
  refine zg_X5_commandMany hX fl_RX5_228 dX5_readCommand_15 ?_
  refine z_isv (show _ = nI (m0) from rfl) ?_
  refine z_imul hX dX5_readCommand_18 ?_
  refine z_isv (m5 m0) ?_
  refine z_istore_n (lv' := [(2, _), (1, _), (0, _)]) hX dX5_readCommand_19 (by decide) rfl ?_
  refine z_aload_n hX dX5_readCommand_20 2 rfl ?_
  refine z_dup hX dX5_readCommand_21 rfl ?_
  refine zg_X5_commandMany hX fl_RX5_228 dX5_readCommand_22 ?_
  refine z_isv (show _ = nI (m0) from rfl) ?_
  refine z_iconst (v := 1) hX dX5_readCommand_25 (by decide) ?_
  refine z_iadd hX dX5_readCommand_26 ?_
  refine z_isv (nI_1 m0) ?_
  refine zp_X5_commandMany hX  fl_RX5_228 dX5_readCommand_27 ?_
  rw [rT_9]
  refine z_aload_n hX dX5_readCommand_30 2 rfl ?_
  refine zg_X5_commands hX   fl_RX5_39 dX5_readCommand_31 ?_
  refine z_iload_n hX dX5_readCommand_34 0 rfl ?_
  refine z_iload_n hX dX5_readCommand_35 1 rfl ?_
  refine zs_commands hX (rfl) (by omega) dX5_readCommand_36 ?_
  refine z_iload_n hX dX5_readCommand_37 1 rfl ?_
  refine z_lookup (tgt := 133) hX dX5_readCommand_38 rfl lk_o (by decide) ?_
  refine z_aload_n hX dX5_readCommand_133 2 rfl ?_
  refine zk_ldc hX (i := 40) rfl dX5_readCommand_134 ?_
  refine z_callV0 hX (ok_skip l (y := y) (by exact hY) hn ha4 hp (by decide : 40 < 43)) cv_RX5_220 zRc10 dX5_readCommand_136 (by decide) rfl rfl (Nat.le_of_ble_eq_true rfl) ?_
  refine z_world (μ' := zN (zRm μ 8 (upd (μ 8) (5 * m0) (111))) (rT a ((wdB y n0 (sB 40) p0).2) 0 (m0 + 1)) b) (fun _ h => by rw [show wrB (wdB y n0 (sB 40) p0).1 = 0 by rw [wrB, if_pos h_w]] at h; exact h) ?_
  refine z_aload_n hX dX5_readCommand_139 2 rfl ?_
  refine zg_X5_commands hX   fl_RX5_39 dX5_readCommand_140 ?_
  refine z_iload_n hX dX5_readCommand_143 0 rfl ?_
  refine z_iconst (v := 1) hX dX5_readCommand_144 (by decide) ?_
  refine z_iadd hX dX5_readCommand_145 ?_
  refine z_aload_n hX dX5_readCommand_146 2 rfl ?_
  refine z_iconst (v := 2) hX dX5_readCommand_147 (by decide) ?_
  refine z_callV1 hX (ok_rn2 l (y := y) (by exact hY) hn ha4 (wd_le (y := y) (n0 := n0) (sB 40) p0 hp).2) cv_RX5_233 zRc10 dX5_readCommand_148 (by decide) rfl rfl (Nat.le_of_ble_eq_true rfl) ?_
  refine z_world (μ' := zN (zRm μ 8 (upd (μ 8) (5 * m0) (111))) (rT a ((nmB y n0 (wdB y n0 (sB 40) p0).2).2.1) 0 (m0 + 1)) b) (fun _ h => by rw [show wrB (nmB y n0 (wdB y n0 (sB 40) p0).2).1 = 0 by rw [wrB, if_pos h_n]] at h; exact h) ?_
  refine zs_commands hX (nI_add (5 * m0) 1) (by omega) dX5_readCommand_151 ?_
  rw [zC_u]
  refine z_aload_n hX dX5_readCommand_152 2 rfl ?_
  refine zg_X5_commands hX   fl_RX5_39 dX5_readCommand_153 ?_
  refine z_iload_n hX dX5_readCommand_156 0 rfl ?_
  refine z_iconst (v := 2) hX dX5_readCommand_157 (by decide) ?_
  refine z_iadd hX dX5_readCommand_158 ?_
  refine z_aload_n hX dX5_readCommand_159 2 rfl ?_
  refine z_iconst (v := 0) hX dX5_readCommand_160 (by decide) ?_
  refine z_callV1 hX (ok_rl_o l (y := y) (by exact hY) hn ha4 (nm_le (y := y) (wd_le (y := y) (n0 := n0) (sB 40) p0 hp).2).2) cv_RX5_236 zRc10 dX5_readCommand_161 (by decide) rfl rfl (Nat.le_of_ble_eq_true rfl) ?_
  refine zs_commands hX (nI_add (5 * m0) 2) (by omega) dX5_readCommand_164 ?_
  rw [zC_u]
  refine z_goto (tgt := 196) hX dX5_readCommand_165 (by decide) ?_
  exact z_vret hX dX5_readCommand_196 (by decide) (fun _ h => h)
set_option maxHeartbeats 4000000 in
set_option maxRecDepth 100000 in
theorem rc_r0 (l : Launch) {g : zG} {κ : zKp} {μ : zMu} {ω : zOm} {n0 p0 m0 : Nat} {a b y : Nat → Int32} (hY : μ 7 = y) (hn : n0 ≤ 60) (ha4 : a 4 = nI n0) (hp : p0 ≤ n0) (hm : 5 * m0 + 4 < 300) (hk : chAt y n0 p0 114) (h_w : ¬ (wdB y n0 (sB 41) p0).1 = true)  : zM l g yX5_readCommand cX5_readCommand 3 none 7 0 [.ref (gA g 10 0 0)] κ (zN μ (rT a p0 0 m0) b) ω κ (zN (zRm μ 8 (upd (upd (μ 8) (5 * m0) (114)) (5 * m0 + 1) (0))) (rT a ((wdB y n0 (sB 41) p0).2) 1 (m0 + 1)) b) ω none := by
  refine zM_of (by decide) (Nat.le_of_ble_eq_true rfl) (fun p e R s m args below meth c hX => ?_)
  show zZ p l e R s m args below meth c g 3 _ _ _ _ 0 0 [(0, .ref (gA g 10 0 0))] []
  refine z_aload_n hX dX5_readCommand_0 0 rfl ?_
  refine zg_X5_isWrong hX fl_RX5_207 dX5_readCommand_1 ?_
  refine z_isv (show _ = 0 from rfl) ?_
  refine z_if_eq (tgt := 8) hX dX5_readCommand_4 (by decide) (fun h4 => ?_) (fun h4 => absurd h4 (by decide))
  refine z_aload_n hX dX5_readCommand_8 0 rfl ?_
  refine z_callV1 hX (ok_behind l hY hn ha4 hp) cv_RX5_211 zRc10 dX5_readCommand_9 (by decide) rfl rfl (Nat.le_of_ble_eq_true rfl) ?_
  refine z_isv (bh_yes hk) ?_
  refine z_istore_n (lv' := [(1, _), (0, _)]) hX dX5_readCommand_12 (by decide) rfl ?_
  refine z_iconst (v := 5) hX dX5_readCommand_13 (by decide) ?_
  refine z_aload_n hX dX5_readCommand_14 1 rfl ?_
  refine zg_X5_commandMany hX fl_RX5_228 dX5_readCommand_15 ?_
  refine z_isv (show _ = nI (m0) from rfl) ?_
  refine z_imul hX dX5_readCommand_18 ?_
  refine z_isv (m5 m0) ?_
  refine z_istore_n (lv' := [(2, _), (1, _), (0, _)]) hX dX5_readCommand_19 (by decide) rfl ?_
  refine z_aload_n hX dX5_readCommand_20 2 rfl ?_
  refine z_dup hX dX5_readCommand_21 rfl ?_
  refine zg_X5_commandMany hX fl_RX5_228 dX5_readCommand_22 ?_
  refine z_isv (show _ = nI (m0) from rfl) ?_
  refine z_iconst (v := 1) hX dX5_readCommand_25 (by decide) ?_
  refine z_iadd hX dX5_readCommand_26 ?_
  refine z_isv (nI_1 m0) ?_
  refine zp_X5_commandMany hX  fl_RX5_228 dX5_readCommand_27 ?_
  rw [rT_9]
  refine z_aload_n hX dX5_readCommand_30 2 rfl ?_
  refine zg_X5_commands hX   fl_RX5_39 dX5_readCommand_31 ?_
  refine z_iload_n hX dX5_readCommand_34 0 rfl ?_
  refine z_iload_n hX dX5_readCommand_35 1 rfl ?_
  refine zs_commands hX (rfl) (by omega) dX5_readCommand_36 ?_
  refine z_iload_n hX dX5_readCommand_37 1 rfl ?_
  refine z_lookup (tgt := 168) hX dX5_readCommand_38 rfl lk_r (by decide) ?_
  refine z_aload_n hX dX5_readCommand_168 2 rfl ?_
  refine zk_ldc hX (i := 41) rfl dX5_readCommand_169 ?_
  refine z_callV0 hX (ok_skip l (y := y) (by exact hY) hn ha4 hp (by decide : 41 < 43)) cv_RX5_220 zRc10 dX5_readCommand_171 (by decide) rfl rfl (Nat.le_of_ble_eq_true rfl) ?_
  refine z_world (μ' := zN (zRm μ 8 (upd (μ 8) (5 * m0) (114))) (rT a ((wdB y n0 (sB 41) p0).2) 1 (m0 + 1)) b) (fun _ h => by rw [show wrB (wdB y n0 (sB 41) p0).1 = 1 by rw [wrB, if_neg h_w]] at h; exact h) ?_
  refine z_aload_n hX dX5_readCommand_174 2 rfl ?_
  refine zg_X5_commands hX   fl_RX5_39 dX5_readCommand_175 ?_
  refine z_iload_n hX dX5_readCommand_178 0 rfl ?_
  refine z_iconst (v := 1) hX dX5_readCommand_179 (by decide) ?_
  refine z_iadd hX dX5_readCommand_180 ?_
  refine z_aload_n hX dX5_readCommand_181 2 rfl ?_
  refine z_iconst (v := 2) hX dX5_readCommand_182 (by decide) ?_
  refine z_callV1 hX (wr_readNumber l (y := y) (by exact hY) hn ha4 (by decide)) cv_RX5_233 zRc10 dX5_readCommand_183 (by decide) rfl rfl (Nat.le_of_ble_eq_true rfl) ?_
  refine zs_commands hX (nI_add (5 * m0) 1) (by omega) dX5_readCommand_186 ?_
  rw [zC_u]
  refine z_goto (tgt := 196) hX dX5_readCommand_187 (by decide) ?_
  exact z_vret hX dX5_readCommand_196 (by decide) (fun _ h => h)
set_option maxHeartbeats 4000000 in
set_option maxRecDepth 100000 in
theorem rc_r1 (l : Launch) {g : zG} {κ : zKp} {μ : zMu} {ω : zOm} {n0 p0 m0 : Nat} {a b y : Nat → Int32} (hY : μ 7 = y) (hn : n0 ≤ 60) (ha4 : a 4 = nI n0) (hp : p0 ≤ n0) (hm : 5 * m0 + 4 < 300) (hk : chAt y n0 p0 114) (h_w : (wdB y n0 (sB 41) p0).1 = true)  : zM l g yX5_readCommand cX5_readCommand 3 none 7 0 [.ref (gA g 10 0 0)] κ (zN μ (rT a p0 0 m0) b) ω κ (zN (zRm μ 8 (upd (upd (μ 8) (5 * m0) (114)) (5 * m0 + 1) (if (nmB y n0 (wdB y n0 (sB 41) p0).2).1 = true then (nmB y n0 (wdB y n0 (sB 41) p0).2).2.2 else 0))) (rT a ((nmB y n0 (wdB y n0 (sB 41) p0).2).2.1) (wrB (nmB y n0 (wdB y n0 (sB 41) p0).2).1) (m0 + 1)) b) ω none := by
  refine zM_of (by decide) (Nat.le_of_ble_eq_true rfl) (fun p e R s m args below meth c hX => ?_)
  show zZ p l e R s m args below meth c g 3 _ _ _ _ 0 0 [(0, .ref (gA g 10 0 0))] []
  refine z_aload_n hX dX5_readCommand_0 0 rfl ?_
  refine zg_X5_isWrong hX fl_RX5_207 dX5_readCommand_1 ?_
  refine z_isv (show _ = 0 from rfl) ?_
  refine z_if_eq (tgt := 8) hX dX5_readCommand_4 (by decide) (fun h4 => ?_) (fun h4 => absurd h4 (by decide))
  refine z_aload_n hX dX5_readCommand_8 0 rfl ?_
  refine z_callV1 hX (ok_behind l hY hn ha4 hp) cv_RX5_211 zRc10 dX5_readCommand_9 (by decide) rfl rfl (Nat.le_of_ble_eq_true rfl) ?_
  refine z_isv (bh_yes hk) ?_
  refine z_istore_n (lv' := [(1, _), (0, _)]) hX dX5_readCommand_12 (by decide) rfl ?_
  refine z_iconst (v := 5) hX dX5_readCommand_13 (by decide) ?_
  refine z_aload_n hX dX5_readCommand_14 1 rfl ?_
  refine zg_X5_commandMany hX fl_RX5_228 dX5_readCommand_15 ?_
  refine z_isv (show _ = nI (m0) from rfl) ?_
  refine z_imul hX dX5_readCommand_18 ?_
  refine z_isv (m5 m0) ?_
  refine z_istore_n (lv' := [(2, _), (1, _), (0, _)]) hX dX5_readCommand_19 (by decide) rfl ?_
  refine z_aload_n hX dX5_readCommand_20 2 rfl ?_
  refine z_dup hX dX5_readCommand_21 rfl ?_
  refine zg_X5_commandMany hX fl_RX5_228 dX5_readCommand_22 ?_
  refine z_isv (show _ = nI (m0) from rfl) ?_
  refine z_iconst (v := 1) hX dX5_readCommand_25 (by decide) ?_
  refine z_iadd hX dX5_readCommand_26 ?_
  refine z_isv (nI_1 m0) ?_
  refine zp_X5_commandMany hX  fl_RX5_228 dX5_readCommand_27 ?_
  rw [rT_9]
  refine z_aload_n hX dX5_readCommand_30 2 rfl ?_
  refine zg_X5_commands hX   fl_RX5_39 dX5_readCommand_31 ?_
  refine z_iload_n hX dX5_readCommand_34 0 rfl ?_
  refine z_iload_n hX dX5_readCommand_35 1 rfl ?_
  refine zs_commands hX (rfl) (by omega) dX5_readCommand_36 ?_
  refine z_iload_n hX dX5_readCommand_37 1 rfl ?_
  refine z_lookup (tgt := 168) hX dX5_readCommand_38 rfl lk_r (by decide) ?_
  refine z_aload_n hX dX5_readCommand_168 2 rfl ?_
  refine zk_ldc hX (i := 41) rfl dX5_readCommand_169 ?_
  refine z_callV0 hX (ok_skip l (y := y) (by exact hY) hn ha4 hp (by decide : 41 < 43)) cv_RX5_220 zRc10 dX5_readCommand_171 (by decide) rfl rfl (Nat.le_of_ble_eq_true rfl) ?_
  refine z_world (μ' := zN (zRm μ 8 (upd (μ 8) (5 * m0) (114))) (rT a ((wdB y n0 (sB 41) p0).2) 0 (m0 + 1)) b) (fun _ h => by rw [show wrB (wdB y n0 (sB 41) p0).1 = 0 by rw [wrB, if_pos h_w]] at h; exact h) ?_
  refine z_aload_n hX dX5_readCommand_174 2 rfl ?_
  refine zg_X5_commands hX   fl_RX5_39 dX5_readCommand_175 ?_
  refine z_iload_n hX dX5_readCommand_178 0 rfl ?_
  refine z_iconst (v := 1) hX dX5_readCommand_179 (by decide) ?_
  refine z_iadd hX dX5_readCommand_180 ?_
  refine z_aload_n hX dX5_readCommand_181 2 rfl ?_
  refine z_iconst (v := 2) hX dX5_readCommand_182 (by decide) ?_
  refine z_callV1 hX (ok_rn2 l (y := y) (by exact hY) hn ha4 (wd_le (y := y) (n0 := n0) (sB 41) p0 hp).2) cv_RX5_233 zRc10 dX5_readCommand_183 (by decide) rfl rfl (Nat.le_of_ble_eq_true rfl) ?_
  refine zs_commands hX (nI_add (5 * m0) 1) (by omega) dX5_readCommand_186 ?_
  rw [zC_u]
  refine z_goto (tgt := 196) hX dX5_readCommand_187 (by decide) ?_
  exact z_vret hX dX5_readCommand_196 (by decide) (fun _ h => h)
set_option maxHeartbeats 4000000 in
set_option maxRecDepth 100000 in
theorem rc_t (l : Launch) {g : zG} {κ : zKp} {μ : zMu} {ω : zOm} {n0 p0 m0 : Nat} {a b y : Nat → Int32} (hY : μ 7 = y) (hn : n0 ≤ 60) (ha4 : a 4 = nI n0) (hp : p0 ≤ n0) (hm : 5 * m0 + 4 < 300) (hk1 : ¬ bhB y n0 p0 = 108) (hk2 : ¬ bhB y n0 p0 = 111) (hk3 : ¬ bhB y n0 p0 = 114)  : zM l g yX5_readCommand cX5_readCommand 3 none 7 0 [.ref (gA g 10 0 0)] κ (zN μ (rT a p0 0 m0) b) ω κ (zN (zRm μ 8 (upd (μ 8) (5 * m0) (bhB y n0 p0))) (rT a ((wdB y n0 (sB 42) p0).2) (wrB (wdB y n0 (sB 42) p0).1) (m0 + 1)) b) ω none := by
  refine zM_of (by decide) (Nat.le_of_ble_eq_true rfl) (fun p e R s m args below meth c hX => ?_)
  show zZ p l e R s m args below meth c g 3 _ _ _ _ 0 0 [(0, .ref (gA g 10 0 0))] []
  refine z_aload_n hX dX5_readCommand_0 0 rfl ?_
  refine zg_X5_isWrong hX fl_RX5_207 dX5_readCommand_1 ?_
  refine z_isv (show _ = 0 from rfl) ?_
  refine z_if_eq (tgt := 8) hX dX5_readCommand_4 (by decide) (fun h4 => ?_) (fun h4 => absurd h4 (by decide))
  refine z_aload_n hX dX5_readCommand_8 0 rfl ?_
  refine z_callV1 hX (ok_behind l hY hn ha4 hp) cv_RX5_211 zRc10 dX5_readCommand_9 (by decide) rfl rfl (Nat.le_of_ble_eq_true rfl) ?_
  refine z_istore_n (lv' := [(1, _), (0, _)]) hX dX5_readCommand_12 (by decide) rfl ?_
  refine z_iconst (v := 5) hX dX5_readCommand_13 (by decide) ?_
  refine z_aload_n hX dX5_readCommand_14 1 rfl ?_
  refine zg_X5_commandMany hX fl_RX5_228 dX5_readCommand_15 ?_
  refine z_isv (show _ = nI (m0) from rfl) ?_
  refine z_imul hX dX5_readCommand_18 ?_
  refine z_isv (m5 m0) ?_
  refine z_istore_n (lv' := [(2, _), (1, _), (0, _)]) hX dX5_readCommand_19 (by decide) rfl ?_
  refine z_aload_n hX dX5_readCommand_20 2 rfl ?_
  refine z_dup hX dX5_readCommand_21 rfl ?_
  refine zg_X5_commandMany hX fl_RX5_228 dX5_readCommand_22 ?_
  refine z_isv (show _ = nI (m0) from rfl) ?_
  refine z_iconst (v := 1) hX dX5_readCommand_25 (by decide) ?_
  refine z_iadd hX dX5_readCommand_26 ?_
  refine z_isv (nI_1 m0) ?_
  refine zp_X5_commandMany hX  fl_RX5_228 dX5_readCommand_27 ?_
  rw [rT_9]
  refine z_aload_n hX dX5_readCommand_30 2 rfl ?_
  refine zg_X5_commands hX   fl_RX5_39 dX5_readCommand_31 ?_
  refine z_iload_n hX dX5_readCommand_34 0 rfl ?_
  refine z_iload_n hX dX5_readCommand_35 1 rfl ?_
  refine zs_commands hX (rfl) (by omega) dX5_readCommand_36 ?_
  refine z_iload_n hX dX5_readCommand_37 1 rfl ?_
  refine z_lookup (tgt := 190) hX dX5_readCommand_38 rfl (lk_d hk1 hk2 hk3) (by decide) ?_
  refine z_aload_n hX dX5_readCommand_190 2 rfl ?_
  refine zk_ldc hX (i := 42) rfl dX5_readCommand_191 ?_
  refine z_callV0 hX (ok_skip l (y := y) (by exact hY) hn ha4 hp (by decide : 42 < 43)) cv_RX5_220 zRc10 dX5_readCommand_193 (by decide) rfl rfl (Nat.le_of_ble_eq_true rfl) ?_
  exact z_vret hX dX5_readCommand_196 (by decide) (fun _ h => h)
theorem ok_readWrong (l : Launch) {g : zG} {κ : zKp} {μ : zMu} {ω : zOm} {n0 p0 m0 : Nat} {a b : Nat → Int32} : True := trivial
end ZRC2
