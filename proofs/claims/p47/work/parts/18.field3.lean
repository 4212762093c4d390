section ZF3
set_option maxHeartbeats 4000000 in
set_option maxRecDepth 100000 in
theorem ok_X1_obey (l : Launch) {g : zG} {κ : zKp} {μ : zMu} {ω : zOm} {f : Nat} {gb cb : Nat → Int32} (hf : f < 11) {i : Nat} (hI : batI gb) (hlt : i < bn gb) (h7 : ¬ bf gb i 7 = 2) (hc : cb = cellsOf gb) : zM l g yX1_obey cX1_obey 4 none 4 0 [.ref (gA g 6 f 0), .ref (gA g 9 f i)] (zF κ f gb cb) μ ω (zF κ f (actB gb i) (cellsOf (actB gb i))) μ ω none := by
  have ho6 := (hI.1.2.2.1 i hlt).2.2.2.2.2.2.1
  have I1 := batI_step (c := fwdB gb i) hI hlt h7
  have I2 : batI (stepB (stepB gb i (fwdB gb i)) i (fwdB (stepB gb i (fwdB gb i)) i)) := batI_step I1 (by rw [bn_stepB]; exact hlt) (by rw [stepB_f (by decide)]; exact h7)
  refine zM_of (by decide) (Nat.le_of_ble_eq_true rfl) (fun p e R s m args below meth c hX => ?_)
  show zZ p l e R s m args below meth c g 4 _ _ _ _ 0 0 [(0, .ref (gA g 6 f 0)), (1, .ref (gA g 9 f i))] []
  refine z_aload_n hX dX1_obey_0 1 rfl ?_
  refine zg_X3_order hX hf (lt12 hI.1.1 hlt) (by (try simp only [bn_bs, bn_stepB, bn_resB, bn_passN, bn_upd (show ¬ 2 = 0 by decide), bn_upd (show ¬ 1 = 0 by decide)]); exact hlt)  fl_RX1_92 dX1_obey_1 ?_
  refine z_bipush (v := 104) hX dX1_obey_4 (by decide) ?_
  refine z_icmp_ne (tgt := 15) hX dX1_obey_6 (by decide) (fun h6 => ?_) (fun h6 => ?_)
  · skip
    refine z_aload_n hX dX1_obey_15 0 rfl ?_
    refine z_aload_n hX dX1_obey_16 1 rfl ?_
    refine z_aload_n hX dX1_obey_17 1 rfl ?_
    refine z_callV1 hX (ok_X3_forward l hf (lt12 hI.1.1 hlt) hlt) cv_RX1_135 (zRc9 hf (lt12 hI.1.1 hlt)) dX1_obey_18 (by decide) rfl rfl (Nat.le_of_ble_eq_true rfl) ?_
    refine z_callV1 hX (ok_move l hf hI hlt h7 hc) cv_RX1_139 (zRc6 hf) dX1_obey_21 (by decide) rfl rfl (Nat.le_of_ble_eq_true rfl) ?_
    refine z_istore_n (lv' := [(2, _), (0, _), (1, _)]) hX dX1_obey_24 (by decide) rfl ?_
    refine z_iload_n hX dX1_obey_25 0 rfl ?_
    refine z_if_eqB (tgt := 39) hX dX1_obey_26 (by decide) (fun h26 => ?_) (fun h26 => ?_)
    · skip
      refine z_world (κ' := zF κ f gb cb) (fun _ h => by rw [show stepB gb i (bf gb i 2 + wayB gb i) = gb from step_no h26, ← hc] at h; exact h) ?_
      refine z_iload_n hX dX1_obey_39 0 rfl ?_
      refine z_if_eqB (tgt := 53) hX dX1_obey_40 (by decide) (fun h40 => ?_) (fun h40 => absurd h40 h26)
      refine z_aload_n hX dX1_obey_53 1 rfl ?_
      refine z_aload_n hX dX1_obey_54 2 rfl ?_
      refine zg_X3_lane hX hf (lt12 hI.1.1 hlt) (by (try simp only [bn_bs, bn_stepB, bn_resB, bn_passN, bn_upd (show ¬ 2 = 0 by decide), bn_upd (show ¬ 1 = 0 by decide)]); exact hlt)  fl_RX1_82 dX1_obey_55 ?_
      refine z_aload_n hX dX1_obey_58 2 rfl ?_
      refine zg_X3_column hX hf (lt12 hI.1.1 hlt) (by (try simp only [bn_bs, bn_stepB, bn_resB, bn_passN, bn_upd (show ¬ 2 = 0 by decide), bn_upd (show ¬ 1 = 0 by decide)]); exact hlt)  fl_RX1_85 dX1_obey_59 ?_
      refine z_aload_n hX dX1_obey_62 2 rfl ?_
      refine z_callV1 hX (ok_X3_forward l hf (lt12 hI.1.1 hlt) (by (try simp only [bn_bs, bn_stepB, bn_resB, bn_passN, bn_upd (show ¬ 2 = 0 by decide), bn_upd (show ¬ 1 = 0 by decide)]); exact hlt)) cv_RX1_135 (zRc9 hf (lt12 hI.1.1 hlt)) dX1_obey_63 (by decide) rfl rfl (Nat.le_of_ble_eq_true rfl) ?_
      refine z_iadd hX dX1_obey_66 ?_
      rcases ho : occB gb (bf gb i 1) (bf gb i 2 + wayB gb i) with _ | j
      · skip
        refine z_callV1 hX (ok_occ_n l hf hI.1.1 hc ho) cv_RX1_75 (zRc6 hf) dX1_obey_67 (by decide) rfl rfl (Nat.le_of_ble_eq_true rfl) ?_
        refine z_nstore_n (lv' := [(3, _), (2, _), (0, _), (1, _)]) hX dX1_obey_70 (by decide) rfl ?_
        refine z_nload_n hX dX1_obey_71 0 rfl ?_
        refine z_ifnullN (tgt := 93) hX dX1_obey_72 (by decide) ?_
        exact z_vret hX dX1_obey_93 (by decide) (fun _ h => by rw [act_no h6 ho6 h26, if_neg (foe_none hI (by (try simp only [bn_bs, bn_stepB, bn_resB, bn_passN, bn_upd (show ¬ 2 = 0 by decide), bn_upd (show ¬ 1 = 0 by decide)]); exact hlt) ho)]; rw [← hc]; exact h)
      · skip
        refine z_callV1 hX (ok_occ_s l hf hI.1.1 hc ho) cv_RX1_75 (zRc6 hf) dX1_obey_67 (by decide) rfl rfl (Nat.le_of_ble_eq_true rfl) ?_
        refine z_astore_n (lv' := [(3, _), (2, _), (0, _), (1, _)]) hX dX1_obey_70 (by decide) rfl ?_
        refine z_aload_n hX dX1_obey_71 0 rfl ?_
        refine z_ifnull hX dX1_obey_72 ?_
        refine z_aload_n hX dX1_obey_75 0 rfl ?_
        refine zg_X3_side hX hf (lt12 hI.1.1 (foe_some hI ho).1) (foe_some hI ho).1  fl_RX1_79 dX1_obey_76 ?_
        refine z_aload_n hX dX1_obey_79 3 rfl ?_
        refine zg_X3_side hX hf (lt12 hI.1.1 hlt) (by (try simp only [bn_bs, bn_stepB, bn_resB, bn_passN, bn_upd (show ¬ 2 = 0 by decide), bn_upd (show ¬ 1 = 0 by decide)]); exact hlt)  fl_RX1_79 dX1_obey_80 ?_
        refine z_icmp_eq (tgt := 93) hX dX1_obey_83 (by decide) (fun h83 => ?_) (fun h83 => ?_)
        · skip
          exact z_vret hX dX1_obey_93 (by decide) (fun _ h => by rw [act_no h6 ho6 h26, if_neg (fun q => (foe_some hI ho).2.2.2.2.mp q h83.symm.symm)]; rw [← hc]; exact h)
        · skip
          refine z_aload_n hX dX1_obey_86 2 rfl ?_
          refine z_aload_n hX dX1_obey_87 3 rfl ?_
          refine z_aload_n hX dX1_obey_88 0 rfl ?_
          refine z_iload_n hX dX1_obey_89 1 rfl ?_
          refine z_callV0 hX (ok_X1_fight l hf (ch := canB gb i (fwdB gb i)) hI (by (try simp only [bn_bs, bn_stepB, bn_resB, bn_passN, bn_upd (show ¬ 2 = 0 by decide), bn_upd (show ¬ 1 = 0 by decide)]); exact hlt) (foe_some hI ho).1 (fun z => h83 (by rw [← z])) h7 (foe_some hI ho).2.1 hc) cv_RX1_143 (zRc6 hf) dX1_obey_90 (by decide) rfl rfl (Nat.le_of_ble_eq_true rfl) ?_
          exact z_vret hX dX1_obey_93 (by decide) (fun _ h => by rw [act_no h6 ho6 h26, if_pos ((foe_some hI ho).2.2.2.2.mpr h83), (foe_some hI ho).2.2.2.1]; exact h)
    · skip
      refine z_aload_n hX dX1_obey_29 2 rfl ?_
      refine zg_X3_order hX hf (lt12 hI.1.1 hlt) (by (try simp only [bn_bs, bn_stepB, bn_resB, bn_passN, bn_upd (show ¬ 2 = 0 by decide), bn_upd (show ¬ 1 = 0 by decide)]); exact hlt)  fl_RX1_92 dX1_obey_30 ?_
      refine z_isv (show bf (stepB gb i (fwdB gb i)) i 6 = bf gb i 6 from stepB_f (by decide)) ?_
      refine z_bipush (v := 97) hX dX1_obey_33 (by decide) ?_
      refine z_icmp_ne (tgt := 39) hX dX1_obey_35 (by decide) (fun h35 => ?_) (fun h35 => ?_)
      · skip
        refine z_iload_n hX dX1_obey_39 0 rfl ?_
        refine z_if_eqB (tgt := 53) hX dX1_obey_40 (by decide) (fun h40 => absurd h40 (Classical.not_not.mpr h26)) (fun h40 => ?_)
        refine z_aload_n hX dX1_obey_43 1 rfl ?_
        refine z_aload_n hX dX1_obey_44 2 rfl ?_
        refine z_aload_n hX dX1_obey_45 2 rfl ?_
        refine z_callV1 hX (ok_X3_forward l hf (lt12 hI.1.1 hlt) (by (try simp only [bn_bs, bn_stepB, bn_resB, bn_passN, bn_upd (show ¬ 2 = 0 by decide), bn_upd (show ¬ 1 = 0 by decide)]); exact hlt)) cv_RX1_135 (zRc9 hf (lt12 hI.1.1 hlt)) dX1_obey_46 (by decide) rfl rfl (Nat.le_of_ble_eq_true rfl) ?_
        refine z_callV1 hX (ok_move l hf I1 (by (try simp only [bn_bs, bn_stepB, bn_resB, bn_passN, bn_upd (show ¬ 2 = 0 by decide), bn_upd (show ¬ 1 = 0 by decide)]); exact hlt) (by rw [stepB_f (by decide)]; exact h7) rfl) cv_RX1_139 (zRc6 hf) dX1_obey_49 (by decide) rfl rfl (Nat.le_of_ble_eq_true rfl) ?_
        refine z_pop hX dX1_obey_52 rfl ?_
        refine z_aload_n hX dX1_obey_53 1 rfl ?_
        refine z_aload_n hX dX1_obey_54 2 rfl ?_
        refine zg_X3_lane hX hf (lt12 hI.1.1 hlt) (by (try simp only [bn_bs, bn_stepB, bn_resB, bn_passN, bn_upd (show ¬ 2 = 0 by decide), bn_upd (show ¬ 1 = 0 by decide)]); exact hlt)  fl_RX1_82 dX1_obey_55 ?_
        refine z_aload_n hX dX1_obey_58 2 rfl ?_
        refine zg_X3_column hX hf (lt12 hI.1.1 hlt) (by (try simp only [bn_bs, bn_stepB, bn_resB, bn_passN, bn_upd (show ¬ 2 = 0 by decide), bn_upd (show ¬ 1 = 0 by decide)]); exact hlt)  fl_RX1_85 dX1_obey_59 ?_
        refine z_aload_n hX dX1_obey_62 2 rfl ?_
        refine z_callV1 hX (ok_X3_forward l hf (lt12 hI.1.1 hlt) (by (try simp only [bn_bs, bn_stepB, bn_resB, bn_passN, bn_upd (show ¬ 2 = 0 by decide), bn_upd (show ¬ 1 = 0 by decide)]); exact hlt)) cv_RX1_135 (zRc9 hf (lt12 hI.1.1 hlt)) dX1_obey_63 (by decide) rfl rfl (Nat.le_of_ble_eq_true rfl) ?_
        refine z_iadd hX dX1_obey_66 ?_
        rcases ho : occB (stepB (stepB gb i (fwdB gb i)) i (fwdB (stepB gb i (fwdB gb i)) i)) (bf (stepB (stepB gb i (fwdB gb i)) i (fwdB (stepB gb i (fwdB gb i)) i)) i 1) (bf (stepB (stepB gb i (fwdB gb i)) i (fwdB (stepB gb i (fwdB gb i)) i)) i 2 + wayB (stepB (stepB gb i (fwdB gb i)) i (fwdB (stepB gb i (fwdB gb i)) i)) i) with _ | j
        · skip
          refine z_callV1 hX (ok_occ_n l hf I2.1.1 rfl ho) cv_RX1_75 (zRc6 hf) dX1_obey_67 (by decide) rfl rfl (Nat.le_of_ble_eq_true rfl) ?_
          refine z_nstore_n (lv' := [(3, _), (2, _), (0, _), (1, _)]) hX dX1_obey_70 (by decide) rfl ?_
          refine z_nload_n hX dX1_obey_71 0 rfl ?_
          refine z_ifnullN (tgt := 93) hX dX1_obey_72 (by decide) ?_
          exact z_vret hX dX1_obey_93 (by decide) (fun _ h => by rw [act_yes h6 h35 ho6 h26 rfl, if_neg (foe_none I2 (by (try simp only [bn_bs, bn_stepB, bn_resB, bn_passN, bn_upd (show ¬ 2 = 0 by decide), bn_upd (show ¬ 1 = 0 by decide)]); exact hlt) ho)]; exact h)
        · skip
          refine z_callV1 hX (ok_occ_s l hf I2.1.1 rfl ho) cv_RX1_75 (zRc6 hf) dX1_obey_67 (by decide) rfl rfl (Nat.le_of_ble_eq_true rfl) ?_
          refine z_astore_n (lv' := [(3, _), (2, _), (0, _), (1, _)]) hX dX1_obey_70 (by decide) rfl ?_
          refine z_aload_n hX dX1_obey_71 0 rfl ?_
          refine z_ifnull hX dX1_obey_72 ?_
          refine z_aload_n hX dX1_obey_75 0 rfl ?_
          refine zg_X3_side hX hf (lt12 I2.1.1 (foe_some I2 ho).1) (foe_some I2 ho).1  fl_RX1_79 dX1_obey_76 ?_
          refine z_aload_n hX dX1_obey_79 3 rfl ?_
          refine zg_X3_side hX hf (lt12 hI.1.1 hlt) (by (try simp only [bn_bs, bn_stepB, bn_resB, bn_passN, bn_upd (show ¬ 2 = 0 by decide), bn_upd (show ¬ 1 = 0 by decide)]); exact hlt)  fl_RX1_79 dX1_obey_80 ?_
          refine z_icmp_eq (tgt := 93) hX dX1_obey_83 (by decide) (fun h83 => ?_) (fun h83 => ?_)
          · skip
            exact z_vret hX dX1_obey_93 (by decide) (fun _ h => by rw [act_yes h6 h35 ho6 h26 rfl, if_neg (fun q => (foe_some I2 ho).2.2.2.2.mp q h83.symm.symm)]; exact h)
          · skip
            refine z_aload_n hX dX1_obey_86 2 rfl ?_
            refine z_aload_n hX dX1_obey_87 3 rfl ?_
            refine z_aload_n hX dX1_obey_88 0 rfl ?_
            refine z_iload_n hX dX1_obey_89 1 rfl ?_
            refine z_callV0 hX (ok_X1_fight l hf (ch := canB gb i (fwdB gb i)) I2 (by (try simp only [bn_bs, bn_stepB, bn_resB, bn_passN, bn_upd (show ¬ 2 = 0 by decide), bn_upd (show ¬ 1 = 0 by decide)]); exact hlt) (foe_some I2 ho).1 (fun z => h83 (by rw [← z])) (show ¬ bf (stepB (stepB gb i (fwdB gb i)) i (fwdB (stepB gb i (fwdB gb i)) i)) i 7 = 2 by rw [stepB_f (by decide), stepB_f (by decide)]; exact h7) (foe_some I2 ho).2.1 rfl) cv_RX1_143 (zRc6 hf) dX1_obey_90 (by decide) rfl rfl (Nat.le_of_ble_eq_true rfl) ?_
            exact z_vret hX dX1_obey_93 (by decide) (fun _ h => by rw [act_yes h6 h35 ho6 h26 rfl, if_pos ((foe_some I2 ho).2.2.2.2.mpr h83), (foe_some I2 ho).2.2.2.1]; exact h)
      · skip
        exact z_vret hX dX1_obey_38 (by decide) (fun _ h => by rw [act_am h35 h26]; exact h)
  · skip
    refine z_aload_n hX dX1_obey_9 1 rfl ?_
    refine z_iconst (v := 1) hX dX1_obey_10 (by decide) ?_
    refine z_callV0 hX (ok_X3_gainMorale l hf (lt12 hI.1.1 hlt) hlt) cv_RX1_123 (zRc9 hf (lt12 hI.1.1 hlt)) dX1_obey_11 (by decide) rfl rfl (Nat.le_of_ble_eq_true rfl) ?_
    exact z_vret hX dX1_obey_14 (by decide) (fun _ h => by rw [act_h h6, cellsOf_5, ← hc]; exact h)
set_option maxHeartbeats 4000000 in
set_option maxRecDepth 100000 in
theorem ok_X1_passTurn (l : Launch) {g : zG} {κ : zKp} {μ : zMu} {ω : zOm} {f : Nat} {gb cb : Nat → Int32} (hf : f < 11) (hI : batI gb) (hc : cb = cellsOf gb) : zM l g yX1_passTurn cX1_passTurn 4 (some .int) 5 0 [.ref (gA g 6 f 0)] (zF κ f gb cb) μ ω (zF κ f (passB gb) (cellsOf (passB gb))) μ ω (some (.int (passB gb 2 - gb 2))) := by
  subst hc
  refine zM_of (by decide) (Nat.le_of_ble_eq_true rfl) (fun p e R s m args below meth c hX => ?_)
  show zZ p l e R s m args below meth c g 4 _ _ _ _ 0 0 [(0, .ref (gA g 6 f 0))] []
  refine z_aload_n hX dX1_passTurn_0 0 rfl ?_
  refine zg_X1_fights hX hf  fl_RX1_28 dX1_passTurn_1 ?_
  refine z_istore_n (lv' := [(1, _), (0, _)]) hX dX1_passTurn_4 (by decide) rfl ?_
  refine z_iconst (v := 0) hX dX1_passTurn_5 (by decide) ?_
  refine z_istore_n (lv' := [(2, _), (1, _), (0, _)]) hX dX1_passTurn_6 (by decide) rfl ?_
  have hL : ∀ (dz : Nat) (k : Nat), bn gb - k = dz → k ≤ bn gb → zZ p l e R s m args below meth c g 4 (zQ g (zF κ f (passB gb) (cellsOf (passB gb))) μ ω (some (.int (passB gb 2 - gb 2))) below args s 0) (zF κ f (passN gb k) (cellsOf (passN gb k))) μ ω 0 7 [(0, .ref (gA g 6 f 0)), (1, .int (gb 2)), (2, .int (nI k))] [] := by
    intro dz
    induction dz with
    | zero =>
      intro k hd hk
      have hkn : k = bn gb := by omega
      have hP := batI_passN hI k hk
      refine z_iload_n hX dX1_passTurn_7 2 rfl ?_
      refine z_aload_n hX dX1_passTurn_8 0 rfl ?_
      refine zg_X1_count hX hf  fl_RX1_21 dX1_passTurn_9 ?_
      refine z_icmp_ge (tgt := 62) hX dX1_passTurn_12 (by decide) (fun h12 => ?_) (fun h12 => absurd h12 (Classical.not_not.mpr (cnt_leN hP.1.1 (by rw [bn_passN]; exact hkn))))
      refine z_aload_n hX dX1_passTurn_62 0 rfl ?_
      refine z_dup hX dX1_passTurn_63 rfl ?_
      refine zg_X1_turns hX hf  fl_RX1_25 dX1_passTurn_64 ?_
      refine z_iconst (v := 1) hX dX1_passTurn_67 (by decide) ?_
      refine z_iadd hX dX1_passTurn_68 ?_
      refine zp_X1_turns hX hf  fl_RX1_25 dX1_passTurn_69 ?_
      refine z_aload_n hX dX1_passTurn_72 0 rfl ?_
      refine zg_X1_fights hX hf  fl_RX1_28 dX1_passTurn_73 ?_
      refine z_iload_n hX dX1_passTurn_76 1 rfl ?_
      refine z_isub hX dX1_passTurn_77 ?_
      exact z_iretI hX dX1_passTurn_78 (by decide) (by rw [hkn]; rfl) (fun _ h => by unfold passB; rw [cells_upd (Or.inl rfl), ← hkn]; exact h)
    | succ dz ih =>
      intro k hd hk
      have hkn : k < bn gb := by omega
      have hP := batI_passN hI k hk
      have hkP : k < bn (passN gb k) := by rw [bn_passN]; exact hkn
      refine z_iload_n hX dX1_passTurn_7 2 rfl ?_
      refine z_aload_n hX dX1_passTurn_8 0 rfl ?_
      refine zg_X1_count hX hf  fl_RX1_21 dX1_passTurn_9 ?_
      refine z_icmp_ge (tgt := 62) hX dX1_passTurn_12 (by decide) (fun h12 => absurd h12 (cnt_gt hP.1.1 hkP)) (fun h12 => ?_)
      refine z_aload_n hX dX1_passTurn_15 0 rfl ?_
      refine z_iload_n hX dX1_passTurn_16 2 rfl ?_
      refine z_callV1 hX (ok_line_in l hf hP.1.1 hkP) cv_RX1_57 (zRc6 hf) dX1_passTurn_17 (by decide) rfl rfl (Nat.le_of_ble_eq_true rfl) ?_
      refine z_astore_n (lv' := [(3, _), (0, _), (1, _), (2, _)]) hX dX1_passTurn_20 (by decide) rfl ?_
      refine z_aload_n hX dX1_passTurn_21 0 rfl ?_
      refine z_ifnull hX dX1_passTurn_22 ?_
      refine z_aload_n hX dX1_passTurn_25 0 rfl ?_
      refine z_callV1 hX (ok_X3_stands l hf (lt12 hP.1.1 hkP) hkP) cv_RX1_113 (zRc9 hf (lt12 hP.1.1 hkP)) dX1_passTurn_26 (by decide) rfl rfl (Nat.le_of_ble_eq_true rfl) ?_
      refine z_if_eqB (tgt := 40) hX dX1_passTurn_29 (by decide) (fun h29 => ?_) (fun h29 => ?_)
      · skip
        refine z_aload_n hX dX1_passTurn_40 0 rfl ?_
        refine z_ifnull hX dX1_passTurn_41 ?_
        refine z_aload_n hX dX1_passTurn_44 0 rfl ?_
        refine z_callV1 hX (ok_X3_routed l hf (lt12 hP.1.1 hkP) hkP) cv_RX1_117 (zRc9 hf (lt12 hP.1.1 hkP)) dX1_passTurn_45 (by decide) rfl rfl (Nat.le_of_ble_eq_true rfl) ?_
        refine z_if_eqB (tgt := 56) hX dX1_passTurn_48 (by decide) (fun h48 => ?_) (fun h48 => ?_)
        · skip
          refine z_iinc (v := nI (k + 1)) (lv' := [(2, _), (3, _), (0, _), (1, _)]) hX dX1_passTurn_56 3 rfl (nI_1 k) (by decide) rfl ?_
          refine z_goto (tgt := 7) hX dX1_passTurn_59 (by decide) ?_
          refine z_world (κ' := zF κ f (passN gb (k + 1)) (cellsOf (passN gb (k + 1)))) (fun _ h => by rw [passN, once_no h29 h48]; exact h) ?_
          refine z_sub [2, 3, 0] rfl ?_
          exact ih (k + 1) (by omega) (by omega)
        · skip
          refine z_aload_n hX dX1_passTurn_51 1 rfl ?_
          refine z_aload_n hX dX1_passTurn_52 0 rfl ?_
          refine z_callV0 hX (ok_X1_retreat l hf hP hkP (n2_1 h48) rfl) cv_RX1_132 (zRc6 hf) dX1_passTurn_53 (by decide) rfl rfl (Nat.le_of_ble_eq_true rfl) ?_
          refine z_iinc (v := nI (k + 1)) (lv' := [(2, _), (3, _), (0, _), (1, _)]) hX dX1_passTurn_56 3 rfl (nI_1 k) (by decide) rfl ?_
          refine z_goto (tgt := 7) hX dX1_passTurn_59 (by decide) ?_
          refine z_world (κ' := zF κ f (passN gb (k + 1)) (cellsOf (passN gb (k + 1)))) (fun _ h => by rw [passN, once_ro h48]; exact h) ?_
          refine z_sub [2, 3, 0] rfl ?_
          exact ih (k + 1) (by omega) (by omega)
      · skip
        refine z_aload_n hX dX1_passTurn_32 1 rfl ?_
        refine z_aload_n hX dX1_passTurn_33 0 rfl ?_
        refine z_callV0 hX (ok_X1_obey l hf hP hkP (n2_0 h29) rfl) cv_RX1_129 (zRc6 hf) dX1_passTurn_34 (by decide) rfl rfl (Nat.le_of_ble_eq_true rfl) ?_
        refine z_goto (tgt := 56) hX dX1_passTurn_37 (by decide) ?_
        refine z_iinc (v := nI (k + 1)) (lv' := [(2, _), (3, _), (0, _), (1, _)]) hX dX1_passTurn_56 3 rfl (nI_1 k) (by decide) rfl ?_
        refine z_goto (tgt := 7) hX dX1_passTurn_59 (by decide) ?_
        refine z_world (κ' := zF κ f (passN gb (k + 1)) (cellsOf (passN gb (k + 1)))) (fun _ h => by rw [passN, once_st h29]; exact h) ?_
        refine z_sub [2, 3, 0] rfl ?_
        exact ih (k + 1) (by omega) (by omega)
  refine z_sub [2, 1, 0] rfl ?_
  exact hL (bn gb) 0 (Nat.sub_zero _) (Nat.zero_le _)
end ZF3
