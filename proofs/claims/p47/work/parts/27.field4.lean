section ZF4
set_option maxHeartbeats 4000000 in
set_option maxRecDepth 100000 in
theorem ok_X1_strengthAmongLines (l : Launch) {g : zG} {κ : zKp} {μ : zMu} {ω : zOm} {f : Nat} {gb cb : Nat → Int32} (hf : f < 11) {x : Int32} (hn : bnI gb) : zM l g yX1_strengthAmongLines cX1_strengthAmongLines 5 (some .int) 2 0 [.ref (gA g 6 f 0), .int x] (zF κ f gb cb) μ ω (zF κ f gb cb) μ ω (some (.int (sm (strF gb x) (bn gb)))) := by
  refine zM_of (by decide) (Nat.le_of_ble_eq_true rfl) (fun p e R s m args below meth c hX => ?_)
  show zZ p l e R s m args below meth c g 5 _ _ _ _ 0 0 [(0, .ref (gA g 6 f 0)), (1, .int x)] []
  refine z_iconst (v := 0) hX dX1_strengthAmongLines_0 (by decide) ?_
  refine z_istore_n (lv' := [(2, _), (0, _), (1, _)]) hX dX1_strengthAmongLines_1 (by decide) rfl ?_
  refine z_iconst (v := 0) hX dX1_strengthAmongLines_2 (by decide) ?_
  refine z_istore_n (lv' := [(3, _), (2, _), (0, _), (1, _)]) hX dX1_strengthAmongLines_3 (by decide) rfl ?_
  have hL : ∀ (dz : Nat) (k : Nat) (sv : Int32), bn gb - k = dz → k ≤ bn gb → sv = sm (strF gb x) k → zZ p l e R s m args below meth c g 5 (zQ g (zF κ f gb cb) μ ω (some (.int (sm (strF gb x) (bn gb)))) below args s 0) (zF κ f gb cb) μ ω 0 4 [(0, .ref (gA g 6 f 0)), (1, .int x), (2, .int sv), (3, .int (nI k))] [] := by
    intro dz
    induction dz with
    | zero =>
      intro k sv hd hk hs
      have hkn : k = bn gb := by omega
      refine z_iload_n hX dX1_strengthAmongLines_4 3 rfl ?_
      refine z_aload_n hX dX1_strengthAmongLines_5 0 rfl ?_
      refine zg_X1_count hX hf  fl_RX1_21 dX1_strengthAmongLines_6 ?_
      refine z_icmp_ge (tgt := 47) hX dX1_strengthAmongLines_9 (by decide) (fun h9 => ?_) (fun h9 => absurd h9 (Classical.not_not.mpr (by rw [hkn]; exact cnt_le hn)))
      refine z_iload_n hX dX1_strengthAmongLines_47 2 rfl ?_
      exact z_iretI hX dX1_strengthAmongLines_48 (by decide) (by rw [hs, hkn]) (fun _ h => h)
    | succ dz ih =>
      intro k sv hd hk hs
      have hkn : k < bn gb := by omega
      refine z_iload_n hX dX1_strengthAmongLines_4 3 rfl ?_
      refine z_aload_n hX dX1_strengthAmongLines_5 0 rfl ?_
      refine zg_X1_count hX hf  fl_RX1_21 dX1_strengthAmongLines_6 ?_
      refine z_icmp_ge (tgt := 47) hX dX1_strengthAmongLines_9 (by decide) (fun h9 => absurd h9 (cnt_gt hn hkn)) (fun h9 => ?_)
      refine z_aload_n hX dX1_strengthAmongLines_12 0 rfl ?_
      refine z_iload_n hX dX1_strengthAmongLines_13 3 rfl ?_
      refine z_callV1 hX (ok_line_in l hf hn hkn) cv_RX1_57 (zRc6 hf) dX1_strengthAmongLines_14 (by decide) rfl rfl (Nat.le_of_ble_eq_true rfl) ?_
      refine z_astore (lv' := [(4, _), (0, _), (1, _), (2, _), (3, _)]) hX dX1_strengthAmongLines_17 (by decide) rfl ?_
      refine z_aload hX dX1_strengthAmongLines_19 0 rfl ?_
      refine z_ifnull hX dX1_strengthAmongLines_21 ?_
      refine z_aload hX dX1_strengthAmongLines_24 0 rfl ?_
      refine zg_X3_side hX hf (lt12 hn hkn) hkn  fl_RX1_79 dX1_strengthAmongLines_26 ?_
      refine z_iload_n hX dX1_strengthAmongLines_29 2 rfl ?_
      refine z_icmp_ne (tgt := 41) hX dX1_strengthAmongLines_30 (by decide) (fun h30 => ?_) (fun h30 => ?_)
      · skip
        refine z_iinc (v := nI (k + 1)) (lv' := [(3, _), (4, _), (0, _), (1, _), (2, _)]) hX dX1_strengthAmongLines_41 4 rfl (nI_1 k) (by decide) rfl ?_
        refine z_goto (tgt := 4) hX dX1_strengthAmongLines_44 (by decide) ?_
        refine z_sub [2, 3, 4, 0] rfl ?_
        exact ih (k + 1) _ (by omega) hkn (sm_n hs (if_neg h30))
      · skip
        refine z_iload_n hX dX1_strengthAmongLines_33 3 rfl ?_
        refine z_aload hX dX1_strengthAmongLines_34 0 rfl ?_
        refine zg_X3_strength hX hf (lt12 hn hkn) hkn  fl_RX1_95 dX1_strengthAmongLines_36 ?_
        refine z_iadd hX dX1_strengthAmongLines_39 ?_
        refine z_istore_n (lv' := [(2, _), (4, _), (0, _), (1, _), (3, _)]) hX dX1_strengthAmongLines_40 (by decide) rfl ?_
        refine z_iinc (v := nI (k + 1)) (lv' := [(3, _), (2, _), (4, _), (0, _), (1, _)]) hX dX1_strengthAmongLines_41 4 rfl (nI_1 k) (by decide) rfl ?_
        refine z_goto (tgt := 4) hX dX1_strengthAmongLines_44 (by decide) ?_
        refine z_sub [3, 4, 1, 0] rfl ?_
        exact ih (k + 1) _ (by omega) hkn (sm_y hs (if_pos h30))
  refine z_sub [2, 3, 1, 0] rfl ?_
  exact hL (bn gb) 0 0 (Nat.sub_zero _) (Nat.zero_le _) rfl
set_option maxHeartbeats 4000000 in
set_option maxRecDepth 100000 in
theorem ok_X1_fallen (l : Launch) {g : zG} {κ : zKp} {μ : zMu} {ω : zOm} {f : Nat} {gb cb : Nat → Int32} (hf : f < 11) {x : Int32} (hn : bnI gb) : zM l g yX1_fallen cX1_fallen 5 (some .int) 2 0 [.ref (gA g 6 f 0), .int x] (zF κ f gb cb) μ ω (zF κ f gb cb) μ ω (some (.int (sm (falF gb x) (bn gb)))) := by
  refine zM_of (by decide) (Nat.le_of_ble_eq_true rfl) (fun p e R s m args below meth c hX => ?_)
  show zZ p l e R s m args below meth c g 5 _ _ _ _ 0 0 [(0, .ref (gA g 6 f 0)), (1, .int x)] []
  refine z_iconst (v := 0) hX dX1_fallen_0 (by decide) ?_
  refine z_istore_n (lv' := [(2, _), (0, _), (1, _)]) hX dX1_fallen_1 (by decide) rfl ?_
  refine z_iconst (v := 0) hX dX1_fallen_2 (by decide) ?_
  refine z_istore_n (lv' := [(3, _), (2, _), (0, _), (1, _)]) hX dX1_fallen_3 (by decide) rfl ?_
  have hL : ∀ (dz : Nat) (k : Nat) (sv : Int32), bn gb - k = dz → k ≤ bn gb → sv = sm (falF gb x) k → zZ p l e R s m args below meth c g 5 (zQ g (zF κ f gb cb) μ ω (some (.int (sm (falF gb x) (bn gb)))) below args s 0) (zF κ f gb cb) μ ω 0 4 [(0, .ref (gA g 6 f 0)), (1, .int x), (2, .int sv), (3, .int (nI k))] [] := by
    intro dz
    induction dz with
    | zero =>
      intro k sv hd hk hs
      have hkn : k = bn gb := by omega
      refine z_iload_n hX dX1_fallen_4 3 rfl ?_
      refine z_aload_n hX dX1_fallen_5 0 rfl ?_
      refine zg_X1_count hX hf  fl_RX1_21 dX1_fallen_6 ?_
      refine z_icmp_ge (tgt := 50) hX dX1_fallen_9 (by decide) (fun h9 => ?_) (fun h9 => absurd h9 (Classical.not_not.mpr (by rw [hkn]; exact cnt_le hn)))
      refine z_iload_n hX dX1_fallen_50 2 rfl ?_
      exact z_iretI hX dX1_fallen_51 (by decide) (by rw [hs, hkn]) (fun _ h => h)
    | succ dz ih =>
      intro k sv hd hk hs
      have hkn : k < bn gb := by omega
      refine z_iload_n hX dX1_fallen_4 3 rfl ?_
      refine z_aload_n hX dX1_fallen_5 0 rfl ?_
      refine zg_X1_count hX hf  fl_RX1_21 dX1_fallen_6 ?_
      refine z_icmp_ge (tgt := 50) hX dX1_fallen_9 (by decide) (fun h9 => absurd h9 (cnt_gt hn hkn)) (fun h9 => ?_)
      refine z_aload_n hX dX1_fallen_12 0 rfl ?_
      refine z_iload_n hX dX1_fallen_13 3 rfl ?_
      refine z_callV1 hX (ok_line_in l hf hn hkn) cv_RX1_57 (zRc6 hf) dX1_fallen_14 (by decide) rfl rfl (Nat.le_of_ble_eq_true rfl) ?_
      refine z_astore (lv' := [(4, _), (0, _), (1, _), (2, _), (3, _)]) hX dX1_fallen_17 (by decide) rfl ?_
      refine z_aload hX dX1_fallen_19 0 rfl ?_
      refine z_ifnull hX dX1_fallen_21 ?_
      refine z_aload hX dX1_fallen_24 0 rfl ?_
      refine zg_X3_side hX hf (lt12 hn hkn) hkn  fl_RX1_79 dX1_fallen_26 ?_
      refine z_iload_n hX dX1_fallen_29 2 rfl ?_
      refine z_icmp_ne (tgt := 44) hX dX1_fallen_30 (by decide) (fun h30 => ?_) (fun h30 => ?_)
      · skip
        refine z_iinc (v := nI (k + 1)) (lv' := [(3, _), (4, _), (0, _), (1, _), (2, _)]) hX dX1_fallen_44 4 rfl (nI_1 k) (by decide) rfl ?_
        refine z_goto (tgt := 4) hX dX1_fallen_47 (by decide) ?_
        refine z_sub [2, 3, 4, 0] rfl ?_
        exact ih (k + 1) _ (by omega) hkn (sm_n hs (if_neg (fun q => h30 q.1)))
      · skip
        refine z_aload hX dX1_fallen_33 0 rfl ?_
        refine z_callV1 hX (ok_X3_hasFallen l hf (lt12 hn hkn) hkn) cv_RX1_172 (zRc9 hf (lt12 hn hkn)) dX1_fallen_35 (by decide) rfl rfl (Nat.le_of_ble_eq_true rfl) ?_
        refine z_if_eqB (tgt := 44) hX dX1_fallen_38 (by decide) (fun h38 => ?_) (fun h38 => ?_)
        · skip
          refine z_iinc (v := nI (k + 1)) (lv' := [(3, _), (4, _), (0, _), (1, _), (2, _)]) hX dX1_fallen_44 4 rfl (nI_1 k) (by decide) rfl ?_
          refine z_goto (tgt := 4) hX dX1_fallen_47 (by decide) ?_
          refine z_sub [2, 3, 4, 0] rfl ?_
          exact ih (k + 1) _ (by omega) hkn (sm_n hs (if_neg (fun q => h38 q.2)))
        · skip
          refine z_iinc (v := sv + 1) (lv' := [(2, _), (4, _), (0, _), (1, _), (3, _)]) hX dX1_fallen_41 3 rfl rfl (by decide) rfl ?_
          refine z_iinc (v := nI (k + 1)) (lv' := [(3, _), (2, _), (4, _), (0, _), (1, _)]) hX dX1_fallen_44 4 rfl (nI_1 k) (by decide) rfl ?_
          refine z_goto (tgt := 4) hX dX1_fallen_47 (by decide) ?_
          refine z_sub [3, 4, 1, 0] rfl ?_
          exact ih (k + 1) _ (by omega) hkn (sm_y hs (if_pos ⟨h30, h38⟩))
  refine z_sub [2, 3, 1, 0] rfl ?_
  exact hL (bn gb) 0 0 (Nat.sub_zero _) (Nat.zero_le _) rfl
set_option maxHeartbeats 4000000 in
set_option maxRecDepth 100000 in
theorem ok_X1_moraleSum (l : Launch) {g : zG} {κ : zKp} {μ : zMu} {ω : zOm} {f : Nat} {gb cb : Nat → Int32} (hf : f < 11) (hn : bnI gb) : zM l g yX1_moraleSum cX1_moraleSum 4 (some .int) 2 0 [.ref (gA g 6 f 0)] (zF κ f gb cb) μ ω (zF κ f gb cb) μ ω (some (.int (sm (morF gb) (bn gb)))) := by
  refine zM_of (by decide) (Nat.le_of_ble_eq_true rfl) (fun p e R s m args below meth c hX => ?_)
  show zZ p l e R s m args below meth c g 4 _ _ _ _ 0 0 [(0, .ref (gA g 6 f 0))] []
  refine z_iconst (v := 0) hX dX1_moraleSum_0 (by decide) ?_
  refine z_istore_n (lv' := [(1, _), (0, _)]) hX dX1_moraleSum_1 (by decide) rfl ?_
  refine z_iconst (v := 0) hX dX1_moraleSum_2 (by decide) ?_
  refine z_istore_n (lv' := [(2, _), (1, _), (0, _)]) hX dX1_moraleSum_3 (by decide) rfl ?_
  have hL : ∀ (dz : Nat) (k : Nat) (sv : Int32), bn gb - k = dz → k ≤ bn gb → sv = sm (morF gb) k → zZ p l e R s m args below meth c g 4 (zQ g (zF κ f gb cb) μ ω (some (.int (sm (morF gb) (bn gb)))) below args s 0) (zF κ f gb cb) μ ω 0 4 [(0, .ref (gA g 6 f 0)), (1, .int sv), (2, .int (nI k))] [] := by
    intro dz
    induction dz with
    | zero =>
      intro k sv hd hk hs
      have hkn : k = bn gb := by omega
      refine z_iload_n hX dX1_moraleSum_4 2 rfl ?_
      refine z_aload_n hX dX1_moraleSum_5 0 rfl ?_
      refine zg_X1_count hX hf  fl_RX1_21 dX1_moraleSum_6 ?_
      refine z_icmp_ge (tgt := 42) hX dX1_moraleSum_9 (by decide) (fun h9 => ?_) (fun h9 => absurd h9 (Classical.not_not.mpr (by rw [hkn]; exact cnt_le hn)))
      refine z_iload_n hX dX1_moraleSum_42 1 rfl ?_
      exact z_iretI hX dX1_moraleSum_43 (by decide) (by rw [hs, hkn]) (fun _ h => h)
    | succ dz ih =>
      intro k sv hd hk hs
      have hkn : k < bn gb := by omega
      refine z_iload_n hX dX1_moraleSum_4 2 rfl ?_
      refine z_aload_n hX dX1_moraleSum_5 0 rfl ?_
      refine zg_X1_count hX hf  fl_RX1_21 dX1_moraleSum_6 ?_
      refine z_icmp_ge (tgt := 42) hX dX1_moraleSum_9 (by decide) (fun h9 => absurd h9 (cnt_gt hn hkn)) (fun h9 => ?_)
      refine z_aload_n hX dX1_moraleSum_12 0 rfl ?_
      refine z_iload_n hX dX1_moraleSum_13 2 rfl ?_
      refine z_callV1 hX (ok_line_in l hf hn hkn) cv_RX1_57 (zRc6 hf) dX1_moraleSum_14 (by decide) rfl rfl (Nat.le_of_ble_eq_true rfl) ?_
      refine z_astore_n (lv' := [(3, _), (0, _), (1, _), (2, _)]) hX dX1_moraleSum_17 (by decide) rfl ?_
      refine z_aload_n hX dX1_moraleSum_18 0 rfl ?_
      refine z_ifnull hX dX1_moraleSum_19 ?_
      refine z_aload_n hX dX1_moraleSum_22 0 rfl ?_
      refine z_callV1 hX (ok_X3_hasFallen l hf (lt12 hn hkn) hkn) cv_RX1_172 (zRc9 hf (lt12 hn hkn)) dX1_moraleSum_23 (by decide) rfl rfl (Nat.le_of_ble_eq_true rfl) ?_
      refine z_if_neB (tgt := 36) hX dX1_moraleSum_26 (by decide) (fun h26 => ?_) (fun h26 => ?_)
      · skip
        refine z_iinc (v := nI (k + 1)) (lv' := [(2, _), (3, _), (0, _), (1, _)]) hX dX1_moraleSum_36 3 rfl (nI_1 k) (by decide) rfl ?_
        refine z_goto (tgt := 4) hX dX1_moraleSum_39 (by decide) ?_
        refine z_sub [2, 3, 0] rfl ?_
        exact ih (k + 1) _ (by omega) hkn (sm_n hs (if_pos h26))
      · skip
        refine z_iload_n hX dX1_moraleSum_29 2 rfl ?_
        refine z_aload_n hX dX1_moraleSum_30 0 rfl ?_
        refine zg_X3_morale hX hf (lt12 hn hkn) hkn  fl_RX1_98 dX1_moraleSum_31 ?_
        refine z_iadd hX dX1_moraleSum_34 ?_
        refine z_istore_n (lv' := [(1, _), (3, _), (0, _), (2, _)]) hX dX1_moraleSum_35 (by decide) rfl ?_
        refine z_iinc (v := nI (k + 1)) (lv' := [(2, _), (1, _), (3, _), (0, _)]) hX dX1_moraleSum_36 3 rfl (nI_1 k) (by decide) rfl ?_
        refine z_goto (tgt := 4) hX dX1_moraleSum_39 (by decide) ?_
        refine z_sub [3, 1, 0] rfl ?_
        exact ih (k + 1) _ (by omega) hkn (sm_y hs (if_neg h26))
  refine z_sub [2, 1, 0] rfl ?_
  exact hL (bn gb) 0 0 (Nat.sub_zero _) (Nat.zero_le _) rfl
set_option maxHeartbeats 4000000 in
set_option maxRecDepth 100000 in
theorem ok_X1_standingCount (l : Launch) {g : zG} {κ : zKp} {μ : zMu} {ω : zOm} {f : Nat} {gb cb : Nat → Int32} (hf : f < 11) (hn : bnI gb) : zM l g yX1_standingCount cX1_standingCount 4 (some .int) 2 0 [.ref (gA g 6 f 0)] (zF κ f gb cb) μ ω (zF κ f gb cb) μ ω (some (.int (sm (staF gb) (bn gb)))) := by
  refine zM_of (by decide) (Nat.le_of_ble_eq_true rfl) (fun p e R s m args below meth c hX => ?_)
  show zZ p l e R s m args below meth c g 4 _ _ _ _ 0 0 [(0, .ref (gA g 6 f 0))] []
  refine z_iconst (v := 0) hX dX1_standingCount_0 (by decide) ?_
  refine z_istore_n (lv' := [(1, _), (0, _)]) hX dX1_standingCount_1 (by decide) rfl ?_
  refine z_iconst (v := 0) hX dX1_standingCount_2 (by decide) ?_
  refine z_istore_n (lv' := [(2, _), (1, _), (0, _)]) hX dX1_standingCount_3 (by decide) rfl ?_
  have hL : ∀ (dz : Nat) (k : Nat) (sv : Int32), bn gb - k = dz → k ≤ bn gb → sv = sm (staF gb) k → zZ p l e R s m args below meth c g 4 (zQ g (zF κ f gb cb) μ ω (some (.int (sm (staF gb) (bn gb)))) below args s 0) (zF κ f gb cb) μ ω 0 4 [(0, .ref (gA g 6 f 0)), (1, .int sv), (2, .int (nI k))] [] := by
    intro dz
    induction dz with
    | zero =>
      intro k sv hd hk hs
      have hkn : k = bn gb := by omega
      refine z_iload_n hX dX1_standingCount_4 2 rfl ?_
      refine z_aload_n hX dX1_standingCount_5 0 rfl ?_
      refine zg_X1_count hX hf  fl_RX1_21 dX1_standingCount_6 ?_
      refine z_icmp_ge (tgt := 38) hX dX1_standingCount_9 (by decide) (fun h9 => ?_) (fun h9 => absurd h9 (Classical.not_not.mpr (by rw [hkn]; exact cnt_le hn)))
      refine z_iload_n hX dX1_standingCount_38 1 rfl ?_
      exact z_iretI hX dX1_standingCount_39 (by decide) (by rw [hs, hkn]) (fun _ h => h)
    | succ dz ih =>
      intro k sv hd hk hs
      have hkn : k < bn gb := by omega
      refine z_iload_n hX dX1_standingCount_4 2 rfl ?_
      refine z_aload_n hX dX1_standingCount_5 0 rfl ?_
      refine zg_X1_count hX hf  fl_RX1_21 dX1_standingCount_6 ?_
      refine z_icmp_ge (tgt := 38) hX dX1_standingCount_9 (by decide) (fun h9 => absurd h9 (cnt_gt hn hkn)) (fun h9 => ?_)
      refine z_aload_n hX dX1_standingCount_12 0 rfl ?_
      refine z_iload_n hX dX1_standingCount_13 2 rfl ?_
      refine z_callV1 hX (ok_line_in l hf hn hkn) cv_RX1_57 (zRc6 hf) dX1_standingCount_14 (by decide) rfl rfl (Nat.le_of_ble_eq_true rfl) ?_
      refine z_astore_n (lv' := [(3, _), (0, _), (1, _), (2, _)]) hX dX1_standingCount_17 (by decide) rfl ?_
      refine z_aload_n hX dX1_standingCount_18 0 rfl ?_
      refine z_ifnull hX dX1_standingCount_19 ?_
      refine z_aload_n hX dX1_standingCount_22 0 rfl ?_
      refine z_callV1 hX (ok_X3_stands l hf (lt12 hn hkn) hkn) cv_RX1_113 (zRc9 hf (lt12 hn hkn)) dX1_standingCount_23 (by decide) rfl rfl (Nat.le_of_ble_eq_true rfl) ?_
      refine z_if_eqB (tgt := 32) hX dX1_standingCount_26 (by decide) (fun h26 => ?_) (fun h26 => ?_)
      · skip
        refine z_iinc (v := nI (k + 1)) (lv' := [(2, _), (3, _), (0, _), (1, _)]) hX dX1_standingCount_32 3 rfl (nI_1 k) (by decide) rfl ?_
        refine z_goto (tgt := 4) hX dX1_standingCount_35 (by decide) ?_
        refine z_sub [2, 3, 0] rfl ?_
        exact ih (k + 1) _ (by omega) hkn (sm_n hs (if_neg h26))
      · skip
        refine z_iinc (v := sv + 1) (lv' := [(1, _), (3, _), (0, _), (2, _)]) hX dX1_standingCount_29 2 rfl rfl (by decide) rfl ?_
        refine z_iinc (v := nI (k + 1)) (lv' := [(2, _), (1, _), (3, _), (0, _)]) hX dX1_standingCount_32 3 rfl (nI_1 k) (by decide) rfl ?_
        refine z_goto (tgt := 4) hX dX1_standingCount_35 (by decide) ?_
        refine z_sub [3, 1, 0] rfl ?_
        exact ih (k + 1) _ (by omega) hkn (sm_y hs (if_pos h26))
  refine z_sub [2, 1, 0] rfl ?_
  exact hL (bn gb) 0 0 (Nat.sub_zero _) (Nat.zero_le _) rfl
set_option maxHeartbeats 4000000 in
set_option maxRecDepth 100000 in
theorem ok_X1_strongerThan (l : Launch) {g : zG} {κ : zKp} {μ : zMu} {ω : zOm} {f : Nat} {gb cb : Nat → Int32} (hf : f < 11) {i : Nat} (hn : bnI gb) (hlt : i < bn gb) : zM l g yX1_strongerThan cX1_strongerThan 5 (some .int) 2 0 [.ref (gA g 6 f 0), .ref (gA g 9 f i)] (zF κ f gb cb) μ ω (zF κ f gb cb) μ ω (some (.int (rankB gb i))) := by
  refine zM_of (by decide) (Nat.le_of_ble_eq_true rfl) (fun p e R s m args below meth c hX => ?_)
  show zZ p l e R s m args below meth c g 5 _ _ _ _ 0 0 [(0, .ref (gA g 6 f 0)), (1, .ref (gA g 9 f i))] []
  refine z_iconst (v := 0) hX dX1_strongerThan_0 (by decide) ?_
  refine z_istore_n (lv' := [(2, _), (0, _), (1, _)]) hX dX1_strongerThan_1 (by decide) rfl ?_
  refine z_iconst (v := 0) hX dX1_strongerThan_2 (by decide) ?_
  refine z_istore_n (lv' := [(3, _), (2, _), (0, _), (1, _)]) hX dX1_strongerThan_3 (by decide) rfl ?_
  have hL : ∀ (dz : Nat) (k : Nat) (sv : Int32), bn gb - k = dz → k ≤ bn gb → sv = sm (topF gb i) k → zZ p l e R s m args below meth c g 5 (zQ g (zF κ f gb cb) μ ω (some (.int (rankB gb i))) below args s 0) (zF κ f gb cb) μ ω 0 4 [(0, .ref (gA g 6 f 0)), (1, .ref (gA g 9 f i)), (2, .int sv), (3, .int (nI k))] [] := by
    intro dz
    induction dz with
    | zero =>
      intro k sv hd hk hs
      have hkn : k = bn gb := by omega
      refine z_iload_n hX dX1_strongerThan_4 3 rfl ?_
      refine z_aload_n hX dX1_strongerThan_5 0 rfl ?_
      refine zg_X1_count hX hf  fl_RX1_21 dX1_strongerThan_6 ?_
      refine z_icmp_ge (tgt := 65) hX dX1_strongerThan_9 (by decide) (fun h9 => ?_) (fun h9 => absurd h9 (Classical.not_not.mpr (by rw [hkn]; exact cnt_le hn)))
      refine z_iload_n hX dX1_strongerThan_65 2 rfl ?_
      exact z_iretI hX dX1_strongerThan_66 (by decide) (by rw [hs, hkn]; rfl) (fun _ h => h)
    | succ dz ih =>
      intro k sv hd hk hs
      have hkn : k < bn gb := by omega
      refine z_iload_n hX dX1_strongerThan_4 3 rfl ?_
      refine z_aload_n hX dX1_strongerThan_5 0 rfl ?_
      refine zg_X1_count hX hf  fl_RX1_21 dX1_strongerThan_6 ?_
      refine z_icmp_ge (tgt := 65) hX dX1_strongerThan_9 (by decide) (fun h9 => absurd h9 (cnt_gt hn hkn)) (fun h9 => ?_)
      refine z_aload_n hX dX1_strongerThan_12 0 rfl ?_
      refine z_iload_n hX dX1_strongerThan_13 3 rfl ?_
      refine z_callV1 hX (ok_line_in l hf hn hkn) cv_RX1_57 (zRc6 hf) dX1_strongerThan_14 (by decide) rfl rfl (Nat.le_of_ble_eq_true rfl) ?_
      refine z_astore (lv' := [(4, _), (0, _), (1, _), (2, _), (3, _)]) hX dX1_strongerThan_17 (by decide) rfl ?_
      refine z_aload hX dX1_strongerThan_19 0 rfl ?_
      refine z_ifnull hX dX1_strongerThan_21 ?_
      refine z_aload hX dX1_strongerThan_24 0 rfl ?_
      refine zg_X3_strength hX hf (lt12 hn hkn) hkn  fl_RX1_95 dX1_strongerThan_26 ?_
      refine z_aload_n hX dX1_strongerThan_29 2 rfl ?_
      refine zg_X3_strength hX hf (lt12 hn hlt) hlt  fl_RX1_95 dX1_strongerThan_30 ?_
      refine z_icmp_gt (tgt := 56) hX dX1_strongerThan_33 (by decide) (fun h33 => ?_) (fun h33 => ?_)
      · skip
        refine z_iinc (v := sv + 1) (lv' := [(2, _), (4, _), (0, _), (1, _), (3, _)]) hX dX1_strongerThan_56 3 rfl rfl (by decide) rfl ?_
        refine z_iinc (v := nI (k + 1)) (lv' := [(3, _), (2, _), (4, _), (0, _), (1, _)]) hX dX1_strongerThan_59 4 rfl (nI_1 k) (by decide) rfl ?_
        refine z_goto (tgt := 4) hX dX1_strongerThan_62 (by decide) ?_
        refine z_sub [3, 4, 1, 0] rfl ?_
        exact ih (k + 1) _ (by omega) hkn (sm_y hs (if_pos (Or.inl h33)))
      · skip
        refine z_aload hX dX1_strongerThan_36 0 rfl ?_
        refine zg_X3_strength hX hf (lt12 hn hkn) hkn  fl_RX1_95 dX1_strongerThan_38 ?_
        refine z_aload_n hX dX1_strongerThan_41 2 rfl ?_
        refine zg_X3_strength hX hf (lt12 hn hlt) hlt  fl_RX1_95 dX1_strongerThan_42 ?_
        refine z_icmp_ne (tgt := 59) hX dX1_strongerThan_45 (by decide) (fun h45 => ?_) (fun h45 => ?_)
        · skip
          refine z_iinc (v := nI (k + 1)) (lv' := [(3, _), (4, _), (0, _), (1, _), (2, _)]) hX dX1_strongerThan_59 4 rfl (nI_1 k) (by decide) rfl ?_
          refine z_goto (tgt := 4) hX dX1_strongerThan_62 (by decide) ?_
          refine z_sub [2, 3, 4, 0] rfl ?_
          exact ih (k + 1) _ (by omega) hkn (sm_n hs (if_neg (fun q => q.elim h33 (fun z => h45 z.1))))
        · skip
          refine z_iload_n hX dX1_strongerThan_48 4 rfl ?_
          refine z_aload_n hX dX1_strongerThan_49 2 rfl ?_
          refine zg_X3_number hX hf (lt12 hn hlt) hlt  fl_RX1_147 dX1_strongerThan_50 ?_
          refine z_icmp_ge (tgt := 59) hX dX1_strongerThan_53 (by decide) (fun h53 => ?_) (fun h53 => ?_)
          · skip
            refine z_iinc (v := nI (k + 1)) (lv' := [(3, _), (4, _), (0, _), (1, _), (2, _)]) hX dX1_strongerThan_59 4 rfl (nI_1 k) (by decide) rfl ?_
            refine z_goto (tgt := 4) hX dX1_strongerThan_62 (by decide) ?_
            refine z_sub [2, 3, 4, 0] rfl ?_
            exact ih (k + 1) _ (by omega) hkn (sm_n hs (if_neg (fun q => q.elim h33 (fun z => absurd z.2 (Int32.not_lt.mpr h53)))))
          · skip
            refine z_iinc (v := sv + 1) (lv' := [(2, _), (4, _), (0, _), (1, _), (3, _)]) hX dX1_strongerThan_56 3 rfl rfl (by decide) rfl ?_
            refine z_iinc (v := nI (k + 1)) (lv' := [(3, _), (2, _), (4, _), (0, _), (1, _)]) hX dX1_strongerThan_59 4 rfl (nI_1 k) (by decide) rfl ?_
            refine z_goto (tgt := 4) hX dX1_strongerThan_62 (by decide) ?_
            refine z_sub [3, 4, 1, 0] rfl ?_
            exact ih (k + 1) _ (by omega) hkn (sm_y hs (if_pos (Or.inr ⟨h45, Int32.not_le.mp h53⟩)))
  refine z_sub [2, 3, 1, 0] rfl ?_
  exact hL (bn gb) 0 0 (Nat.sub_zero _) (Nat.zero_le _) rfl
set_option maxHeartbeats 4000000 in
set_option maxRecDepth 100000 in
theorem ok_X1_unfallenCount (l : Launch) {g : zG} {κ : zKp} {μ : zMu} {ω : zOm} {f : Nat} {gb cb : Nat → Int32} (hf : f < 11) (hn : bnI gb) : zM l g yX1_unfallenCount cX1_unfallenCount 1 (some .int) 3 0 [.ref (gA g 6 f 0)] (zF κ f gb cb) μ ω (zF κ f gb cb) μ ω (some (.int (gb 0 - falB gb 0 - falB gb 1))) := by
  refine zM_of (by decide) (Nat.le_of_ble_eq_true rfl) (fun p e R s m args below meth c hX => ?_)
  show zZ p l e R s m args below meth c g 1 _ _ _ _ 0 0 [(0, .ref (gA g 6 f 0))] []
  refine z_aload_n hX dX1_unfallenCount_0 0 rfl ?_
  refine zg_X1_count hX hf  fl_RX1_21 dX1_unfallenCount_1 ?_
  refine z_aload_n hX dX1_unfallenCount_4 0 rfl ?_
  refine z_iconst (v := 0) hX dX1_unfallenCount_5 (by decide) ?_
  refine z_callV1 hX (ok_X1_fallen l hf hn) cv_RX1_178 (zRc6 hf) dX1_unfallenCount_6 (by decide) rfl rfl (Nat.le_of_ble_eq_true rfl) ?_
  refine z_isub hX dX1_unfallenCount_9 ?_
  refine z_aload_n hX dX1_unfallenCount_10 0 rfl ?_
  refine z_iconst (v := 1) hX dX1_unfallenCount_11 (by decide) ?_
  refine z_callV1 hX (ok_X1_fallen l hf hn) cv_RX1_178 (zRc6 hf) dX1_unfallenCount_12 (by decide) rfl rfl (Nat.le_of_ble_eq_true rfl) ?_
  refine z_isub hX dX1_unfallenCount_15 ?_
  exact z_iretI hX dX1_unfallenCount_16 (by decide) rfl (fun _ h => h)
set_option maxHeartbeats 4000000 in
set_option maxRecDepth 100000 in
theorem ok_rank_no (l : Launch) {g : zG} {κ : zKp} {μ : zMu} {ω : zOm} {f : Nat} {gb cb : Nat → Int32} (hf : f < 11) {x : Int32} (hn : bnI gb) (hx : ∀ j, j < bn gb → ¬ rankB gb j = x) : zM l g yX1_lineOfRank cX1_lineOfRank 4 (some .int) 3 0 [.ref (gA g 6 f 0), .int x] (zF κ f gb cb) μ ω (zF κ f gb cb) μ ω (some (.int (-1))) := by
  refine zM_of (by decide) (Nat.le_of_ble_eq_true rfl) (fun p e R s m args below meth c hX => ?_)
  show zZ p l e R s m args below meth c g 4 _ _ _ _ 0 0 [(0, .ref (gA g 6 f 0)), (1, .int x)] []
  refine z_iconst (v := 0) hX dX1_lineOfRank_0 (by decide) ?_
  refine z_istore_n (lv' := [(2, _), (0, _), (1, _)]) hX dX1_lineOfRank_1 (by decide) rfl ?_
  have hL : ∀ (dz : Nat) (k : Nat), bn gb - k = dz → k ≤ bn gb → zZ p l e R s m args below meth c g 4 (zQ g (zF κ f gb cb) μ ω (some (.int (-1))) below args s 0) (zF κ f gb cb) μ ω 0 2 [(0, .ref (gA g 6 f 0)), (1, .int x), (2, .int (nI k))] [] := by
    intro dz
    induction dz with
    | zero =>
      intro k hd hk
      have hkn : k = bn gb := by omega
      refine z_iload_n hX dX1_lineOfRank_2 2 rfl ?_
      refine z_aload_n hX dX1_lineOfRank_3 0 rfl ?_
      refine zg_X1_count hX hf  fl_RX1_21 dX1_lineOfRank_4 ?_
      refine z_icmp_ge (tgt := 37) hX dX1_lineOfRank_7 (by decide) (fun h7 => ?_) (fun h7 => absurd h7 (Classical.not_not.mpr (by rw [hkn]; exact cnt_le hn)))
      refine z_iconst (v := -1) hX dX1_lineOfRank_37 (by decide) ?_
      exact z_iretI hX dX1_lineOfRank_38 (by decide) rfl (fun _ h => h)
    | succ dz ih =>
      intro k hd hk
      have hkn : k < bn gb := by omega
      refine z_iload_n hX dX1_lineOfRank_2 2 rfl ?_
      refine z_aload_n hX dX1_lineOfRank_3 0 rfl ?_
      refine zg_X1_count hX hf  fl_RX1_21 dX1_lineOfRank_4 ?_
      refine z_icmp_ge (tgt := 37) hX dX1_lineOfRank_7 (by decide) (fun h7 => absurd h7 (cnt_gt hn hkn)) (fun h7 => ?_)
      refine z_aload_n hX dX1_lineOfRank_10 0 rfl ?_
      refine z_iload_n hX dX1_lineOfRank_11 2 rfl ?_
      refine z_callV1 hX (ok_line_in l hf hn hkn) cv_RX1_57 (zRc6 hf) dX1_lineOfRank_12 (by decide) rfl rfl (Nat.le_of_ble_eq_true rfl) ?_
      refine z_astore_n (lv' := [(3, _), (0, _), (1, _), (2, _)]) hX dX1_lineOfRank_15 (by decide) rfl ?_
      refine z_aload_n hX dX1_lineOfRank_16 0 rfl ?_
      refine z_ifnull hX dX1_lineOfRank_17 ?_
      refine z_aload_n hX dX1_lineOfRank_20 1 rfl ?_
      refine z_aload_n hX dX1_lineOfRank_21 0 rfl ?_
      refine z_callV1 hX (ok_X1_strongerThan l hf hn hkn) cv_RX1_175 (zRc6 hf) dX1_lineOfRank_22 (by decide) rfl rfl (Nat.le_of_ble_eq_true rfl) ?_
      refine z_iload_n hX dX1_lineOfRank_25 2 rfl ?_
      refine z_icmp_ne (tgt := 31) hX dX1_lineOfRank_26 (by decide) (fun h26 => ?_) (fun h26 => absurd h26 (hx k hkn))
      refine z_iinc (v := nI (k + 1)) (lv' := [(2, _), (3, _), (0, _), (1, _)]) hX dX1_lineOfRank_31 3 rfl (nI_1 k) (by decide) rfl ?_
      refine z_goto (tgt := 2) hX dX1_lineOfRank_34 (by decide) ?_
      refine z_sub [2, 3, 0] rfl ?_
      exact ih (k + 1) (by omega) hkn
  refine z_sub [1, 2, 0] rfl ?_
  exact hL (bn gb) 0 (Nat.sub_zero _) (Nat.zero_le _)
set_option maxHeartbeats 4000000 in
set_option maxRecDepth 100000 in
theorem ok_rank_yes (l : Launch) {g : zG} {κ : zKp} {μ : zMu} {ω : zOm} {f : Nat} {gb cb : Nat → Int32} (hf : f < 11) {x : Int32} (hn : bnI gb) {i : Nat} (hlt : i < bn gb) (hx : rankB gb i = x) (hx2 : ∀ j, j < i → ¬ rankB gb j = x) : zM l g yX1_lineOfRank cX1_lineOfRank 4 (some .int) 3 0 [.ref (gA g 6 f 0), .int x] (zF κ f gb cb) μ ω (zF κ f gb cb) μ ω (some (.int (nI i))) := by
  refine zM_of (by decide) (Nat.le_of_ble_eq_true rfl) (fun p e R s m args below meth c hX => ?_)
  show zZ p l e R s m args below meth c g 4 _ _ _ _ 0 0 [(0, .ref (gA g 6 f 0)), (1, .int x)] []
  refine z_iconst (v := 0) hX dX1_lineOfRank_0 (by decide) ?_
  refine z_istore_n (lv' := [(2, _), (0, _), (1, _)]) hX dX1_lineOfRank_1 (by decide) rfl ?_
  have hL : ∀ (dz : Nat) (k : Nat), bn gb - k = dz → k ≤ i → zZ p l e R s m args below meth c g 4 (zQ g (zF κ f gb cb) μ ω (some (.int (nI i))) below args s 0) (zF κ f gb cb) μ ω 0 2 [(0, .ref (gA g 6 f 0)), (1, .int x), (2, .int (nI k))] [] := by
    intro dz
    induction dz with
    | zero =>
      intro k hd hk
      have hkn : k = bn gb := by omega
      refine z_iload_n hX dX1_lineOfRank_2 2 rfl ?_
      refine z_aload_n hX dX1_lineOfRank_3 0 rfl ?_
      refine zg_X1_count hX hf  fl_RX1_21 dX1_lineOfRank_4 ?_
      exact absurd hk (by omega)
    | succ dz ih =>
      intro k hd hk
      have hkn : k < bn gb := by omega
      refine z_iload_n hX dX1_lineOfRank_2 2 rfl ?_
      refine z_aload_n hX dX1_lineOfRank_3 0 rfl ?_
      refine zg_X1_count hX hf  fl_RX1_21 dX1_lineOfRank_4 ?_
      refine z_icmp_ge (tgt := 37) hX dX1_lineOfRank_7 (by decide) (fun h7 => absurd h7 (cnt_gt hn (show k < bn gb by omega))) (fun h7 => ?_)
      refine z_aload_n hX dX1_lineOfRank_10 0 rfl ?_
      refine z_iload_n hX dX1_lineOfRank_11 2 rfl ?_
      refine z_callV1 hX (ok_line_in l hf hn hkn) cv_RX1_57 (zRc6 hf) dX1_lineOfRank_12 (by decide) rfl rfl (Nat.le_of_ble_eq_true rfl) ?_
      refine z_astore_n (lv' := [(3, _), (0, _), (1, _), (2, _)]) hX dX1_lineOfRank_15 (by decide) rfl ?_
      refine z_aload_n hX dX1_lineOfRank_16 0 rfl ?_
      refine z_ifnull hX dX1_lineOfRank_17 ?_
      refine z_aload_n hX dX1_lineOfRank_20 1 rfl ?_
      refine z_aload_n hX dX1_lineOfRank_21 0 rfl ?_
      refine z_callV1 hX (ok_X1_strongerThan l hf hn hkn) cv_RX1_175 (zRc6 hf) dX1_lineOfRank_22 (by decide) rfl rfl (Nat.le_of_ble_eq_true rfl) ?_
      refine z_iload_n hX dX1_lineOfRank_25 2 rfl ?_
      refine z_icmp_ne (tgt := 31) hX dX1_lineOfRank_26 (by decide) (fun h26 => ?_) (fun h26 => ?_)
      · skip
        refine z_iinc (v := nI (k + 1)) (lv' := [(2, _), (3, _), (0, _), (1, _)]) hX dX1_lineOfRank_31 3 rfl (nI_1 k) (by decide) rfl ?_
        refine z_goto (tgt := 2) hX dX1_lineOfRank_34 (by decide) ?_
        refine z_sub [2, 3, 0] rfl ?_
        exact ih (k + 1) (by omega) (show k + 1 ≤ i by rcases Nat.lt_or_ge k i with q | q; exact q; exact absurd (show rankB gb k = x by rw [show k = i by omega]; exact hx) h26)
      · skip
        refine z_iload_n hX dX1_lineOfRank_29 3 rfl ?_
        exact z_iretI hX dX1_lineOfRank_30 (by decide) (by rw [show k = i by rcases Nat.lt_or_ge k i with q | q; exact absurd h26 (hx2 k q); omega]) (fun _ h => h)
  refine z_sub [1, 2, 0] rfl ?_
  exact hL (bn gb) 0 (Nat.sub_zero _) (Nat.zero_le _)
set_option maxHeartbeats 4000000 in
set_option maxRecDepth 100000 in
theorem ok_X1_front (l : Launch) {g : zG} {κ : zKp} {μ : zMu} {ω : zOm} {f : Nat} {gb cb : Nat → Int32} (hf : f < 11) {x y : Int32} (hn : bnI gb) (hc : cb = cellsOf gb) (hy : 0 ≤ y ∧ y < 3) : zM l g yX1_front cX1_front 7 (some .int) 3 0 [.ref (gA g 6 f 0), .int x, .int y] (zF κ f gb cb) μ ω (zF κ f gb cb) μ ω (some (.int (froN gb x y 10))) := by
  refine zM_of (by decide) (Nat.le_of_ble_eq_true rfl) (fun p e R s m args below meth c hX => ?_)
  show zZ p l e R s m args below meth c g 7 _ _ _ _ 0 0 [(0, .ref (gA g 6 f 0)), (1, .int x), (2, .int y)] []
  refine z_iconst (v := -1) hX dX1_front_0 (by decide) ?_
  refine z_istore_n (lv' := [(3, _), (0, _), (1, _), (2, _)]) hX dX1_front_1 (by decide) rfl ?_
  refine z_iconst (v := 0) hX dX1_front_2 (by decide) ?_
  refine z_istore (lv' := [(4, _), (3, _), (0, _), (1, _), (2, _)]) hX dX1_front_3 (by decide) rfl ?_
  have hL : ∀ (dz : Nat) (k : Nat) (sv : Int32), 10 - k = dz → k ≤ 10 → sv = froN gb x y k → zZ p l e R s m args below meth c g 7 (zQ g (zF κ f gb cb) μ ω (some (.int (froN gb x y 10))) below args s 0) (zF κ f gb cb) μ ω 0 5 [(0, .ref (gA g 6 f 0)), (1, .int x), (2, .int y), (3, .int sv), (4, .int (nI k))] [] := by
    intro dz
    induction dz with
    | zero =>
      intro k sv hd hk hs
      have hkn : k = 10 := by omega
      refine z_iload hX dX1_front_5 4 rfl ?_
      refine z_bipush (v := 10) hX dX1_front_7 (by decide) ?_
      refine z_icmp_ge (tgt := 60) hX dX1_front_9 (by decide) (fun h9 => ?_) (fun h9 => absurd h9 (Classical.not_not.mpr (le_i (a := 10) (b := k) (by omega) (by omega))))
      refine z_iload_n hX dX1_front_60 3 rfl ?_
      exact z_iretI hX dX1_front_61 (by decide) (by rw [hs, hkn]) (fun _ h => h)
    | succ dz ih =>
      intro k sv hd hk hs
      have hkn : k < 10 := by omega
      refine z_iload hX dX1_front_5 4 rfl ?_
      refine z_bipush (v := 10) hX dX1_front_7 (by decide) ?_
      refine z_icmp_ge (tgt := 60) hX dX1_front_9 (by decide) (fun h9 => absurd h9 (nle_i (a := k) (b := 10) hkn (by decide))) (fun h9 => ?_)
      refine z_iload_n hX dX1_front_12 1 rfl ?_
      refine z_if_ne (tgt := 21) hX dX1_front_13 (by decide) (fun h13 => ?_) (fun h13 => ?_)
      · skip
        refine z_bipush (v := 9) hX dX1_front_21 (by decide) ?_
        refine z_iload hX dX1_front_23 4 rfl ?_
        refine z_isub hX dX1_front_25 ?_
        refine z_isv (show _ = frC x k from (if_neg h13).symm) ?_
        refine z_istore (lv' := [(5, _), (0, _), (1, _), (2, _), (3, _), (4, _)]) hX dX1_front_26 (by decide) rfl ?_
        refine z_aload_n hX dX1_front_28 1 rfl ?_
        refine z_iload_n hX dX1_front_29 3 rfl ?_
        refine z_iload hX dX1_front_30 0 rfl ?_
        rcases ho : occB gb y (frC x k) with _ | j
        · skip
          refine z_callV1 hX (ok_occ_n l hf hn hc ho) cv_RX1_75 (zRc6 hf) dX1_front_32 (by decide) rfl rfl (Nat.le_of_ble_eq_true rfl) ?_
          refine z_nstore (lv' := [(6, _), (5, _), (0, _), (1, _), (2, _), (3, _), (4, _)]) hX dX1_front_35 (by decide) rfl ?_
          refine z_nload hX dX1_front_37 0 rfl ?_
          refine z_ifnullN (tgt := 54) hX dX1_front_39 (by decide) ?_
          refine z_iinc (v := nI (k + 1)) (lv' := [(4, _), (6, _), (5, _), (0, _), (1, _), (2, _), (3, _)]) hX dX1_front_54 6 rfl (nI_1 k) (by decide) rfl ?_
          refine z_goto (tgt := 5) hX dX1_front_57 (by decide) ?_
          refine z_sub [3, 4, 5, 6, 0] rfl ?_
          exact ih (k + 1) _ (by omega) hkn (by rw [froN, if_neg (fun q => occ_out hn.1 hy (frC_in (by omega)) ho q.1)]; exact hs)
        · skip
          refine z_callV1 hX (ok_occ_s l hf hn hc ho) cv_RX1_75 (zRc6 hf) dX1_front_32 (by decide) rfl rfl (Nat.le_of_ble_eq_true rfl) ?_
          refine z_astore (lv' := [(6, _), (5, _), (0, _), (1, _), (2, _), (3, _), (4, _)]) hX dX1_front_35 (by decide) rfl ?_
          refine z_aload hX dX1_front_37 0 rfl ?_
          refine z_ifnull hX dX1_front_39 ?_
          refine z_aload hX dX1_front_42 0 rfl ?_
          refine zg_X3_side hX hf (lt12 hn (occ_some hn.1 ho).1) (occ_some hn.1 ho).1  fl_RX1_79 dX1_front_44 ?_
          refine z_iload_n hX dX1_front_47 3 rfl ?_
          refine z_icmp_ne (tgt := 54) hX dX1_front_48 (by decide) (fun h48 => ?_) (fun h48 => ?_)
          · skip
            refine z_iinc (v := nI (k + 1)) (lv' := [(4, _), (6, _), (5, _), (0, _), (1, _), (2, _), (3, _)]) hX dX1_front_54 6 rfl (nI_1 k) (by decide) rfl ?_
            refine z_goto (tgt := 5) hX dX1_front_57 (by decide) ?_
            refine z_sub [3, 4, 5, 6, 0] rfl ?_
            exact ih (k + 1) _ (by omega) hkn (by rw [froN, if_neg (fun q => h48 (by rw [← (occ_in hn.1 hy (frC_in (by omega)) ho).2]; exact q.2))]; exact hs)
          · skip
            refine z_iload hX dX1_front_51 1 rfl ?_
            refine z_istore_n (lv' := [(3, _), (6, _), (5, _), (0, _), (1, _), (2, _), (4, _)]) hX dX1_front_53 (by decide) rfl ?_
            refine z_iinc (v := nI (k + 1)) (lv' := [(4, _), (3, _), (6, _), (5, _), (0, _), (1, _), (2, _)]) hX dX1_front_54 6 rfl (nI_1 k) (by decide) rfl ?_
            refine z_goto (tgt := 5) hX dX1_front_57 (by decide) ?_
            refine z_sub [4, 5, 6, 1, 0] rfl ?_
            exact ih (k + 1) _ (by omega) hkn (by rw [froN, if_pos ⟨(occ_in hn.1 hy (frC_in (by omega)) ho).1, by rw [(occ_in hn.1 hy (frC_in (by omega)) ho).2]; exact h48⟩])
      · skip
        refine z_iload hX dX1_front_16 4 rfl ?_
        refine z_goto (tgt := 26) hX dX1_front_18 (by decide) ?_
        refine z_isv (show _ = frC x k from (if_pos h13).symm) ?_
        refine z_istore (lv' := [(5, _), (0, _), (1, _), (2, _), (3, _), (4, _)]) hX dX1_front_26 (by decide) rfl ?_
        refine z_aload_n hX dX1_front_28 1 rfl ?_
        refine z_iload_n hX dX1_front_29 3 rfl ?_
        refine z_iload hX dX1_front_30 0 rfl ?_
        rcases ho : occB gb y (frC x k) with _ | j
        · skip
          refine z_callV1 hX (ok_occ_n l hf hn hc ho) cv_RX1_75 (zRc6 hf) dX1_front_32 (by decide) rfl rfl (Nat.le_of_ble_eq_true rfl) ?_
          refine z_nstore (lv' := [(6, _), (5, _), (0, _), (1, _), (2, _), (3, _), (4, _)]) hX dX1_front_35 (by decide) rfl ?_
          refine z_nload hX dX1_front_37 0 rfl ?_
          refine z_ifnullN (tgt := 54) hX dX1_front_39 (by decide) ?_
          refine z_iinc (v := nI (k + 1)) (lv' := [(4, _), (6, _), (5, _), (0, _), (1, _), (2, _), (3, _)]) hX dX1_front_54 6 rfl (nI_1 k) (by decide) rfl ?_
          refine z_goto (tgt := 5) hX dX1_front_57 (by decide) ?_
          refine z_sub [3, 4, 5, 6, 0] rfl ?_
          exact ih (k + 1) _ (by omega) hkn (by rw [froN, if_neg (fun q => occ_out hn.1 hy (frC_in (by omega)) ho q.1)]; exact hs)
        · skip
          refine z_callV1 hX (ok_occ_s l hf hn hc ho) cv_RX1_75 (zRc6 hf) dX1_front_32 (by decide) rfl rfl (Nat.le_of_ble_eq_true rfl) ?_
          refine z_astore (lv' := [(6, _), (5, _), (0, _), (1, _), (2, _), (3, _), (4, _)]) hX dX1_front_35 (by decide) rfl ?_
          refine z_aload hX dX1_front_37 0 rfl ?_
          refine z_ifnull hX dX1_front_39 ?_
          refine z_aload hX dX1_front_42 0 rfl ?_
          refine zg_X3_side hX hf (lt12 hn (occ_some hn.1 ho).1) (occ_some hn.1 ho).1  fl_RX1_79 dX1_front_44 ?_
          refine z_iload_n hX dX1_front_47 3 rfl ?_
          refine z_icmp_ne (tgt := 54) hX dX1_front_48 (by decide) (fun h48 => ?_) (fun h48 => ?_)
          · skip
            refine z_iinc (v := nI (k + 1)) (lv' := [(4, _), (6, _), (5, _), (0, _), (1, _), (2, _), (3, _)]) hX dX1_front_54 6 rfl (nI_1 k) (by decide) rfl ?_
            refine z_goto (tgt := 5) hX dX1_front_57 (by decide) ?_
            refine z_sub [3, 4, 5, 6, 0] rfl ?_
            exact ih (k + 1) _ (by omega) hkn (by rw [froN, if_neg (fun q => h48 (by rw [← (occ_in hn.1 hy (frC_in (by omega)) ho).2]; exact q.2))]; exact hs)
          · skip
            refine z_iload hX dX1_front_51 1 rfl ?_
            refine z_istore_n (lv' := [(3, _), (6, _), (5, _), (0, _), (1, _), (2, _), (4, _)]) hX dX1_front_53 (by decide) rfl ?_
            refine z_iinc (v := nI (k + 1)) (lv' := [(4, _), (3, _), (6, _), (5, _), (0, _), (1, _), (2, _)]) hX dX1_front_54 6 rfl (nI_1 k) (by decide) rfl ?_
            refine z_goto (tgt := 5) hX dX1_front_57 (by decide) ?_
            refine z_sub [4, 5, 6, 1, 0] rfl ?_
            exact ih (k + 1) _ (by omega) hkn (by rw [froN, if_pos ⟨(occ_in hn.1 hy (frC_in (by omega)) ho).1, by rw [(occ_in hn.1 hy (frC_in (by omega)) ho).2]; exact h48⟩])
  refine z_sub [2, 3, 4, 1, 0] rfl ?_
  exact hL 10 0 (-1) (Nat.sub_zero _) (Nat.zero_le _) rfl
end ZF4
