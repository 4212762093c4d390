section ZM2
set_option maxHeartbeats 4000000 in
set_option maxRecDepth 100000 in
theorem ok_X5_loses (l : Launch) {g : zG} {κ : zKp} {μ : zMu} {ω : zOm} {a b : Nat → Int32} {i : Nat} (hi : i < 12) {x : Int32} : zM l g yX5_loses cX5_loses 3 none 2 0 [.ref (gA g 10 0 0), .int (nI i), .int x] κ (zN μ a b) ω κ (zN μ a (losB b i x)) ω none := by
  refine zM_of (by decide) (Nat.le_of_ble_eq_true rfl) (fun p e R s m args below meth c hX => ?_)
  show zZ p l e R s m args below meth c g 3 _ _ _ _ 0 0 [(0, .ref (gA g 10 0 0)), (1, .int (nI i)), (2, .int x)] []
  refine z_aload_n hX dX5_loses_0 0 rfl ?_
  refine z_iload_n hX dX5_loses_1 1 rfl ?_
  refine z_iconst (v := 4) hX dX5_loses_2 (by decide) ?_
  refine z_iconst (v := 0) hX dX5_loses_3 (by decide) ?_
  refine z_aload_n hX dX5_loses_4 0 rfl ?_
  refine z_iload_n hX dX5_loses_5 1 rfl ?_
  refine z_iconst (v := 4) hX dX5_loses_6 (by decide) ?_
  refine z_callV1 hX (ok_X5_of (w := 4) l hi (by decide)) cv_RX5_58 zRc10 dX5_loses_7 (by decide) rfl rfl (Nat.le_of_ble_eq_true rfl) ?_
  refine z_iload_n hX dX5_loses_10 2 rfl ?_
  refine z_isub hX dX5_loses_11 ?_
  refine z_max hX ml_RX5_69 dX5_loses_12 (by decide) (Nat.le_of_ble_eq_true rfl) ?_
  refine z_callV0 hX (ok_X5_sets (w := 4) l hi (by decide)) cv_RX5_74 zRc10 dX5_loses_15 (by decide) rfl rfl (Nat.le_of_ble_eq_true rfl) ?_
  refine z_aload_n hX dX5_loses_18 0 rfl ?_
  refine z_iload_n hX dX5_loses_19 1 rfl ?_
  refine z_iconst (v := 5) hX dX5_loses_20 (by decide) ?_
  refine z_iconst (v := 0) hX dX5_loses_21 (by decide) ?_
  refine z_aload_n hX dX5_loses_22 0 rfl ?_
  refine z_iload_n hX dX5_loses_23 1 rfl ?_
  refine z_iconst (v := 5) hX dX5_loses_24 (by decide) ?_
  refine z_callV1 hX (ok_X5_of (w := 5) l hi (by decide)) cv_RX5_58 zRc10 dX5_loses_25 (by decide) rfl rfl (Nat.le_of_ble_eq_true rfl) ?_
  refine z_isv (bf_bsW (by decide)) ?_
  refine z_iload_n hX dX5_loses_28 2 rfl ?_
  refine z_iconst (v := 3) hX dX5_loses_29 (by decide) ?_
  refine z_idiv hX dX5_loses_30 (by decide) ?_
  refine z_isub hX dX5_loses_31 ?_
  refine z_max hX ml_RX5_69 dX5_loses_32 (by decide) (Nat.le_of_ble_eq_true rfl) ?_
  refine z_callV0 hX (ok_X5_sets (w := 5) l hi (by decide)) cv_RX5_74 zRc10 dX5_loses_35 (by decide) rfl rfl (Nat.le_of_ble_eq_true rfl) ?_
  exact z_vret hX dX5_loses_38 (by decide) (fun _ h => h)
set_option maxHeartbeats 4000000 in
set_option maxRecDepth 100000 in
theorem ok_X5_settles (l : Launch) {g : zG} {κ : zKp} {μ : zMu} {ω : zOm} {a b : Nat → Int32} {i : Nat} (hi : i < 12)  : zM l g yX5_settles cX5_settles 2 none 3 0 [.ref (gA g 10 0 0), .int (nI i)] κ (zN μ a b) ω κ (zN μ a (setB b i)) ω none := by
  refine zM_of (by decide) (Nat.le_of_ble_eq_true rfl) (fun p e R s m args below meth c hX => ?_)
  show zZ p l e R s m args below meth c g 2 _ _ _ _ 0 0 [(0, .ref (gA g 10 0 0)), (1, .int (nI i))] []
  refine z_aload_n hX dX5_settles_0 0 rfl ?_
  refine z_iload_n hX dX5_settles_1 1 rfl ?_
  refine z_iconst (v := 4) hX dX5_settles_2 (by decide) ?_
  refine z_callV1 hX (ok_X5_of (w := 4) l hi (by decide)) cv_RX5_58 zRc10 dX5_settles_3 (by decide) rfl rfl (Nat.le_of_ble_eq_true rfl) ?_
  refine z_if_ne (tgt := 20) hX dX5_settles_6 (by decide) (fun h6 => ?_) (fun h6 => ?_)
  · skip
    refine z_aload_n hX dX5_settles_20 0 rfl ?_
    refine z_iload_n hX dX5_settles_21 1 rfl ?_
    refine z_callV1 hX (ok_X5_stands l hi) cv_RX5_66 zRc10 dX5_settles_22 (by decide) rfl rfl (Nat.le_of_ble_eq_true rfl) ?_
    refine z_if_eqB (tgt := 46) hX dX5_settles_25 (by decide) (fun h25 => ?_) (fun h25 => ?_)
    · skip
      exact z_vret hX dX5_settles_46 (by decide) (fun _ h => by unfold setB; simp only [if_neg h6, if_neg (fun q : bf b i 7 = 0 ∧ bf b i 5 < 5 => h25 q.1)]; exact h)
    · skip
      refine z_aload_n hX dX5_settles_28 0 rfl ?_
      refine z_iload_n hX dX5_settles_29 1 rfl ?_
      refine z_iconst (v := 5) hX dX5_settles_30 (by decide) ?_
      refine z_callV1 hX (ok_X5_of (w := 5) l hi (by decide)) cv_RX5_58 zRc10 dX5_settles_31 (by decide) rfl rfl (Nat.le_of_ble_eq_true rfl) ?_
      refine z_iconst (v := 5) hX dX5_settles_34 (by decide) ?_
      refine z_icmp_ge (tgt := 46) hX dX5_settles_35 (by decide) (fun h35 => ?_) (fun h35 => ?_)
      · skip
        exact z_vret hX dX5_settles_46 (by decide) (fun _ h => by unfold setB; simp only [if_neg h6, if_neg (fun q : bf b i 7 = 0 ∧ bf b i 5 < 5 => absurd q.2 (Int32.not_lt.mpr h35))]; exact h)
      · skip
        refine z_aload_n hX dX5_settles_38 0 rfl ?_
        refine z_iload_n hX dX5_settles_39 1 rfl ?_
        refine z_bipush (v := 7) hX dX5_settles_40 (by decide) ?_
        refine z_iconst (v := 1) hX dX5_settles_42 (by decide) ?_
        refine z_callV0 hX (ok_X5_sets (w := 7) l hi (by decide)) cv_RX5_74 zRc10 dX5_settles_43 (by decide) rfl rfl (Nat.le_of_ble_eq_true rfl) ?_
        exact z_vret hX dX5_settles_46 (by decide) (fun _ h => by unfold setB; simp only [if_neg h6, if_pos (show bf b i 7 = 0 ∧ bf b i 5 < 5 from ⟨h25, Int32.not_le.mp h35⟩)]; exact h)
  · skip
    refine z_aload_n hX dX5_settles_9 0 rfl ?_
    refine z_iload_n hX dX5_settles_10 1 rfl ?_
    refine z_bipush (v := 7) hX dX5_settles_11 (by decide) ?_
    refine z_iconst (v := 2) hX dX5_settles_13 (by decide) ?_
    refine z_callV0 hX (ok_X5_sets (w := 7) l hi (by decide)) cv_RX5_74 zRc10 dX5_settles_14 (by decide) rfl rfl (Nat.le_of_ble_eq_true rfl) ?_
    refine z_goto (tgt := 46) hX dX5_settles_17 (by decide) ?_
    exact z_vret hX dX5_settles_46 (by decide) (fun _ h => by unfold setB; simp only [if_pos h6]; exact h)
set_option maxHeartbeats 4000000 in
set_option maxRecDepth 100000 in
theorem ok_X5_fights (l : Launch) {g : zG} {κ : zKp} {μ : zMu} {ω : zOm} {a b : Nat → Int32} {i : Nat} (hi : i < 12) {j : Nat} (hj : j < 12) {ch : Prop} [Decidable ch] (hn : bnI b) (hL : lineW b i) : zM l g yX5_fights cX5_fights 5 none 4 0 [.ref (gA g 10 0 0), .int (nI i), .int (nI j), .int (if ch then 1 else 0)] κ (zN μ a b) ω κ (zN μ a (figB b i j ch)) ω none := by
  refine zM_of (by decide) (Nat.le_of_ble_eq_true rfl) (fun p e R s m args below meth c hX => ?_)
  show zZ p l e R s m args below meth c g 5 _ _ _ _ 0 0 [(0, .ref (gA g 10 0 0)), (1, .int (nI i)), (2, .int (nI j)), (3, .int (if ch then 1 else 0))] []
  refine z_iload_n hX dX5_fights_0 3 rfl ?_
  refine z_if_eqB (tgt := 19) hX dX5_fights_1 (by decide) (fun h1 => ?_) (fun h1 => ?_)
  · skip
    refine z_iconst (v := 0) hX dX5_fights_19 (by decide) ?_
    refine z_istore (lv' := [(4, _), (0, _), (1, _), (2, _), (3, _)]) hX dX5_fights_20 (by decide) rfl ?_
    refine z_aload_n hX dX5_fights_22 1 rfl ?_
    refine z_iload_n hX dX5_fights_23 3 rfl ?_
    refine z_aload_n hX dX5_fights_24 1 rfl ?_
    refine z_iload_n hX dX5_fights_25 2 rfl ?_
    refine z_callV1 hX (ok_X5_attack l hi hL) cv_RX5_78 zRc10 dX5_fights_26 (by decide) rfl rfl (Nat.le_of_ble_eq_true rfl) ?_
    refine z_iconst (v := 2) hX dX5_fights_29 (by decide) ?_
    refine z_aload_n hX dX5_fights_30 1 rfl ?_
    refine z_iload_n hX dX5_fights_31 2 rfl ?_
    refine z_callV1 hX (ok_X5_support l hi hn) cv_RX5_82 zRc10 dX5_fights_32 (by decide) rfl rfl (Nat.le_of_ble_eq_true rfl) ?_
    refine z_imul hX dX5_fights_35 ?_
    refine z_iadd hX dX5_fights_36 ?_
    refine z_iload hX dX5_fights_37 0 rfl ?_
    refine z_if_eq (tgt := 47) hX dX5_fights_39 (by decide) (fun h39 => ?_) (fun h39 => absurd h39 (by decide))
    refine z_iconst (v := 0) hX dX5_fights_47 (by decide) ?_
    refine z_iadd hX dX5_fights_48 ?_
    refine z_isv (show _ = damB b i ch by unfold damB; rw [if_neg (fun q => h1 q.1)]) ?_
    refine z_callV0 hX (ok_X5_loses l hj) cv_RX5_85 zRc10 dX5_fights_49 (by decide) rfl rfl (Nat.le_of_ble_eq_true rfl) ?_
    refine z_aload_n hX dX5_fights_52 1 rfl ?_
    refine z_iload_n hX dX5_fights_53 3 rfl ?_
    refine z_iconst (v := 4) hX dX5_fights_54 (by decide) ?_
    refine z_callV1 hX (ok_X5_of (w := 4) l hj (by decide)) cv_RX5_58 zRc10 dX5_fights_55 (by decide) rfl rfl (Nat.le_of_ble_eq_true rfl) ?_
    refine z_if_le (tgt := 71) hX dX5_fights_58 (by decide) (fun h58 => ?_) (fun h58 => ?_)
    · skip
      refine z_aload_n hX dX5_fights_71 1 rfl ?_
      refine z_iload_n hX dX5_fights_72 2 rfl ?_
      refine z_callV0 hX (ok_X5_settles l hi) cv_RX5_92 zRc10 dX5_fights_73 (by decide) rfl rfl (Nat.le_of_ble_eq_true rfl) ?_
      refine z_aload_n hX dX5_fights_76 1 rfl ?_
      refine z_iload_n hX dX5_fights_77 3 rfl ?_
      refine z_callV0 hX (ok_X5_settles l hj) cv_RX5_92 zRc10 dX5_fights_78 (by decide) rfl rfl (Nat.le_of_ble_eq_true rfl) ?_
      refine z_aload_n hX dX5_fights_81 1 rfl ?_
      refine zg_X5_s hX   fl_RX5_9 dX5_fights_82 ?_
      refine z_iconst (v := 2) hX dX5_fights_85 (by decide) ?_
      refine z_dup2 hX dX5_fights_86 rfl rfl ?_
      refine za_s hX  (show (2 : Int32) = nI 2 from rfl) (by decide) dX5_fights_87 ?_
      refine z_isv (show _ = b 2 by rw [setB_lo (by decide), setB_lo (by decide), losB_lo (by decide)]) ?_
      refine z_iconst (v := 1) hX dX5_fights_88 (by decide) ?_
      refine z_iadd hX dX5_fights_89 ?_
      refine zs_s hX  (show (2 : Int32) = nI 2 from rfl) (by decide)  dX5_fights_90 ?_
      exact z_vret hX dX5_fights_91 (by decide) (fun _ h => by unfold figB ctrB; rw [if_neg (Int32.not_lt.mpr h58)]; exact h)
    · skip
      refine z_aload_n hX dX5_fights_61 1 rfl ?_
      refine z_iload_n hX dX5_fights_62 2 rfl ?_
      refine z_aload_n hX dX5_fights_63 1 rfl ?_
      refine z_iload_n hX dX5_fights_64 3 rfl ?_
      refine z_callV1 hX (ok_X5_counter l hj) cv_RX5_89 zRc10 dX5_fights_65 (by decide) rfl rfl (Nat.le_of_ble_eq_true rfl) ?_
      refine z_callV0 hX (ok_X5_loses l hi) cv_RX5_85 zRc10 dX5_fights_68 (by decide) rfl rfl (Nat.le_of_ble_eq_true rfl) ?_
      refine z_aload_n hX dX5_fights_71 1 rfl ?_
      refine z_iload_n hX dX5_fights_72 2 rfl ?_
      refine z_callV0 hX (ok_X5_settles l hi) cv_RX5_92 zRc10 dX5_fights_73 (by decide) rfl rfl (Nat.le_of_ble_eq_true rfl) ?_
      refine z_aload_n hX dX5_fights_76 1 rfl ?_
      refine z_iload_n hX dX5_fights_77 3 rfl ?_
      refine z_callV0 hX (ok_X5_settles l hj) cv_RX5_92 zRc10 dX5_fights_78 (by decide) rfl rfl (Nat.le_of_ble_eq_true rfl) ?_
      refine z_aload_n hX dX5_fights_81 1 rfl ?_
      refine zg_X5_s hX   fl_RX5_9 dX5_fights_82 ?_
      refine z_iconst (v := 2) hX dX5_fights_85 (by decide) ?_
      refine z_dup2 hX dX5_fights_86 rfl rfl ?_
      refine za_s hX  (show (2 : Int32) = nI 2 from rfl) (by decide) dX5_fights_87 ?_
      refine z_isv (show _ = b 2 by rw [setB_lo (by decide), setB_lo (by decide), losB_lo (by decide), losB_lo (by decide)]) ?_
      refine z_iconst (v := 1) hX dX5_fights_88 (by decide) ?_
      refine z_iadd hX dX5_fights_89 ?_
      refine zs_s hX  (show (2 : Int32) = nI 2 from rfl) (by decide)  dX5_fights_90 ?_
      exact z_vret hX dX5_fights_91 (by decide) (fun _ h => by unfold figB ctrB; rw [if_pos (Int32.not_le.mp h58)]; exact h)
  · skip
    refine z_aload_n hX dX5_fights_4 0 rfl ?_
    refine z_iload_n hX dX5_fights_5 1 rfl ?_
    refine z_iconst (v := 3) hX dX5_fights_6 (by decide) ?_
    refine z_callV1 hX (ok_X5_of (w := 3) l hi (by decide)) cv_RX5_58 zRc10 dX5_fights_7 (by decide) rfl rfl (Nat.le_of_ble_eq_true rfl) ?_
    refine z_bipush (v := 112) hX dX5_fights_10 (by decide) ?_
    refine z_icmp_ne (tgt := 19) hX dX5_fights_12 (by decide) (fun h12 => ?_) (fun h12 => ?_)
    · skip
      refine z_iconst (v := 0) hX dX5_fights_19 (by decide) ?_
      refine z_istore (lv' := [(4, _), (0, _), (1, _), (2, _), (3, _)]) hX dX5_fights_20 (by decide) rfl ?_
      refine z_aload_n hX dX5_fights_22 1 rfl ?_
      refine z_iload_n hX dX5_fights_23 3 rfl ?_
      refine z_aload_n hX dX5_fights_24 1 rfl ?_
      refine z_iload_n hX dX5_fights_25 2 rfl ?_
      refine z_callV1 hX (ok_X5_attack l hi hL) cv_RX5_78 zRc10 dX5_fights_26 (by decide) rfl rfl (Nat.le_of_ble_eq_true rfl) ?_
      refine z_iconst (v := 2) hX dX5_fights_29 (by decide) ?_
      refine z_aload_n hX dX5_fights_30 1 rfl ?_
      refine z_iload_n hX dX5_fights_31 2 rfl ?_
      refine z_callV1 hX (ok_X5_support l hi hn) cv_RX5_82 zRc10 dX5_fights_32 (by decide) rfl rfl (Nat.le_of_ble_eq_true rfl) ?_
      refine z_imul hX dX5_fights_35 ?_
      refine z_iadd hX dX5_fights_36 ?_
      refine z_iload hX dX5_fights_37 0 rfl ?_
      refine z_if_eq (tgt := 47) hX dX5_fights_39 (by decide) (fun h39 => ?_) (fun h39 => absurd h39 (by decide))
      refine z_iconst (v := 0) hX dX5_fights_47 (by decide) ?_
      refine z_iadd hX dX5_fights_48 ?_
      refine z_isv (show _ = damB b i ch by unfold damB; rw [if_neg (fun q => h12 q.2)]) ?_
      refine z_callV0 hX (ok_X5_loses l hj) cv_RX5_85 zRc10 dX5_fights_49 (by decide) rfl rfl (Nat.le_of_ble_eq_true rfl) ?_
      refine z_aload_n hX dX5_fights_52 1 rfl ?_
      refine z_iload_n hX dX5_fights_53 3 rfl ?_
      refine z_iconst (v := 4) hX dX5_fights_54 (by decide) ?_
      refine z_callV1 hX (ok_X5_of (w := 4) l hj (by decide)) cv_RX5_58 zRc10 dX5_fights_55 (by decide) rfl rfl (Nat.le_of_ble_eq_true rfl) ?_
      refine z_if_le (tgt := 71) hX dX5_fights_58 (by decide) (fun h58 => ?_) (fun h58 => ?_)
      · skip
        refine z_aload_n hX dX5_fights_71 1 rfl ?_
        refine z_iload_n hX dX5_fights_72 2 rfl ?_
        refine z_callV0 hX (ok_X5_settles l hi) cv_RX5_92 zRc10 dX5_fights_73 (by decide) rfl rfl (Nat.le_of_ble_eq_true rfl) ?_
        refine z_aload_n hX dX5_fights_76 1 rfl ?_
        refine z_iload_n hX dX5_fights_77 3 rfl ?_
        refine z_callV0 hX (ok_X5_settles l hj) cv_RX5_92 zRc10 dX5_fights_78 (by decide) rfl rfl (Nat.le_of_ble_eq_true rfl) ?_
        refine z_aload_n hX dX5_fights_81 1 rfl ?_
        refine zg_X5_s hX   fl_RX5_9 dX5_fights_82 ?_
        refine z_iconst (v := 2) hX dX5_fights_85 (by decide) ?_
        refine z_dup2 hX dX5_fights_86 rfl rfl ?_
        refine za_s hX  (show (2 : Int32) = nI 2 from rfl) (by decide) dX5_fights_87 ?_
        refine z_isv (show _ = b 2 by rw [setB_lo (by decide), setB_lo (by decide), losB_lo (by decide)]) ?_
        refine z_iconst (v := 1) hX dX5_fights_88 (by decide) ?_
        refine z_iadd hX dX5_fights_89 ?_
        refine zs_s hX  (show (2 : Int32) = nI 2 from rfl) (by decide)  dX5_fights_90 ?_
        exact z_vret hX dX5_fights_91 (by decide) (fun _ h => by unfold figB ctrB; rw [if_neg (Int32.not_lt.mpr h58)]; exact h)
      · skip
        refine z_aload_n hX dX5_fights_61 1 rfl ?_
        refine z_iload_n hX dX5_fights_62 2 rfl ?_
        refine z_aload_n hX dX5_fights_63 1 rfl ?_
        refine z_iload_n hX dX5_fights_64 3 rfl ?_
        refine z_callV1 hX (ok_X5_counter l hj) cv_RX5_89 zRc10 dX5_fights_65 (by decide) rfl rfl (Nat.le_of_ble_eq_true rfl) ?_
        refine z_callV0 hX (ok_X5_loses l hi) cv_RX5_85 zRc10 dX5_fights_68 (by decide) rfl rfl (Nat.le_of_ble_eq_true rfl) ?_
        refine z_aload_n hX dX5_fights_71 1 rfl ?_
        refine z_iload_n hX dX5_fights_72 2 rfl ?_
        refine z_callV0 hX (ok_X5_settles l hi) cv_RX5_92 zRc10 dX5_fights_73 (by decide) rfl rfl (Nat.le_of_ble_eq_true rfl) ?_
        refine z_aload_n hX dX5_fights_76 1 rfl ?_
        refine z_iload_n hX dX5_fights_77 3 rfl ?_
        refine z_callV0 hX (ok_X5_settles l hj) cv_RX5_92 zRc10 dX5_fights_78 (by decide) rfl rfl (Nat.le_of_ble_eq_true rfl) ?_
        refine z_aload_n hX dX5_fights_81 1 rfl ?_
        refine zg_X5_s hX   fl_RX5_9 dX5_fights_82 ?_
        refine z_iconst (v := 2) hX dX5_fights_85 (by decide) ?_
        refine z_dup2 hX dX5_fights_86 rfl rfl ?_
        refine za_s hX  (show (2 : Int32) = nI 2 from rfl) (by decide) dX5_fights_87 ?_
        refine z_isv (show _ = b 2 by rw [setB_lo (by decide), setB_lo (by decide), losB_lo (by decide), losB_lo (by decide)]) ?_
        refine z_iconst (v := 1) hX dX5_fights_88 (by decide) ?_
        refine z_iadd hX dX5_fights_89 ?_
        refine zs_s hX  (show (2 : Int32) = nI 2 from rfl) (by decide)  dX5_fights_90 ?_
        exact z_vret hX dX5_fights_91 (by decide) (fun _ h => by unfold figB ctrB; rw [if_pos (Int32.not_le.mp h58)]; exact h)
    · skip
      refine z_iconst (v := 1) hX dX5_fights_15 (by decide) ?_
      refine z_goto (tgt := 20) hX dX5_fights_16 (by decide) ?_
      refine z_istore (lv' := [(4, _), (0, _), (1, _), (2, _), (3, _)]) hX dX5_fights_20 (by decide) rfl ?_
      refine z_aload_n hX dX5_fights_22 1 rfl ?_
      refine z_iload_n hX dX5_fights_23 3 rfl ?_
      refine z_aload_n hX dX5_fights_24 1 rfl ?_
      refine z_iload_n hX dX5_fights_25 2 rfl ?_
      refine z_callV1 hX (ok_X5_attack l hi hL) cv_RX5_78 zRc10 dX5_fights_26 (by decide) rfl rfl (Nat.le_of_ble_eq_true rfl) ?_
      refine z_iconst (v := 2) hX dX5_fights_29 (by decide) ?_
      refine z_aload_n hX dX5_fights_30 1 rfl ?_
      refine z_iload_n hX dX5_fights_31 2 rfl ?_
      refine z_callV1 hX (ok_X5_support l hi hn) cv_RX5_82 zRc10 dX5_fights_32 (by decide) rfl rfl (Nat.le_of_ble_eq_true rfl) ?_
      refine z_imul hX dX5_fights_35 ?_
      refine z_iadd hX dX5_fights_36 ?_
      refine z_iload hX dX5_fights_37 0 rfl ?_
      refine z_if_eq (tgt := 47) hX dX5_fights_39 (by decide) (fun h39 => absurd h39 (by decide)) (fun h39 => ?_)
      refine z_bipush (v := 6) hX dX5_fights_42 (by decide) ?_
      refine z_goto (tgt := 48) hX dX5_fights_44 (by decide) ?_
      refine z_iadd hX dX5_fights_48 ?_
      refine z_isv (show _ = damB b i ch by unfold damB; rw [if_pos ⟨h1, h12⟩]) ?_
      refine z_callV0 hX (ok_X5_loses l hj) cv_RX5_85 zRc10 dX5_fights_49 (by decide) rfl rfl (Nat.le_of_ble_eq_true rfl) ?_
      refine z_aload_n hX dX5_fights_52 1 rfl ?_
      refine z_iload_n hX dX5_fights_53 3 rfl ?_
      refine z_iconst (v := 4) hX dX5_fights_54 (by decide) ?_
      refine z_callV1 hX (ok_X5_of (w := 4) l hj (by decide)) cv_RX5_58 zRc10 dX5_fights_55 (by decide) rfl rfl (Nat.le_of_ble_eq_true rfl) ?_
      refine z_if_le (tgt := 71) hX dX5_fights_58 (by decide) (fun h58 => ?_) (fun h58 => ?_)
      · skip
        refine z_aload_n hX dX5_fights_71 1 rfl ?_
        refine z_iload_n hX dX5_fights_72 2 rfl ?_
        refine z_callV0 hX (ok_X5_settles l hi) cv_RX5_92 zRc10 dX5_fights_73 (by decide) rfl rfl (Nat.le_of_ble_eq_true rfl) ?_
        refine z_aload_n hX dX5_fights_76 1 rfl ?_
        refine z_iload_n hX dX5_fights_77 3 rfl ?_
        refine z_callV0 hX (ok_X5_settles l hj) cv_RX5_92 zRc10 dX5_fights_78 (by decide) rfl rfl (Nat.le_of_ble_eq_true rfl) ?_
        refine z_aload_n hX dX5_fights_81 1 rfl ?_
        refine zg_X5_s hX   fl_RX5_9 dX5_fights_82 ?_
        refine z_iconst (v := 2) hX dX5_fights_85 (by decide) ?_
        refine z_dup2 hX dX5_fights_86 rfl rfl ?_
        refine za_s hX  (show (2 : Int32) = nI 2 from rfl) (by decide) dX5_fights_87 ?_
        refine z_isv (show _ = b 2 by rw [setB_lo (by decide), setB_lo (by decide), losB_lo (by decide)]) ?_
        refine z_iconst (v := 1) hX dX5_fights_88 (by decide) ?_
        refine z_iadd hX dX5_fights_89 ?_
        refine zs_s hX  (show (2 : Int32) = nI 2 from rfl) (by decide)  dX5_fights_90 ?_
        exact z_vret hX dX5_fights_91 (by decide) (fun _ h => by unfold figB ctrB; rw [if_neg (Int32.not_lt.mpr h58)]; exact h)
      · skip
        refine z_aload_n hX dX5_fights_61 1 rfl ?_
        refine z_iload_n hX dX5_fights_62 2 rfl ?_
        refine z_aload_n hX dX5_fights_63 1 rfl ?_
        refine z_iload_n hX dX5_fights_64 3 rfl ?_
        refine z_callV1 hX (ok_X5_counter l hj) cv_RX5_89 zRc10 dX5_fights_65 (by decide) rfl rfl (Nat.le_of_ble_eq_true rfl) ?_
        refine z_callV0 hX (ok_X5_loses l hi) cv_RX5_85 zRc10 dX5_fights_68 (by decide) rfl rfl (Nat.le_of_ble_eq_true rfl) ?_
        refine z_aload_n hX dX5_fights_71 1 rfl ?_
        refine z_iload_n hX dX5_fights_72 2 rfl ?_
        refine z_callV0 hX (ok_X5_settles l hi) cv_RX5_92 zRc10 dX5_fights_73 (by decide) rfl rfl (Nat.le_of_ble_eq_true rfl) ?_
        refine z_aload_n hX dX5_fights_76 1 rfl ?_
        refine z_iload_n hX dX5_fights_77 3 rfl ?_
        refine z_callV0 hX (ok_X5_settles l hj) cv_RX5_92 zRc10 dX5_fights_78 (by decide) rfl rfl (Nat.le_of_ble_eq_true rfl) ?_
        refine z_aload_n hX dX5_fights_81 1 rfl ?_
        refine zg_X5_s hX   fl_RX5_9 dX5_fights_82 ?_
        refine z_iconst (v := 2) hX dX5_fights_85 (by decide) ?_
        refine z_dup2 hX dX5_fights_86 rfl rfl ?_
        refine za_s hX  (show (2 : Int32) = nI 2 from rfl) (by decide) dX5_fights_87 ?_
        refine z_isv (show _ = b 2 by rw [setB_lo (by decide), setB_lo (by decide), losB_lo (by decide), losB_lo (by decide)]) ?_
        refine z_iconst (v := 1) hX dX5_fights_88 (by decide) ?_
        refine z_iadd hX dX5_fights_89 ?_
        refine zs_s hX  (show (2 : Int32) = nI 2 from rfl) (by decide)  dX5_fights_90 ?_
        exact z_vret hX dX5_fights_91 (by decide) (fun _ h => by unfold figB ctrB; rw [if_pos (Int32.not_le.mp h58)]; exact h)
set_option maxHeartbeats 4000000 in
set_option maxRecDepth 100000 in
theorem ok_X5_next (l : Launch) {g : zG} {κ : zKp} {μ : zMu} {ω : zOm} {a b : Nat → Int32} {i : Nat} (hi : i < 12) (hn : bnI b) : zM l g yX5_next cX5_next 2 (some .int) 4 0 [.ref (gA g 10 0 0), .int (nI i)] κ (zN μ a b) ω κ (zN μ a b) ω (some (.int (aheB b i))) := by
  refine zM_of (by decide) (Nat.le_of_ble_eq_true rfl) (fun p e R s m args below meth c hX => ?_)
  show zZ p l e R s m args below meth c g 2 _ _ _ _ 0 0 [(0, .ref (gA g 10 0 0)), (1, .int (nI i))] []
  refine z_aload_n hX dX5_next_0 0 rfl ?_
  refine z_aload_n hX dX5_next_1 0 rfl ?_
  refine z_iload_n hX dX5_next_2 1 rfl ?_
  refine z_iconst (v := 1) hX dX5_next_3 (by decide) ?_
  refine z_callV1 hX (ok_X5_of (w := 1) l hi (by decide)) cv_RX5_58 zRc10 dX5_next_4 (by decide) rfl rfl (Nat.le_of_ble_eq_true rfl) ?_
  refine z_aload_n hX dX5_next_7 0 rfl ?_
  refine z_iload_n hX dX5_next_8 1 rfl ?_
  refine z_iconst (v := 2) hX dX5_next_9 (by decide) ?_
  refine z_callV1 hX (ok_X5_of (w := 2) l hi (by decide)) cv_RX5_58 zRc10 dX5_next_10 (by decide) rfl rfl (Nat.le_of_ble_eq_true rfl) ?_
  refine z_aload_n hX dX5_next_13 0 rfl ?_
  refine z_iload_n hX dX5_next_14 1 rfl ?_
  refine z_callV1 hX (ok_X5_way l hi) cv_RX5_96 zRc10 dX5_next_15 (by decide) rfl rfl (Nat.le_of_ble_eq_true rfl) ?_
  refine z_iadd hX dX5_next_18 ?_
  refine z_callV1 hX (ok_X5_cell l hn) cv_RX5_99 zRc10 dX5_next_19 (by decide) rfl rfl (Nat.le_of_ble_eq_true rfl) ?_
  exact z_iretI hX dX5_next_22 (by decide) rfl (fun _ h => h)
set_option maxHeartbeats 4000000 in
set_option maxRecDepth 100000 in
theorem ok_X5_moves (l : Launch) {g : zG} {κ : zKp} {μ : zMu} {ω : zOm} {a b : Nat → Int32} {i : Nat} (hi : i < 12) {x : Int32} (hn : bnI b) : zM l g yX5_moves cX5_moves 5 (some .boolean) 4 0 [.ref (gA g 10 0 0), .int (nI i), .int x] κ (zN μ a b) ω κ (zN μ a (stepB b i (bf b i 2 + x * wayB b i))) ω (some (.int (if canB b i (bf b i 2 + x * wayB b i) then 1 else 0))) := by
  refine zM_of (by decide) (Nat.le_of_ble_eq_true rfl) (fun p e R s m args below meth c hX => ?_)
  show zZ p l e R s m args below meth c g 5 _ _ _ _ 0 0 [(0, .ref (gA g 10 0 0)), (1, .int (nI i)), (2, .int x)] []
  refine z_aload_n hX dX5_moves_0 0 rfl ?_
  refine z_iload_n hX dX5_moves_1 1 rfl ?_
  refine z_iconst (v := 2) hX dX5_moves_2 (by decide) ?_
  refine z_callV1 hX (ok_X5_of (w := 2) l hi (by decide)) cv_RX5_58 zRc10 dX5_moves_3 (by decide) rfl rfl (Nat.le_of_ble_eq_true rfl) ?_
  refine z_iload_n hX dX5_moves_6 2 rfl ?_
  refine z_aload_n hX dX5_moves_7 0 rfl ?_
  refine z_iload_n hX dX5_moves_8 1 rfl ?_
  refine z_callV1 hX (ok_X5_way l hi) cv_RX5_96 zRc10 dX5_moves_9 (by decide) rfl rfl (Nat.le_of_ble_eq_true rfl) ?_
  refine z_imul hX dX5_moves_12 ?_
  refine z_iadd hX dX5_moves_13 ?_
  refine z_istore_n (lv' := [(3, _), (0, _), (1, _), (2, _)]) hX dX5_moves_14 (by decide) rfl ?_
  refine z_iload_n hX dX5_moves_15 0 rfl ?_
  refine z_callS1 hX (ok_X5_isColumn l) cs_RX5_102 dX5_moves_16 (by decide) rfl rfl (Nat.le_of_ble_eq_true rfl) ?_
  refine z_if_eqB (tgt := 40) hX dX5_moves_19 (by decide) (fun h19 => ?_) (fun h19 => ?_)
  · skip
    refine z_iconst (v := 0) hX dX5_moves_40 (by decide) ?_
    refine z_istore (lv' := [(4, _), (3, _), (0, _), (1, _), (2, _)]) hX dX5_moves_41 (by decide) rfl ?_
    refine z_aload_n hX dX5_moves_43 2 rfl ?_
    refine z_iload_n hX dX5_moves_44 3 rfl ?_
    refine z_iconst (v := 2) hX dX5_moves_45 (by decide) ?_
    refine z_iload hX dX5_moves_46 0 rfl ?_
    refine z_if_eq (tgt := 55) hX dX5_moves_48 (by decide) (fun h48 => ?_) (fun h48 => absurd h48 (by decide))
    refine z_aload_n hX dX5_moves_55 2 rfl ?_
    refine z_iload_n hX dX5_moves_56 3 rfl ?_
    refine z_iconst (v := 2) hX dX5_moves_57 (by decide) ?_
    refine z_callV1 hX (ok_X5_of (w := 2) l hi (by decide)) cv_RX5_58 zRc10 dX5_moves_58 (by decide) rfl rfl (Nat.le_of_ble_eq_true rfl) ?_
    refine z_callV0 hX (ok_X5_sets (w := 2) l hi (by decide)) cv_RX5_74 zRc10 dX5_moves_61 (by decide) rfl rfl (Nat.le_of_ble_eq_true rfl) ?_
    refine z_iload hX dX5_moves_64 0 rfl ?_
    exact z_iret hX dX5_moves_66 (by decide) rfl (by rw [if_neg (fun q => h19 q.1)]) (fun _ h => by rw [bs_self] at h; rw [step_no (fun q => h19 q.1)]; exact h)
  · skip
    refine z_aload_n hX dX5_moves_22 1 rfl ?_
    refine z_aload_n hX dX5_moves_23 1 rfl ?_
    refine z_iload_n hX dX5_moves_24 2 rfl ?_
    refine z_iconst (v := 1) hX dX5_moves_25 (by decide) ?_
    refine z_callV1 hX (ok_X5_of (w := 1) l hi (by decide)) cv_RX5_58 zRc10 dX5_moves_26 (by decide) rfl rfl (Nat.le_of_ble_eq_true rfl) ?_
    refine z_iload_n hX dX5_moves_29 0 rfl ?_
    refine z_callV1 hX (ok_X5_cell l hn) cv_RX5_99 zRc10 dX5_moves_30 (by decide) rfl rfl (Nat.le_of_ble_eq_true rfl) ?_
    refine z_if_ge (tgt := 40) hX dX5_moves_33 (by decide) (fun h33 => ?_) (fun h33 => ?_)
    · skip
      refine z_iconst (v := 0) hX dX5_moves_40 (by decide) ?_
      refine z_istore (lv' := [(4, _), (3, _), (0, _), (1, _), (2, _)]) hX dX5_moves_41 (by decide) rfl ?_
      refine z_aload_n hX dX5_moves_43 2 rfl ?_
      refine z_iload_n hX dX5_moves_44 3 rfl ?_
      refine z_iconst (v := 2) hX dX5_moves_45 (by decide) ?_
      refine z_iload hX dX5_moves_46 0 rfl ?_
      refine z_if_eq (tgt := 55) hX dX5_moves_48 (by decide) (fun h48 => ?_) (fun h48 => absurd h48 (by decide))
      refine z_aload_n hX dX5_moves_55 2 rfl ?_
      refine z_iload_n hX dX5_moves_56 3 rfl ?_
      refine z_iconst (v := 2) hX dX5_moves_57 (by decide) ?_
      refine z_callV1 hX (ok_X5_of (w := 2) l hi (by decide)) cv_RX5_58 zRc10 dX5_moves_58 (by decide) rfl rfl (Nat.le_of_ble_eq_true rfl) ?_
      refine z_callV0 hX (ok_X5_sets (w := 2) l hi (by decide)) cv_RX5_74 zRc10 dX5_moves_61 (by decide) rfl rfl (Nat.le_of_ble_eq_true rfl) ?_
      refine z_iload hX dX5_moves_64 0 rfl ?_
      exact z_iret hX dX5_moves_66 (by decide) rfl (by rw [if_neg (fun q => absurd q.2 (Int32.not_lt.mpr h33))]) (fun _ h => by rw [bs_self] at h; rw [step_no (fun q => absurd q.2 (Int32.not_lt.mpr h33))]; exact h)
    · skip
      refine z_iconst (v := 1) hX dX5_moves_36 (by decide) ?_
      refine z_goto (tgt := 41) hX dX5_moves_37 (by decide) ?_
      refine z_istore (lv' := [(4, _), (3, _), (0, _), (1, _), (2, _)]) hX dX5_moves_41 (by decide) rfl ?_
      refine z_aload_n hX dX5_moves_43 2 rfl ?_
      refine z_iload_n hX dX5_moves_44 3 rfl ?_
      refine z_iconst (v := 2) hX dX5_moves_45 (by decide) ?_
      refine z_iload hX dX5_moves_46 0 rfl ?_
      refine z_if_eq (tgt := 55) hX dX5_moves_48 (by decide) (fun h48 => absurd h48 (by decide)) (fun h48 => ?_)
      refine z_iload_n hX dX5_moves_51 1 rfl ?_
      refine z_goto (tgt := 61) hX dX5_moves_52 (by decide) ?_
      refine z_callV0 hX (ok_X5_sets (w := 2) l hi (by decide)) cv_RX5_74 zRc10 dX5_moves_61 (by decide) rfl rfl (Nat.le_of_ble_eq_true rfl) ?_
      refine z_iload hX dX5_moves_64 0 rfl ?_
      exact z_iret hX dX5_moves_66 (by decide) rfl (by rw [if_pos ⟨h19, Int32.not_le.mp h33⟩]) (fun _ h => by rw [show stepB b i (bf b i 2 + x * wayB b i) = bs b i 2 (bf b i 2 + x * wayB b i) from if_pos ⟨h19, Int32.not_le.mp h33⟩]; exact h)
theorem ok_moves1 (l : Launch) {g : zG} {κ : zKp} {μ : zMu} {ω : zOm} {a b : Nat → Int32} {i : Nat} (hi : i < 12) (hn : bnI b) : zM l g yX5_moves cX5_moves 5 (some .boolean) 4 0 [.ref (gA g 10 0 0), .int (nI i), .int 1] κ (zN μ a b) ω κ (zN μ a (stepB b i (fwdB b i))) ω (some (.int (if canB b i (fwdB b i) then 1 else 0))) := by
  have h := ok_X5_moves l (g := g) (κ := κ) (μ := μ) (ω := ω) (a := a) (b := b) (x := 1) hi hn
  rw [Int32.one_mul] at h
  exact h
set_option maxHeartbeats 4000000 in
set_option maxRecDepth 100000 in
theorem ok_foe_out (l : Launch) {g : zG} {κ : zKp} {μ : zMu} {ω : zOm} {a b : Nat → Int32} {i : Nat} (hi : i < 12) {x : Int32} (hx : x < 0) : zM l g yX5_isEnemy cX5_isEnemy 3 (some .boolean) 2 0 [.ref (gA g 10 0 0), .int (nI i), .int x] κ (zN μ a b) ω κ (zN μ a b) ω (some (.int (if foeB b i x then 1 else 0))) := by
  refine zM_of (by decide) (Nat.le_of_ble_eq_true rfl) (fun p e R s m args below meth c hX => ?_)
  show zZ p l e R s m args below meth c g 3 _ _ _ _ 0 0 [(0, .ref (gA g 10 0 0)), (1, .int (nI i)), (2, .int x)] []
  refine z_iload_n hX dX5_isEnemy_0 2 rfl ?_
  refine z_if_lt (tgt := 23) hX dX5_isEnemy_1 (by decide) (fun h1 => ?_) (fun h1 => absurd h1 (Classical.not_not.mpr hx))
  refine z_iconst (v := 0) hX dX5_isEnemy_23 (by decide) ?_
  exact z_iret hX dX5_isEnemy_24 (by decide) rfl (by rw [if_neg (fun q => absurd q.1 (Int32.not_le.mpr hx))]) (fun _ h => h)
set_option maxHeartbeats 4000000 in
set_option maxRecDepth 100000 in
theorem ok_foe_in (l : Launch) {g : zG} {κ : zKp} {μ : zMu} {ω : zOm} {a b : Nat → Int32} {i : Nat} (hi : i < 12) {j : Nat} (hj : j < 12) : zM l g yX5_isEnemy cX5_isEnemy 3 (some .boolean) 2 0 [.ref (gA g 10 0 0), .int (nI i), .int (nI j)] κ (zN μ a b) ω κ (zN μ a b) ω (some (.int (if foeB b i (nI j) then 1 else 0))) := by
  have ej : (nI j).toNatClampNeg = j := nI_clamp (by omega)
  refine zM_of (by decide) (Nat.le_of_ble_eq_true rfl) (fun p e R s m args below meth c hX => ?_)
  show zZ p l e R s m args below meth c g 3 _ _ _ _ 0 0 [(0, .ref (gA g 10 0 0)), (1, .int (nI i)), (2, .int (nI j))] []
  refine z_iload_n hX dX5_isEnemy_0 2 rfl ?_
  refine z_if_lt (tgt := 23) hX dX5_isEnemy_1 (by decide) (fun h1 => absurd h1 (nn_i (by omega))) (fun h1 => ?_)
  refine z_aload_n hX dX5_isEnemy_4 0 rfl ?_
  refine z_iload_n hX dX5_isEnemy_5 2 rfl ?_
  refine z_iconst (v := 0) hX dX5_isEnemy_6 (by decide) ?_
  refine z_callV1 hX (ok_X5_of (w := 0) l hj (by decide)) cv_RX5_58 zRc10 dX5_isEnemy_7 (by decide) rfl rfl (Nat.le_of_ble_eq_true rfl) ?_
  refine z_aload_n hX dX5_isEnemy_10 0 rfl ?_
  refine z_iload_n hX dX5_isEnemy_11 1 rfl ?_
  refine z_iconst (v := 0) hX dX5_isEnemy_12 (by decide) ?_
  refine z_callV1 hX (ok_X5_of (w := 0) l hi (by decide)) cv_RX5_58 zRc10 dX5_isEnemy_13 (by decide) rfl rfl (Nat.le_of_ble_eq_true rfl) ?_
  refine z_icmp_eq (tgt := 23) hX dX5_isEnemy_16 (by decide) (fun h16 => ?_) (fun h16 => ?_)
  · skip
    refine z_iconst (v := 0) hX dX5_isEnemy_23 (by decide) ?_
    exact z_iret hX dX5_isEnemy_24 (by decide) rfl (by rw [if_neg (fun q => q.2 (by rw [ej]; exact h16))]) (fun _ h => h)
  · skip
    refine z_iconst (v := 1) hX dX5_isEnemy_19 (by decide) ?_
    refine z_goto (tgt := 24) hX dX5_isEnemy_20 (by decide) ?_
    exact z_iret hX dX5_isEnemy_24 (by decide) rfl (by rw [if_pos ⟨ge_i (by omega), by rw [ej]; exact h16⟩]) (fun _ h => h)
theorem ok_foe (l : Launch) {g : zG} {κ : zKp} {μ : zMu} {ω : zOm} {a b : Nat → Int32} {i : Nat} (hi : i < 12) {x : Int32} (hx : x < 0 ∨ ∃ j, j < 12 ∧ x = nI j) : zM l g yX5_isEnemy cX5_isEnemy 3 (some .boolean) 2 0 [.ref (gA g 10 0 0), .int (nI i), .int x] κ (zN μ a b) ω κ (zN μ a b) ω (some (.int (if foeB b i x then 1 else 0))) := by
  rcases hx with hx | ⟨j, hj, rfl⟩
  · exact ok_foe_out l hi hx
  · exact ok_foe_in l hi hj
theorem ahe_of {g : zB} {i : Nat} (hb : bn g ≤ 12) : aheB g i < 0 ∨ ∃ j, j < 12 ∧ aheB g i = nI j := by
  unfold aheB
  rcases cellB_spec g (bf g i 1) (bf g i 2 + wayB g i) with ⟨q, -⟩ | ⟨j, q0, q, -⟩
  · rw [q]; exact Or.inl (by decide)
  · exact Or.inr ⟨j, by omega, q⟩
set_option maxHeartbeats 4000000 in
set_option maxRecDepth 100000 in
theorem ok_X5_restores (l : Launch) {g : zG} {κ : zKp} {μ : zMu} {ω : zOm} {a b : Nat → Int32} {i : Nat} (hi : i < 12)  : zM l g yX5_restores cX5_restores 2 none 2 0 [.ref (gA g 10 0 0), .int (nI i)] κ (zN μ a b) ω κ (zN μ a (resB b i)) ω none := by
  refine zM_of (by decide) (Nat.le_of_ble_eq_true rfl) (fun p e R s m args below meth c hX => ?_)
  show zZ p l e R s m args below meth c g 2 _ _ _ _ 0 0 [(0, .ref (gA g 10 0 0)), (1, .int (nI i))] []
  refine z_aload_n hX dX5_restores_0 0 rfl ?_
  refine z_iload_n hX dX5_restores_1 1 rfl ?_
  refine z_iconst (v := 5) hX dX5_restores_2 (by decide) ?_
  refine z_callV1 hX (ok_X5_of (w := 5) l hi (by decide)) cv_RX5_58 zRc10 dX5_restores_3 (by decide) rfl rfl (Nat.le_of_ble_eq_true rfl) ?_
  refine z_bipush (v := 8) hX dX5_restores_6 (by decide) ?_
  refine z_icmp_lt (tgt := 28) hX dX5_restores_8 (by decide) (fun h8 => ?_) (fun h8 => ?_)
  · skip
    exact z_vret hX dX5_restores_28 (by decide) (fun _ h => by unfold resB; rw [if_neg (Int32.not_le.mpr h8)]; exact h)
  · skip
    refine z_aload_n hX dX5_restores_11 0 rfl ?_
    refine z_iload_n hX dX5_restores_12 1 rfl ?_
    refine z_bipush (v := 7) hX dX5_restores_13 (by decide) ?_
    refine z_iconst (v := 0) hX dX5_restores_15 (by decide) ?_
    refine z_callV0 hX (ok_X5_sets (w := 7) l hi (by decide)) cv_RX5_74 zRc10 dX5_restores_16 (by decide) rfl rfl (Nat.le_of_ble_eq_true rfl) ?_
    refine z_aload_n hX dX5_restores_19 0 rfl ?_
    refine z_iload_n hX dX5_restores_20 1 rfl ?_
    refine z_bipush (v := 6) hX dX5_restores_21 (by decide) ?_
    refine z_bipush (v := 104) hX dX5_restores_23 (by decide) ?_
    refine z_callV0 hX (ok_X5_sets (w := 6) l hi (by decide)) cv_RX5_74 zRc10 dX5_restores_25 (by decide) rfl rfl (Nat.le_of_ble_eq_true rfl) ?_
    exact z_vret hX dX5_restores_28 (by decide) (fun _ h => by unfold resB; rw [if_pos (Int32.not_lt.mp h8)]; exact h)
set_option maxHeartbeats 4000000 in
set_option maxRecDepth 100000 in
theorem ok_X5_flees (l : Launch) {g : zG} {κ : zKp} {μ : zMu} {ω : zOm} {a b : Nat → Int32} {i : Nat} (hi : i < 12) (hn : bnI b) : zM l g yX5_flees cX5_flees 3 none 5 0 [.ref (gA g 10 0 0), .int (nI i)] κ (zN μ a b) ω κ (zN μ a (fleB b i)) ω none := by
  refine zM_of (by decide) (Nat.le_of_ble_eq_true rfl) (fun p e R s m args below meth c hX => ?_)
  show zZ p l e R s m args below meth c g 3 _ _ _ _ 0 0 [(0, .ref (gA g 10 0 0)), (1, .int (nI i))] []
  refine z_aload_n hX dX5_flees_0 0 rfl ?_
  refine z_iload_n hX dX5_flees_1 1 rfl ?_
  refine z_iconst (v := -1) hX dX5_flees_2 (by decide) ?_
  refine z_callV1 hX (ok_X5_moves l hi hn) cv_RX5_105 zRc10 dX5_flees_3 (by decide) rfl rfl (Nat.le_of_ble_eq_true rfl) ?_
  refine z_istore_n (lv' := [(2, _), (0, _), (1, _)]) hX dX5_flees_6 (by decide) rfl ?_
  refine z_aload_n hX dX5_flees_7 1 rfl ?_
  refine z_iload_n hX dX5_flees_8 2 rfl ?_
  refine z_iconst (v := 5) hX dX5_flees_9 (by decide) ?_
  refine z_bipush (v := 20) hX dX5_flees_10 (by decide) ?_
  refine z_aload_n hX dX5_flees_12 1 rfl ?_
  refine z_iload_n hX dX5_flees_13 2 rfl ?_
  refine z_iconst (v := 5) hX dX5_flees_14 (by decide) ?_
  refine z_callV1 hX (ok_X5_of (w := 5) l hi (by decide)) cv_RX5_58 zRc10 dX5_flees_15 (by decide) rfl rfl (Nat.le_of_ble_eq_true rfl) ?_
  refine z_iconst (v := 1) hX dX5_flees_18 (by decide) ?_
  refine z_iadd hX dX5_flees_19 ?_
  refine z_min hX ml_RX5_109 dX5_flees_20 (by decide) (Nat.le_of_ble_eq_true rfl) ?_
  refine z_callV0 hX (ok_X5_sets (w := 5) l hi (by decide)) cv_RX5_74 zRc10 dX5_flees_23 (by decide) rfl rfl (Nat.le_of_ble_eq_true rfl) ?_
  refine z_aload_n hX dX5_flees_26 1 rfl ?_
  refine z_iload_n hX dX5_flees_27 2 rfl ?_
  refine z_bipush (v := 8) hX dX5_flees_28 (by decide) ?_
  refine z_aload_n hX dX5_flees_30 1 rfl ?_
  refine z_iload_n hX dX5_flees_31 2 rfl ?_
  refine z_bipush (v := 8) hX dX5_flees_32 (by decide) ?_
  refine z_callV1 hX (ok_X5_of (w := 8) l hi (by decide)) cv_RX5_58 zRc10 dX5_flees_34 (by decide) rfl rfl (Nat.le_of_ble_eq_true rfl) ?_
  refine z_iconst (v := 1) hX dX5_flees_37 (by decide) ?_
  refine z_iadd hX dX5_flees_38 ?_
  refine z_callV0 hX (ok_X5_sets (w := 8) l hi (by decide)) cv_RX5_74 zRc10 dX5_flees_39 (by decide) rfl rfl (Nat.le_of_ble_eq_true rfl) ?_
  refine z_aload_n hX dX5_flees_42 1 rfl ?_
  refine z_iload_n hX dX5_flees_43 2 rfl ?_
  refine z_callV0 hX (ok_X5_restores l hi) cv_RX5_112 zRc10 dX5_flees_44 (by decide) rfl rfl (Nat.le_of_ble_eq_true rfl) ?_
  exact z_vret hX dX5_flees_47 (by decide) (fun _ h => h)
set_option maxHeartbeats 4000000 in
set_option maxRecDepth 100000 in
theorem ok_X5_acts (l : Launch) {g : zG} {κ : zKp} {μ : zMu} {ω : zOm} {a b : Nat → Int32} {i : Nat} (hI : batI b) (hlt : i < bn b) (h7 : ¬ bf b i 7 = 2) : zM l g yX5_acts cX5_acts 5 none 5 0 [.ref (gA g 10 0 0), .int (nI i)] κ (zN μ a b) ω κ (zN μ a (actB b i)) ω none := by
  have hn := hI.1.1
  have hi := lt12 hn hlt
  have I1 := batI_step (c := fwdB b i) hI hlt h7
  have IG := batI_go2 hI hlt h7
  have hG : i < bn (goB2 b i) := by rw [bn_goB2]; exact hlt
  refine zM_of (by decide) (Nat.le_of_ble_eq_true rfl) (fun p e R s m args below meth c hX => ?_)
  show zZ p l e R s m args below meth c g 5 _ _ _ _ 0 0 [(0, .ref (gA g 10 0 0)), (1, .int (nI i))] []
  refine z_aload_n hX dX5_acts_0 0 rfl ?_
  refine z_iload_n hX dX5_acts_1 1 rfl ?_
  refine z_bipush (v := 6) hX dX5_acts_2 (by decide) ?_
  refine z_callV1 hX (ok_X5_of (w := 6) l hi (by decide)) cv_RX5_58 zRc10 dX5_acts_4 (by decide) rfl rfl (Nat.le_of_ble_eq_true rfl) ?_
  refine z_istore_n (lv' := [(2, _), (0, _), (1, _)]) hX dX5_acts_7 (by decide) rfl ?_
  refine z_iload_n hX dX5_acts_8 0 rfl ?_
  refine z_bipush (v := 104) hX dX5_acts_9 (by decide) ?_
  refine z_icmp_ne (tgt := 34) hX dX5_acts_11 (by decide) (fun h11 => ?_) (fun h11 => ?_)
  · skip
    refine z_iconst (v := 0) hX dX5_acts_34 (by decide) ?_
    refine z_istore_n (lv' := [(3, _), (2, _), (0, _), (1, _)]) hX dX5_acts_35 (by decide) rfl ?_
    refine z_iload_n hX dX5_acts_36 1 rfl ?_
    refine z_bipush (v := 99) hX dX5_acts_37 (by decide) ?_
    refine z_icmp_ne (tgt := 69) hX dX5_acts_39 (by decide) (fun h39 => ?_) (fun h39 => ?_)
    · skip
      refine z_world (μ' := zN μ a (goB2 b i)) (fun _ h => by rw [show goB2 b i = b by unfold goB2 chaB; rw [if_neg (fun q => h39 q.1), go1_n h39]] ; exact h) ?_
      refine z_aload_n hX dX5_acts_69 2 rfl ?_
      refine z_iload_n hX dX5_acts_70 3 rfl ?_
      refine z_callV1 hX (ok_X5_next l hi IG.1.1) cv_RX5_115 zRc10 dX5_acts_71 (by decide) rfl rfl (Nat.le_of_ble_eq_true rfl) ?_
      refine z_istore (lv' := [(4, _), (3, _), (2, _), (0, _), (1, _)]) hX dX5_acts_74 (by decide) rfl ?_
      refine z_aload_n hX dX5_acts_76 3 rfl ?_
      refine z_iload_n hX dX5_acts_77 4 rfl ?_
      refine z_iload hX dX5_acts_78 0 rfl ?_
      refine z_callV1 hX (ok_foe l hi (ahe_of IG.1.1.1)) cv_RX5_118 zRc10 dX5_acts_80 (by decide) rfl rfl (Nat.le_of_ble_eq_true rfl) ?_
      refine z_if_eqB (tgt := 97) hX dX5_acts_83 (by decide) (fun h83 => ?_) (fun h83 => ?_)
      · skip
        refine z_iload_n hX dX5_acts_97 2 rfl ?_
        refine z_bipush (v := 97) hX dX5_acts_98 (by decide) ?_
        refine z_icmp_ne (tgt := 110) hX dX5_acts_100 (by decide) (fun h100 => ?_) (fun h100 => ?_)
        · skip
          exact z_vret hX dX5_acts_110 (by decide) (fun _ h => by rw [act_n h11]; unfold finB; rw [if_neg h83, if_neg h100]; exact h)
        · skip
          refine z_aload_n hX dX5_acts_103 3 rfl ?_
          refine z_iload_n hX dX5_acts_104 4 rfl ?_
          refine z_iconst (v := 1) hX dX5_acts_105 (by decide) ?_
          refine z_callV1 hX (ok_moves1 l hi IG.1.1) cv_RX5_105 zRc10 dX5_acts_106 (by decide) rfl rfl (Nat.le_of_ble_eq_true rfl) ?_
          refine z_istore_n (lv' := [(3, _), (4, _), (2, _), (0, _), (1, _)]) hX dX5_acts_109 (by decide) rfl ?_
          exact z_vret hX dX5_acts_110 (by decide) (fun _ h => by rw [act_n h11]; unfold finB; rw [if_neg h83, if_pos h100]; exact h)
      · obtain ⟨j, j0, ea, ej, j7, jn, -⟩ := foe_of IG h83
        refine z_aload_n hX dX5_acts_86 3 rfl ?_
        refine z_iload_n hX dX5_acts_87 4 rfl ?_
        refine z_iload hX dX5_acts_88 0 rfl ?_
        refine z_isv ea ?_
        refine z_iload_n hX dX5_acts_90 1 rfl ?_
        refine z_callV0 hX (ok_X5_fights l (ch := False) hi (lt12 IG.1.1 j0) IG.1.1 (IG.1.2.2.1 i hG)) cv_RX5_121 zRc10 dX5_acts_91 (by decide) rfl rfl (Nat.le_of_ble_eq_true rfl) ?_
        refine z_goto (tgt := 110) hX dX5_acts_94 (by decide) ?_
        exact z_vret hX dX5_acts_110 (by decide) (fun _ h => by rw [act_n h11]; unfold finB; rw [if_pos h83, ej, ← fig_ch (show False ↔ chaB b i from ⟨fun q => q.elim, fun q => h39 q.1⟩)]; exact h)
    · skip
      refine z_aload_n hX dX5_acts_42 2 rfl ?_
      refine z_iload_n hX dX5_acts_43 3 rfl ?_
      refine z_iconst (v := 1) hX dX5_acts_44 (by decide) ?_
      refine z_callV1 hX (ok_moves1 l hi hn) cv_RX5_105 zRc10 dX5_acts_45 (by decide) rfl rfl (Nat.le_of_ble_eq_true rfl) ?_
      refine z_istore_n (lv' := [(3, _), (2, _), (0, _), (1, _)]) hX dX5_acts_48 (by decide) rfl ?_
      refine z_iload_n hX dX5_acts_49 0 rfl ?_
      refine z_if_eqB (tgt := 66) hX dX5_acts_50 (by decide) (fun h50 => ?_) (fun h50 => ?_)
      · skip
        refine z_iconst (v := 0) hX dX5_acts_66 (by decide) ?_
        refine z_istore (lv' := [(4, _), (3, _), (2, _), (0, _), (1, _)]) hX dX5_acts_67 (by decide) rfl ?_
        refine z_world (μ' := zN μ a (goB2 b i)) (fun _ h => by rw [show stepB b i (fwdB b i) = goB2 b i by rw [go2_all h39, if_neg h50, step_no h50]] at h; exact h) ?_
        refine z_aload_n hX dX5_acts_69 3 rfl ?_
        refine z_iload_n hX dX5_acts_70 4 rfl ?_
        refine z_callV1 hX (ok_X5_next l hi IG.1.1) cv_RX5_115 zRc10 dX5_acts_71 (by decide) rfl rfl (Nat.le_of_ble_eq_true rfl) ?_
        refine z_istore (lv' := [(4, _), (3, _), (2, _), (0, _), (1, _)]) hX dX5_acts_74 (by decide) rfl ?_
        refine z_aload_n hX dX5_acts_76 3 rfl ?_
        refine z_iload_n hX dX5_acts_77 4 rfl ?_
        refine z_iload hX dX5_acts_78 0 rfl ?_
        refine z_callV1 hX (ok_foe l hi (ahe_of IG.1.1.1)) cv_RX5_118 zRc10 dX5_acts_80 (by decide) rfl rfl (Nat.le_of_ble_eq_true rfl) ?_
        refine z_if_eqB (tgt := 97) hX dX5_acts_83 (by decide) (fun h83 => ?_) (fun h83 => ?_)
        · skip
          refine z_iload_n hX dX5_acts_97 2 rfl ?_
          refine z_bipush (v := 97) hX dX5_acts_98 (by decide) ?_
          refine z_icmp_ne (tgt := 110) hX dX5_acts_100 (by decide) (fun h100 => ?_) (fun h100 => ?_)
          · skip
            exact z_vret hX dX5_acts_110 (by decide) (fun _ h => by rw [act_n h11]; unfold finB; rw [if_neg h83, if_neg h100]; exact h)
          · skip
            refine z_aload_n hX dX5_acts_103 3 rfl ?_
            refine z_iload_n hX dX5_acts_104 4 rfl ?_
            refine z_iconst (v := 1) hX dX5_acts_105 (by decide) ?_
            refine z_callV1 hX (ok_moves1 l hi IG.1.1) cv_RX5_105 zRc10 dX5_acts_106 (by decide) rfl rfl (Nat.le_of_ble_eq_true rfl) ?_
            refine z_istore_n (lv' := [(3, _), (4, _), (2, _), (0, _), (1, _)]) hX dX5_acts_109 (by decide) rfl ?_
            exact z_vret hX dX5_acts_110 (by decide) (fun _ h => by rw [act_n h11]; unfold finB; rw [if_neg h83, if_pos h100]; exact h)
        · obtain ⟨j, j0, ea, ej, j7, jn, -⟩ := foe_of IG h83
          refine z_aload_n hX dX5_acts_86 3 rfl ?_
          refine z_iload_n hX dX5_acts_87 4 rfl ?_
          refine z_iload hX dX5_acts_88 0 rfl ?_
          refine z_isv ea ?_
          refine z_iload_n hX dX5_acts_90 1 rfl ?_
          refine z_callV0 hX (ok_X5_fights l (ch := canB b i (fwdB b i)) hi (lt12 IG.1.1 j0) IG.1.1 (IG.1.2.2.1 i hG)) cv_RX5_121 zRc10 dX5_acts_91 (by decide) rfl rfl (Nat.le_of_ble_eq_true rfl) ?_
          refine z_goto (tgt := 110) hX dX5_acts_94 (by decide) ?_
          exact z_vret hX dX5_acts_110 (by decide) (fun _ h => by rw [act_n h11]; unfold finB; rw [if_pos h83, ej, ← fig_ch (show canB b i (fwdB b i) ↔ chaB b i from ⟨fun q => ⟨h39, q⟩, fun q => q.2⟩)]; exact h)
      · skip
        refine z_aload_n hX dX5_acts_53 2 rfl ?_
        refine z_iload_n hX dX5_acts_54 3 rfl ?_
        refine z_iconst (v := 1) hX dX5_acts_55 (by decide) ?_
        refine z_callV1 hX (ok_moves1 l hi I1.1.1) cv_RX5_105 zRc10 dX5_acts_56 (by decide) rfl rfl (Nat.le_of_ble_eq_true rfl) ?_
        refine z_if_eqB (tgt := 66) hX dX5_acts_59 (by decide) (fun h59 => ?_) (fun h59 => ?_)
        · skip
          refine z_iconst (v := 0) hX dX5_acts_66 (by decide) ?_
          refine z_istore (lv' := [(4, _), (3, _), (2, _), (0, _), (1, _)]) hX dX5_acts_67 (by decide) rfl ?_
          refine z_world (μ' := zN μ a (goB2 b i)) (fun _ h => by rw [show stepB (stepB b i (fwdB b i)) i (fwdB (stepB b i (fwdB b i)) i) = goB2 b i by rw [go2_all h39, if_pos h50]] at h; exact h) ?_
          refine z_aload_n hX dX5_acts_69 3 rfl ?_
          refine z_iload_n hX dX5_acts_70 4 rfl ?_
          refine z_callV1 hX (ok_X5_next l hi IG.1.1) cv_RX5_115 zRc10 dX5_acts_71 (by decide) rfl rfl (Nat.le_of_ble_eq_true rfl) ?_
          refine z_istore (lv' := [(4, _), (3, _), (2, _), (0, _), (1, _)]) hX dX5_acts_74 (by decide) rfl ?_
          refine z_aload_n hX dX5_acts_76 3 rfl ?_
          refine z_iload_n hX dX5_acts_77 4 rfl ?_
          refine z_iload hX dX5_acts_78 0 rfl ?_
          refine z_callV1 hX (ok_foe l hi (ahe_of IG.1.1.1)) cv_RX5_118 zRc10 dX5_acts_80 (by decide) rfl rfl (Nat.le_of_ble_eq_true rfl) ?_
          refine z_if_eqB (tgt := 97) hX dX5_acts_83 (by decide) (fun h83 => ?_) (fun h83 => ?_)
          · skip
            refine z_iload_n hX dX5_acts_97 2 rfl ?_
            refine z_bipush (v := 97) hX dX5_acts_98 (by decide) ?_
            refine z_icmp_ne (tgt := 110) hX dX5_acts_100 (by decide) (fun h100 => ?_) (fun h100 => ?_)
            · skip
              exact z_vret hX dX5_acts_110 (by decide) (fun _ h => by rw [act_n h11]; unfold finB; rw [if_neg h83, if_neg h100]; exact h)
            · skip
              refine z_aload_n hX dX5_acts_103 3 rfl ?_
              refine z_iload_n hX dX5_acts_104 4 rfl ?_
              refine z_iconst (v := 1) hX dX5_acts_105 (by decide) ?_
              refine z_callV1 hX (ok_moves1 l hi IG.1.1) cv_RX5_105 zRc10 dX5_acts_106 (by decide) rfl rfl (Nat.le_of_ble_eq_true rfl) ?_
              refine z_istore_n (lv' := [(3, _), (4, _), (2, _), (0, _), (1, _)]) hX dX5_acts_109 (by decide) rfl ?_
              exact z_vret hX dX5_acts_110 (by decide) (fun _ h => by rw [act_n h11]; unfold finB; rw [if_neg h83, if_pos h100]; exact h)
          · obtain ⟨j, j0, ea, ej, j7, jn, -⟩ := foe_of IG h83
            refine z_aload_n hX dX5_acts_86 3 rfl ?_
            refine z_iload_n hX dX5_acts_87 4 rfl ?_
            refine z_iload hX dX5_acts_88 0 rfl ?_
            refine z_isv ea ?_
            refine z_iload_n hX dX5_acts_90 1 rfl ?_
            refine z_callV0 hX (ok_X5_fights l (ch := canB b i (fwdB b i)) hi (lt12 IG.1.1 j0) IG.1.1 (IG.1.2.2.1 i hG)) cv_RX5_121 zRc10 dX5_acts_91 (by decide) rfl rfl (Nat.le_of_ble_eq_true rfl) ?_
            refine z_goto (tgt := 110) hX dX5_acts_94 (by decide) ?_
            exact z_vret hX dX5_acts_110 (by decide) (fun _ h => by rw [act_n h11]; unfold finB; rw [if_pos h83, ej, ← fig_ch (show canB b i (fwdB b i) ↔ chaB b i from ⟨fun q => ⟨h39, q⟩, fun q => q.2⟩)]; exact h)
        · skip
          refine z_iconst (v := 1) hX dX5_acts_62 (by decide) ?_
          refine z_goto (tgt := 67) hX dX5_acts_63 (by decide) ?_
          refine z_istore (lv' := [(4, _), (3, _), (2, _), (0, _), (1, _)]) hX dX5_acts_67 (by decide) rfl ?_
          refine z_world (μ' := zN μ a (goB2 b i)) (fun _ h => by rw [show stepB (stepB b i (fwdB b i)) i (fwdB (stepB b i (fwdB b i)) i) = goB2 b i by rw [go2_all h39, if_pos h50]] at h; exact h) ?_
          refine z_aload_n hX dX5_acts_69 3 rfl ?_
          refine z_iload_n hX dX5_acts_70 4 rfl ?_
          refine z_callV1 hX (ok_X5_next l hi IG.1.1) cv_RX5_115 zRc10 dX5_acts_71 (by decide) rfl rfl (Nat.le_of_ble_eq_true rfl) ?_
          refine z_istore (lv' := [(4, _), (3, _), (2, _), (0, _), (1, _)]) hX dX5_acts_74 (by decide) rfl ?_
          refine z_aload_n hX dX5_acts_76 3 rfl ?_
          refine z_iload_n hX dX5_acts_77 4 rfl ?_
          refine z_iload hX dX5_acts_78 0 rfl ?_
          refine z_callV1 hX (ok_foe l hi (ahe_of IG.1.1.1)) cv_RX5_118 zRc10 dX5_acts_80 (by decide) rfl rfl (Nat.le_of_ble_eq_true rfl) ?_
          refine z_if_eqB (tgt := 97) hX dX5_acts_83 (by decide) (fun h83 => ?_) (fun h83 => ?_)
          · skip
            refine z_iload_n hX dX5_acts_97 2 rfl ?_
            refine z_bipush (v := 97) hX dX5_acts_98 (by decide) ?_
            refine z_icmp_ne (tgt := 110) hX dX5_acts_100 (by decide) (fun h100 => ?_) (fun h100 => ?_)
            · skip
              exact z_vret hX dX5_acts_110 (by decide) (fun _ h => by rw [act_n h11]; unfold finB; rw [if_neg h83, if_neg h100]; exact h)
            · skip
              refine z_aload_n hX dX5_acts_103 3 rfl ?_
              refine z_iload_n hX dX5_acts_104 4 rfl ?_
              refine z_iconst (v := 1) hX dX5_acts_105 (by decide) ?_
              refine z_callV1 hX (ok_moves1 l hi IG.1.1) cv_RX5_105 zRc10 dX5_acts_106 (by decide) rfl rfl (Nat.le_of_ble_eq_true rfl) ?_
              refine z_istore_n (lv' := [(3, _), (4, _), (2, _), (0, _), (1, _)]) hX dX5_acts_109 (by decide) rfl ?_
              exact z_vret hX dX5_acts_110 (by decide) (fun _ h => by rw [act_n h11]; unfold finB; rw [if_neg h83, if_pos h100]; exact h)
          · obtain ⟨j, j0, ea, ej, j7, jn, -⟩ := foe_of IG h83
            refine z_aload_n hX dX5_acts_86 3 rfl ?_
            refine z_iload_n hX dX5_acts_87 4 rfl ?_
            refine z_iload hX dX5_acts_88 0 rfl ?_
            refine z_isv ea ?_
            refine z_iload_n hX dX5_acts_90 1 rfl ?_
            refine z_callV0 hX (ok_X5_fights l (ch := canB b i (fwdB b i)) hi (lt12 IG.1.1 j0) IG.1.1 (IG.1.2.2.1 i hG)) cv_RX5_121 zRc10 dX5_acts_91 (by decide) rfl rfl (Nat.le_of_ble_eq_true rfl) ?_
            refine z_goto (tgt := 110) hX dX5_acts_94 (by decide) ?_
            exact z_vret hX dX5_acts_110 (by decide) (fun _ h => by rw [act_n h11]; unfold finB; rw [if_pos h83, ej, ← fig_ch (show canB b i (fwdB b i) ↔ chaB b i from ⟨fun q => ⟨h39, q⟩, fun q => q.2⟩)]; exact h)
  · skip
    refine z_aload_n hX dX5_acts_14 1 rfl ?_
    refine z_iload_n hX dX5_acts_15 2 rfl ?_
    refine z_iconst (v := 5) hX dX5_acts_16 (by decide) ?_
    refine z_bipush (v := 20) hX dX5_acts_17 (by decide) ?_
    refine z_aload_n hX dX5_acts_19 1 rfl ?_
    refine z_iload_n hX dX5_acts_20 2 rfl ?_
    refine z_iconst (v := 5) hX dX5_acts_21 (by decide) ?_
    refine z_callV1 hX (ok_X5_of (w := 5) l hi (by decide)) cv_RX5_58 zRc10 dX5_acts_22 (by decide) rfl rfl (Nat.le_of_ble_eq_true rfl) ?_
    refine z_iconst (v := 1) hX dX5_acts_25 (by decide) ?_
    refine z_iadd hX dX5_acts_26 ?_
    refine z_min hX ml_RX5_109 dX5_acts_27 (by decide) (Nat.le_of_ble_eq_true rfl) ?_
    refine z_callV0 hX (ok_X5_sets (w := 5) l hi (by decide)) cv_RX5_74 zRc10 dX5_acts_30 (by decide) rfl rfl (Nat.le_of_ble_eq_true rfl) ?_
    exact z_vret hX dX5_acts_33 (by decide) (fun _ h => by rw [act_h h11]; exact h)
set_option maxHeartbeats 4000000 in
set_option maxRecDepth 100000 in
theorem ok_X5_passes (l : Launch) {g : zG} {κ : zKp} {μ : zMu} {ω : zOm} {a b : Nat → Int32} (hI : batI b) : zM l g yX5_passes cX5_passes 3 (some .int) 6 0 [.ref (gA g 10 0 0)] κ (zN μ a b) ω κ (zN μ a (passB b)) ω (some (.int (passB b 2 - b 2))) := by
  refine zM_of (by decide) (Nat.le_of_ble_eq_true rfl) (fun p e R s m args below meth c hX => ?_)
  show zZ p l e R s m args below meth c g 3 _ _ _ _ 0 0 [(0, .ref (gA g 10 0 0))] []
  refine z_aload_n hX dX5_passes_0 0 rfl ?_
  refine zg_X5_s hX   fl_RX5_9 dX5_passes_1 ?_
  refine z_iconst (v := 2) hX dX5_passes_4 (by decide) ?_
  refine za_s hX  (show (2 : Int32) = nI 2 from rfl) (by decide) dX5_passes_5 ?_
  refine z_istore_n (lv' := [(1, _), (0, _)]) hX dX5_passes_6 (by decide) rfl ?_
  refine z_iconst (v := 0) hX dX5_passes_7 (by decide) ?_
  refine z_istore_n (lv' := [(2, _), (1, _), (0, _)]) hX dX5_passes_8 (by decide) rfl ?_
  have hL : ∀ (dz : Nat) (k : Nat), bn b - k = dz → k ≤ bn b → zZ p l e R s m args below meth c g 3 (zQ g κ (zN μ a (passB b)) ω (some (.int (passB b 2 - b 2))) below args s 0) κ (zN μ a (passN b k)) ω 0 9 [(0, .ref (gA g 10 0 0)), (1, .int (b 2)), (2, .int (nI k))] [] := by
    intro dz
    induction dz with
    | zero =>
      intro k hd hk
      have hkn : k = bn b := by omega
      have hP := batI_passN hI k hk
      refine z_iload_n hX dX5_passes_9 2 rfl ?_
      refine z_aload_n hX dX5_passes_10 0 rfl ?_
      refine zg_X5_s hX   fl_RX5_9 dX5_passes_11 ?_
      refine z_iconst (v := 0) hX dX5_passes_14 (by decide) ?_
      refine za_s hX  (show (0 : Int32) = nI 0 from rfl) (by decide) dX5_passes_15 ?_
      refine z_icmp_ge (tgt := 57) hX dX5_passes_16 (by decide) (fun h16 => ?_) (fun h16 => absurd h16 (Classical.not_not.mpr (cnt_leN hP.1.1 (by rw [bn_passN]; exact hkn))))
      refine z_aload_n hX dX5_passes_57 0 rfl ?_
      refine zg_X5_s hX   fl_RX5_9 dX5_passes_58 ?_
      refine z_iconst (v := 1) hX dX5_passes_61 (by decide) ?_
      refine z_dup2 hX dX5_passes_62 rfl rfl ?_
      refine za_s hX  (show (1 : Int32) = nI 1 from rfl) (by decide) dX5_passes_63 ?_
      refine z_iconst (v := 1) hX dX5_passes_64 (by decide) ?_
      refine z_iadd hX dX5_passes_65 ?_
      refine zs_s hX  (show (1 : Int32) = nI 1 from rfl) (by decide)  dX5_passes_66 ?_
      refine z_aload_n hX dX5_passes_67 0 rfl ?_
      refine zg_X5_s hX   fl_RX5_9 dX5_passes_68 ?_
      refine z_iconst (v := 2) hX dX5_passes_71 (by decide) ?_
      refine za_s hX  (show (2 : Int32) = nI 2 from rfl) (by decide) dX5_passes_72 ?_
      refine z_iload_n hX dX5_passes_73 1 rfl ?_
      refine z_isub hX dX5_passes_74 ?_
      exact z_iretI hX dX5_passes_75 (by decide) (by rw [hkn]; rfl) (fun _ h => by unfold passB; rw [← hkn]; exact h)
    | succ dz ih =>
      intro k hd hk
      have hkn : k < bn b := by omega
      have hP := batI_passN hI k hk
      have hkP : k < bn (passN b k) := by rw [bn_passN]; exact hkn
      refine z_iload_n hX dX5_passes_9 2 rfl ?_
      refine z_aload_n hX dX5_passes_10 0 rfl ?_
      refine zg_X5_s hX   fl_RX5_9 dX5_passes_11 ?_
      refine z_iconst (v := 0) hX dX5_passes_14 (by decide) ?_
      refine za_s hX  (show (0 : Int32) = nI 0 from rfl) (by decide) dX5_passes_15 ?_
      refine z_icmp_ge (tgt := 57) hX dX5_passes_16 (by decide) (fun h16 => absurd h16 (cnt_gt hP.1.1 hkP)) (fun h16 => ?_)
      refine z_aload_n hX dX5_passes_19 0 rfl ?_
      refine z_iload_n hX dX5_passes_20 2 rfl ?_
      refine z_bipush (v := 7) hX dX5_passes_21 (by decide) ?_
      refine z_callV1 hX (ok_X5_of (w := 7) l (lt12 hP.1.1 hkP) (by decide)) cv_RX5_58 zRc10 dX5_passes_23 (by decide) rfl rfl (Nat.le_of_ble_eq_true rfl) ?_
      refine z_iconst (v := 1) hX dX5_passes_26 (by decide) ?_
      refine z_icmp_ne (tgt := 38) hX dX5_passes_27 (by decide) (fun h27 => ?_) (fun h27 => ?_)
      · skip
        refine z_aload_n hX dX5_passes_38 0 rfl ?_
        refine z_iload_n hX dX5_passes_39 2 rfl ?_
        refine z_callV1 hX (ok_X5_stands l (lt12 hP.1.1 hkP)) cv_RX5_66 zRc10 dX5_passes_40 (by decide) rfl rfl (Nat.le_of_ble_eq_true rfl) ?_
        refine z_if_eqB (tgt := 51) hX dX5_passes_43 (by decide) (fun h43 => ?_) (fun h43 => ?_)
        · skip
          refine z_iinc (v := nI (k + 1)) (lv' := [(2, _), (0, _), (1, _)]) hX dX5_passes_51 2 rfl (nI_1 k) (by decide) rfl ?_
          refine z_goto (tgt := 9) hX dX5_passes_54 (by decide) ?_
          refine z_world (μ' := zN μ a (passN b (k + 1))) (fun _ h => by rw [passN, once_no h43 h27]; exact h) ?_
          refine z_sub [1, 2, 0] rfl ?_
          exact ih (k + 1) (by omega) (by omega)
        · skip
          refine z_aload_n hX dX5_passes_46 0 rfl ?_
          refine z_iload_n hX dX5_passes_47 2 rfl ?_
          refine z_callV0 hX (ok_X5_acts l hP hkP (n2_0 h43)) cv_RX5_128 zRc10 dX5_passes_48 (by decide) rfl rfl (Nat.le_of_ble_eq_true rfl) ?_
          refine z_iinc (v := nI (k + 1)) (lv' := [(2, _), (0, _), (1, _)]) hX dX5_passes_51 2 rfl (nI_1 k) (by decide) rfl ?_
          refine z_goto (tgt := 9) hX dX5_passes_54 (by decide) ?_
          refine z_world (μ' := zN μ a (passN b (k + 1))) (fun _ h => by rw [passN, once_st h43]; exact h) ?_
          refine z_sub [1, 2, 0] rfl ?_
          exact ih (k + 1) (by omega) (by omega)
      · skip
        refine z_aload_n hX dX5_passes_30 0 rfl ?_
        refine z_iload_n hX dX5_passes_31 2 rfl ?_
        refine z_callV0 hX (ok_X5_flees l (lt12 hP.1.1 hkP) hP.1.1) cv_RX5_125 zRc10 dX5_passes_32 (by decide) rfl rfl (Nat.le_of_ble_eq_true rfl) ?_
        refine z_goto (tgt := 51) hX dX5_passes_35 (by decide) ?_
        refine z_iinc (v := nI (k + 1)) (lv' := [(2, _), (0, _), (1, _)]) hX dX5_passes_51 2 rfl (nI_1 k) (by decide) rfl ?_
        refine z_goto (tgt := 9) hX dX5_passes_54 (by decide) ?_
        refine z_world (μ' := zN μ a (passN b (k + 1))) (fun _ h => by rw [passN, once_ro h27]; exact h) ?_
        refine z_sub [1, 2, 0] rfl ?_
        exact ih (k + 1) (by omega) (by omega)
  refine z_sub [2, 1, 0] rfl ?_
  exact hL (bn b) 0 (Nat.sub_zero _) (Nat.zero_le _)
end ZM2
