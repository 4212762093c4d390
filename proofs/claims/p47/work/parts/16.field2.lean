section ZF2
set_option maxHeartbeats 4000000 in
set_option maxRecDepth 100000 in
theorem ok_X1_settle (l : Launch) {g : zG} {κ : zKp} {μ : zMu} {ω : zOm} {f : Nat} {gb cb : Nat → Int32} (hf : f < 11) {i : Nat} (hW : batW gb) (hlt : i < bn gb) (h7 : ¬ bf gb i 7 = 2) (hc : cb = cellsOf gb) : zM l g yX1_settle cX1_settle 2 none 2 0 [.ref (gA g 6 f 0), .ref (gA g 9 f i)] (zF κ f gb cb) μ ω (zF κ f (setB gb i) (cellsOf (setB gb i))) μ ω none := by
  obtain ⟨-, ⟨a, ha, e1⟩, ⟨b, hb, e2⟩, -⟩ := hW.2.2.1 i hlt
  refine zM_of (by decide) (Nat.le_of_ble_eq_true rfl) (fun p e R s m args below meth c hX => ?_)
  show zZ p l e R s m args below meth c g 2 _ _ _ _ 0 0 [(0, .ref (gA g 6 f 0)), (1, .ref (gA g 9 f i))] []
  refine z_aload_n hX dX1_settle_0 1 rfl ?_
  refine zg_X3_strength hX hf (lt12 hW.1 hlt) (by (try simp only [bn_bs, bn_losB, bn_setB, bn_ctrB, bn_stepB, bn_resB, bn_upd (show ¬ 2 = 0 by decide), bn_upd (show ¬ 1 = 0 by decide)]); exact hlt)  fl_RX1_95 dX1_settle_1 ?_
  refine z_if_ne (tgt := 28) hX dX1_settle_4 (by decide) (fun h4 => ?_) (fun h4 => ?_)
  · skip
    refine z_aload_n hX dX1_settle_28 1 rfl ?_
    refine z_callV1 hX (ok_X3_stands l hf (lt12 hW.1 hlt) hlt) cv_RX1_113 (zRc9 hf (lt12 hW.1 hlt)) dX1_settle_29 (by decide) rfl rfl (Nat.le_of_ble_eq_true rfl) ?_
    refine z_if_eqB (tgt := 48) hX dX1_settle_32 (by decide) (fun h32 => ?_) (fun h32 => ?_)
    · skip
      exact z_vret hX dX1_settle_48 (by decide) (fun _ h => by rw [cells_set hW.2.2.2 hlt h7 ha hb e1 e2]; unfold setB; simp only [if_neg h4, if_neg (fun q : bf gb i 7 = 0 ∧ bf gb i 5 < 5 => h32 q.1), ← hc]; exact h)
    · skip
      refine z_aload_n hX dX1_settle_35 1 rfl ?_
      refine zg_X3_morale hX hf (lt12 hW.1 hlt) (by (try simp only [bn_bs, bn_losB, bn_setB, bn_ctrB, bn_stepB, bn_resB, bn_upd (show ¬ 2 = 0 by decide), bn_upd (show ¬ 1 = 0 by decide)]); exact hlt)  fl_RX1_98 dX1_settle_36 ?_
      refine z_iconst (v := 5) hX dX1_settle_39 (by decide) ?_
      refine z_icmp_ge (tgt := 48) hX dX1_settle_40 (by decide) (fun h40 => ?_) (fun h40 => ?_)
      · skip
        exact z_vret hX dX1_settle_48 (by decide) (fun _ h => by rw [cells_set hW.2.2.2 hlt h7 ha hb e1 e2]; unfold setB; simp only [if_neg h4, if_neg (fun q : bf gb i 7 = 0 ∧ bf gb i 5 < 5 => absurd q.2 (Int32.not_lt.mpr h40)), ← hc]; exact h)
      · skip
        refine z_aload_n hX dX1_settle_43 1 rfl ?_
        refine z_iconst (v := 1) hX dX1_settle_44 (by decide) ?_
        refine zp_X3_condition hX hf (lt12 hW.1 hlt) (by (try simp only [bn_bs, bn_losB, bn_setB, bn_ctrB, bn_stepB, bn_resB, bn_upd (show ¬ 2 = 0 by decide), bn_upd (show ¬ 1 = 0 by decide)]); exact hlt)  fl_RX1_101 dX1_settle_45 ?_
        exact z_vret hX dX1_settle_48 (by decide) (fun _ h => by rw [cells_set hW.2.2.2 hlt h7 ha hb e1 e2]; unfold setB; simp only [if_neg h4, if_pos (show bf gb i 7 = 0 ∧ bf gb i 5 < 5 from ⟨h32, Int32.not_le.mp h40⟩), ← hc]; exact h)
  · skip
    refine z_aload_n hX dX1_settle_7 1 rfl ?_
    refine z_iconst (v := 2) hX dX1_settle_8 (by decide) ?_
    refine zp_X3_condition hX hf (lt12 hW.1 hlt) (by (try simp only [bn_bs, bn_losB, bn_setB, bn_ctrB, bn_stepB, bn_resB, bn_upd (show ¬ 2 = 0 by decide), bn_upd (show ¬ 1 = 0 by decide)]); exact hlt)  fl_RX1_101 dX1_settle_9 ?_
    refine z_aload_n hX dX1_settle_12 0 rfl ?_
    refine z_aload_n hX dX1_settle_13 1 rfl ?_
    refine zg_X3_lane hX hf (lt12 hW.1 hlt) (by (try simp only [bn_bs, bn_losB, bn_setB, bn_ctrB, bn_stepB, bn_resB, bn_upd (show ¬ 2 = 0 by decide), bn_upd (show ¬ 1 = 0 by decide)]); exact hlt)  fl_RX1_82 dX1_settle_14 ?_
    refine z_isv (show bf (bs gb i 7 2) i 1 = nI a by rw [bf_bsW (by decide)]; exact e1) ?_
    refine z_aload_n hX dX1_settle_17 1 rfl ?_
    refine zg_X3_column hX hf (lt12 hW.1 hlt) (by (try simp only [bn_bs, bn_losB, bn_setB, bn_ctrB, bn_stepB, bn_resB, bn_upd (show ¬ 2 = 0 by decide), bn_upd (show ¬ 1 = 0 by decide)]); exact hlt)  fl_RX1_85 dX1_settle_18 ?_
    refine z_isv (show bf (bs gb i 7 2) i 2 = nI b by rw [bf_bsW (by decide)]; exact e2) ?_
    refine z_iconst (v := -1) hX dX1_settle_21 (by decide) ?_
    refine z_callV0 hX (ok_X1_putInto l hf ha hb) cv_RX1_107 (zRc6 hf) dX1_settle_22 (by decide) rfl rfl (Nat.le_of_ble_eq_true rfl) ?_
    refine z_goto (tgt := 48) hX dX1_settle_25 (by decide) ?_
    exact z_vret hX dX1_settle_48 (by decide) (fun _ h => by rw [cells_set hW.2.2.2 hlt h7 ha hb e1 e2]; unfold setB; simp only [if_pos h4, ← hc]; exact h)
set_option maxHeartbeats 4000000 in
set_option maxRecDepth 100000 in
theorem ok_X1_supportAmongLines (l : Launch) {g : zG} {κ : zKp} {μ : zMu} {ω : zOm} {f : Nat} {gb cb : Nat → Int32} (hf : f < 11) {i : Nat} (hW : batW gb) (hlt : i < bn gb) : zM l g yX1_supportAmongLines cX1_supportAmongLines 5 (some .int) 2 0 [.ref (gA g 6 f 0), .ref (gA g 9 f i)] (zF κ f gb cb) μ ω (zF κ f gb cb) μ ω (some (.int (supB gb i))) := by
  refine zM_of (by decide) (Nat.le_of_ble_eq_true rfl) (fun p e R s m args below meth c hX => ?_)
  show zZ p l e R s m args below meth c g 5 _ _ _ _ 0 0 [(0, .ref (gA g 6 f 0)), (1, .ref (gA g 9 f i))] []
  refine z_iconst (v := 0) hX dX1_supportAmongLines_0 (by decide) ?_
  refine z_istore_n (lv' := [(2, _), (0, _), (1, _)]) hX dX1_supportAmongLines_1 (by decide) rfl ?_
  refine z_iconst (v := 0) hX dX1_supportAmongLines_2 (by decide) ?_
  refine z_istore_n (lv' := [(3, _), (2, _), (0, _), (1, _)]) hX dX1_supportAmongLines_3 (by decide) rfl ?_
  have hL : ∀ (dz : Nat) (k : Nat) (sv : Int32), bn gb - k = dz → k ≤ bn gb → sv = supN gb i k → zZ p l e R s m args below meth c g 5 (zQ g (zF κ f gb cb) μ ω (some (.int (supB gb i))) below args s 0) (zF κ f gb cb) μ ω 0 4 [(0, .ref (gA g 6 f 0)), (1, .ref (gA g 9 f i)), (2, .int sv), (3, .int (nI k))] [] := by
    intro dz
    induction dz with
    | zero =>
      intro k sv hd hk hs
      have hkn : k = bn gb := by omega
      refine z_iload_n hX dX1_supportAmongLines_4 3 rfl ?_
      refine z_aload_n hX dX1_supportAmongLines_5 0 rfl ?_
      refine zg_X1_count hX hf  fl_RX1_21 dX1_supportAmongLines_6 ?_
      refine z_icmp_ge (tgt := 82) hX dX1_supportAmongLines_9 (by decide) (fun h9 => ?_) (fun h9 => absurd h9 (Classical.not_not.mpr (by rw [hkn]; exact cnt_le hW.1)))
      refine z_iload_n hX dX1_supportAmongLines_82 2 rfl ?_
      exact z_iretI hX dX1_supportAmongLines_83 (by decide) (by rw [hs, hkn]; rfl) (fun _ h => h)
    | succ dz ih =>
      intro k sv hd hk hs
      have hkn : k < bn gb := by omega
      obtain ⟨-, ⟨a1, ha1, e1⟩, -⟩ := hW.2.2.1 k hkn
      obtain ⟨-, ⟨a2, ha2, e2⟩, -⟩ := hW.2.2.1 i hlt
      have near : (if 0 ≤ bf gb k 1 - bf gb i 1 then bf gb k 1 - bf gb i 1 else 0 - (bf gb k 1 - bf gb i 1)) = 1 ↔ (bf gb k 1 - bf gb i 1) * (bf gb k 1 - bf gb i 1) = 1 := by rw [e1, e2]; exact one_near a1 ha1 a2 ha2
      refine z_iload_n hX dX1_supportAmongLines_4 3 rfl ?_
      refine z_aload_n hX dX1_supportAmongLines_5 0 rfl ?_
      refine zg_X1_count hX hf  fl_RX1_21 dX1_supportAmongLines_6 ?_
      refine z_icmp_ge (tgt := 82) hX dX1_supportAmongLines_9 (by decide) (fun h9 => absurd h9 (cnt_gt hW.1 hkn)) (fun h9 => ?_)
      refine z_aload_n hX dX1_supportAmongLines_12 0 rfl ?_
      refine z_iload_n hX dX1_supportAmongLines_13 3 rfl ?_
      refine z_callV1 hX (ok_line_in l hf hW.1 hkn) cv_RX1_57 (zRc6 hf) dX1_supportAmongLines_14 (by decide) rfl rfl (Nat.le_of_ble_eq_true rfl) ?_
      refine z_astore (lv' := [(4, _), (0, _), (1, _), (2, _), (3, _)]) hX dX1_supportAmongLines_17 (by decide) rfl ?_
      refine z_aload hX dX1_supportAmongLines_19 0 rfl ?_
      refine z_ifnull hX dX1_supportAmongLines_21 ?_
      refine z_aload hX dX1_supportAmongLines_24 0 rfl ?_
      refine z_callV1 hX (ok_X3_stands l hf (lt12 hW.1 hkn) hkn) cv_RX1_113 (zRc9 hf (lt12 hW.1 hkn)) dX1_supportAmongLines_26 (by decide) rfl rfl (Nat.le_of_ble_eq_true rfl) ?_
      refine z_if_eqB (tgt := 76) hX dX1_supportAmongLines_29 (by decide) (fun h29 => ?_) (fun h29 => ?_)
      · skip
        refine z_iinc (v := nI (k + 1)) (lv' := [(3, _), (4, _), (0, _), (1, _), (2, _)]) hX dX1_supportAmongLines_76 4 rfl (nI_1 k) (by decide) rfl ?_
        refine z_goto (tgt := 4) hX dX1_supportAmongLines_79 (by decide) ?_
        refine z_sub [2, 3, 4, 0] rfl ?_
        exact ih (k + 1) _ (by omega) hkn (by rw [supN, if_neg (fun q => h29 q.2.2.1), hs, Int32.add_zero])
      · skip
        refine z_aload hX dX1_supportAmongLines_32 0 rfl ?_
        refine zg_X3_side hX hf (lt12 hW.1 hkn) hkn  fl_RX1_79 dX1_supportAmongLines_34 ?_
        refine z_aload_n hX dX1_supportAmongLines_37 2 rfl ?_
        refine zg_X3_side hX hf (lt12 hW.1 hlt) hlt  fl_RX1_79 dX1_supportAmongLines_38 ?_
        refine z_icmp_ne (tgt := 76) hX dX1_supportAmongLines_41 (by decide) (fun h41 => ?_) (fun h41 => ?_)
        · skip
          refine z_iinc (v := nI (k + 1)) (lv' := [(3, _), (4, _), (0, _), (1, _), (2, _)]) hX dX1_supportAmongLines_76 4 rfl (nI_1 k) (by decide) rfl ?_
          refine z_goto (tgt := 4) hX dX1_supportAmongLines_79 (by decide) ?_
          refine z_sub [2, 3, 4, 0] rfl ?_
          exact ih (k + 1) _ (by omega) hkn (by rw [supN, if_neg (fun q => h41 q.2.2.2), hs, Int32.add_zero])
        · skip
          refine z_aload hX dX1_supportAmongLines_44 0 rfl ?_
          refine zg_X3_column hX hf (lt12 hW.1 hkn) hkn  fl_RX1_85 dX1_supportAmongLines_46 ?_
          refine z_aload_n hX dX1_supportAmongLines_49 2 rfl ?_
          refine zg_X3_column hX hf (lt12 hW.1 hlt) hlt  fl_RX1_85 dX1_supportAmongLines_50 ?_
          refine z_icmp_ne (tgt := 76) hX dX1_supportAmongLines_53 (by decide) (fun h53 => ?_) (fun h53 => ?_)
          · skip
            refine z_iinc (v := nI (k + 1)) (lv' := [(3, _), (4, _), (0, _), (1, _), (2, _)]) hX dX1_supportAmongLines_76 4 rfl (nI_1 k) (by decide) rfl ?_
            refine z_goto (tgt := 4) hX dX1_supportAmongLines_79 (by decide) ?_
            refine z_sub [2, 3, 4, 0] rfl ?_
            exact ih (k + 1) _ (by omega) hkn (by rw [supN, if_neg (fun q => h53 q.2.1), hs, Int32.add_zero])
          · skip
            refine z_aload hX dX1_supportAmongLines_56 0 rfl ?_
            refine zg_X3_lane hX hf (lt12 hW.1 hkn) hkn  fl_RX1_82 dX1_supportAmongLines_58 ?_
            refine z_aload_n hX dX1_supportAmongLines_61 2 rfl ?_
            refine zg_X3_lane hX hf (lt12 hW.1 hlt) hlt  fl_RX1_82 dX1_supportAmongLines_62 ?_
            refine z_isub hX dX1_supportAmongLines_65 ?_
            refine z_abs hX ml_RX1_167 dX1_supportAmongLines_66 (by decide) (Nat.le_of_ble_eq_true rfl) ?_
            refine z_iconst (v := 1) hX dX1_supportAmongLines_69 (by decide) ?_
            refine z_icmp_ne (tgt := 76) hX dX1_supportAmongLines_70 (by decide) (fun h70 => ?_) (fun h70 => ?_)
            · skip
              refine z_iinc (v := nI (k + 1)) (lv' := [(3, _), (4, _), (0, _), (1, _), (2, _)]) hX dX1_supportAmongLines_76 4 rfl (nI_1 k) (by decide) rfl ?_
              refine z_goto (tgt := 4) hX dX1_supportAmongLines_79 (by decide) ?_
              refine z_sub [2, 3, 4, 0] rfl ?_
              exact ih (k + 1) _ (by omega) hkn (by rw [supN, if_neg (fun q => h70 (near.mpr q.1)), hs, Int32.add_zero])
            · skip
              refine z_iinc (v := sv + 1) (lv' := [(2, _), (4, _), (0, _), (1, _), (3, _)]) hX dX1_supportAmongLines_73 3 rfl rfl (by decide) rfl ?_
              refine z_iinc (v := nI (k + 1)) (lv' := [(3, _), (2, _), (4, _), (0, _), (1, _)]) hX dX1_supportAmongLines_76 4 rfl (nI_1 k) (by decide) rfl ?_
              refine z_goto (tgt := 4) hX dX1_supportAmongLines_79 (by decide) ?_
              refine z_sub [3, 4, 1, 0] rfl ?_
              exact ih (k + 1) _ (by omega) hkn (by rw [supN, if_pos ⟨near.mp h70, h53, h29, h41⟩, hs])
  refine z_sub [2, 3, 1, 0] rfl ?_
  exact hL (bn gb) 0 0 (Nat.sub_zero _) (Nat.zero_le _) rfl
set_option maxHeartbeats 4000000 in
set_option maxRecDepth 100000 in
theorem ok_move_out (l : Launch) {g : zG} {κ : zKp} {μ : zMu} {ω : zOm} {f : Nat} {gb cb : Nat → Int32} (hf : f < 11) {i : Nat} {x : Int32} (hI : batI gb) (hlt : i < bn gb) (h7 : ¬ bf gb i 7 = 2) (hc : cb = cellsOf gb) (ho : ¬ inCol (bf gb i 2 + x)) : zM l g yX1_moveIfFree cX1_moveIfFree 4 (some .boolean) 3 0 [.ref (gA g 6 f 0), .ref (gA g 9 f i), .int x] (zF κ f gb cb) μ ω (zF κ f (stepB gb i (bf gb i 2 + x)) (cellsOf (stepB gb i (bf gb i 2 + x)))) μ ω (some (.int (if canB gb i (bf gb i 2 + x) then 1 else 0))) := by
  refine zM_of (by decide) (Nat.le_of_ble_eq_true rfl) (fun p e R s m args below meth c hX => ?_)
  show zZ p l e R s m args below meth c g 4 _ _ _ _ 0 0 [(0, .ref (gA g 6 f 0)), (1, .ref (gA g 9 f i)), (2, .int x)] []
  refine z_aload_n hX dX1_moveIfFree_0 1 rfl ?_
  refine zg_X3_column hX hf (lt12 hI.1.1 hlt) (by (try simp only [bn_bs, bn_losB, bn_setB, bn_ctrB, bn_stepB, bn_resB, bn_upd (show ¬ 2 = 0 by decide), bn_upd (show ¬ 1 = 0 by decide)]); exact hlt)  fl_RX1_85 dX1_moveIfFree_1 ?_
  refine z_iload_n hX dX1_moveIfFree_4 2 rfl ?_
  refine z_iadd hX dX1_moveIfFree_5 ?_
  refine z_istore_n (lv' := [(3, _), (0, _), (1, _), (2, _)]) hX dX1_moveIfFree_6 (by decide) rfl ?_
  refine z_iload_n hX dX1_moveIfFree_7 0 rfl ?_
  refine z_callN1 hX (ok_X4_isColumn l) cn_RX1_54 dX1_moveIfFree_8 (by decide) rfl rfl (Nat.le_of_ble_eq_true rfl) ?_
  refine z_if_eqB (tgt := 26) hX dX1_moveIfFree_11 (by decide) (fun h11 => ?_) (fun h11 => absurd h11 (show ¬ (0 ≤ bf gb i 2 + x ∧ bf gb i 2 + x < 10) from fun q => ho ⟨q.1, lt10_le9 q.2⟩))
  refine z_iconst (v := 0) hX dX1_moveIfFree_26 (by decide) ?_
  exact z_iret hX dX1_moveIfFree_27 (by decide) rfl (by rw [if_neg (fun q => ho q.1)]) (fun _ h => by rw [step_no (fun q => ho q.1), ← hc]; exact h)
set_option maxHeartbeats 4000000 in
set_option maxRecDepth 100000 in
theorem ok_move_no (l : Launch) {g : zG} {κ : zKp} {μ : zMu} {ω : zOm} {f : Nat} {gb cb : Nat → Int32} (hf : f < 11) {i : Nat} {x : Int32} (hI : batI gb) (hlt : i < bn gb) (h7 : ¬ bf gb i 7 = 2) (hc : cb = cellsOf gb) {b : Nat} (hb : b < 10) (hx : bf gb i 2 + x = nI b) {j : Nat} (ho : occB gb (bf gb i 1) (nI b) = some j) : zM l g yX1_moveIfFree cX1_moveIfFree 4 (some .boolean) 3 0 [.ref (gA g 6 f 0), .ref (gA g 9 f i), .int x] (zF κ f gb cb) μ ω (zF κ f (stepB gb i (bf gb i 2 + x)) (cellsOf (stepB gb i (bf gb i 2 + x)))) μ ω (some (.int (if canB gb i (bf gb i 2 + x) then 1 else 0))) := by
  have hno : ¬ canB gb i (bf gb i 2 + x) := fun q => by
    have h2 := q.2
    rw [hx, (occ_some hI.1.1.1 ho).2.1] at h2
    exact absurd h2 (nn_i (by have := (occ_some hI.1.1.1 ho).1; have := hI.1.1.1; omega))
  refine zM_of (by decide) (Nat.le_of_ble_eq_true rfl) (fun p e R s m args below meth c hX => ?_)
  show zZ p l e R s m args below meth c g 4 _ _ _ _ 0 0 [(0, .ref (gA g 6 f 0)), (1, .ref (gA g 9 f i)), (2, .int x)] []
  refine z_aload_n hX dX1_moveIfFree_0 1 rfl ?_
  refine zg_X3_column hX hf (lt12 hI.1.1 hlt) (by (try simp only [bn_bs, bn_losB, bn_setB, bn_ctrB, bn_stepB, bn_resB, bn_upd (show ¬ 2 = 0 by decide), bn_upd (show ¬ 1 = 0 by decide)]); exact hlt)  fl_RX1_85 dX1_moveIfFree_1 ?_
  refine z_iload_n hX dX1_moveIfFree_4 2 rfl ?_
  refine z_iadd hX dX1_moveIfFree_5 ?_
  refine z_isv hx ?_
  refine z_istore_n (lv' := [(3, _), (0, _), (1, _), (2, _)]) hX dX1_moveIfFree_6 (by decide) rfl ?_
  refine z_iload_n hX dX1_moveIfFree_7 0 rfl ?_
  refine z_callN1 hX (ok_X4_isColumn l) cn_RX1_54 dX1_moveIfFree_8 (by decide) rfl rfl (Nat.le_of_ble_eq_true rfl) ?_
  refine z_if_eqB (tgt := 26) hX dX1_moveIfFree_11 (by decide) (fun h11 => absurd h11 (Classical.not_not.mpr (show 0 ≤ nI b ∧ nI b < 10 from ⟨ge_i (by omega), lt_i (b := 10) hb (by decide)⟩))) (fun h11 => ?_)
  refine z_aload_n hX dX1_moveIfFree_14 1 rfl ?_
  refine z_aload_n hX dX1_moveIfFree_15 2 rfl ?_
  refine zg_X3_lane hX hf (lt12 hI.1.1 hlt) (by (try simp only [bn_bs, bn_losB, bn_setB, bn_ctrB, bn_stepB, bn_resB, bn_upd (show ¬ 2 = 0 by decide), bn_upd (show ¬ 1 = 0 by decide)]); exact hlt)  fl_RX1_82 dX1_moveIfFree_16 ?_
  refine z_iload_n hX dX1_moveIfFree_19 0 rfl ?_
  refine z_callV1 hX (ok_occ_s l hf hI.1.1 hc ho) cv_RX1_75 (zRc6 hf) dX1_moveIfFree_20 (by decide) rfl rfl (Nat.le_of_ble_eq_true rfl) ?_
  refine z_ifnull hX dX1_moveIfFree_23 ?_
  refine z_iconst (v := 0) hX dX1_moveIfFree_26 (by decide) ?_
  exact z_iret hX dX1_moveIfFree_27 (by decide) rfl (by rw [if_neg hno]) (fun _ h => by rw [step_no hno, ← hc]; exact h)
set_option maxHeartbeats 4000000 in
set_option maxRecDepth 100000 in
theorem ok_move_yes (l : Launch) {g : zG} {κ : zKp} {μ : zMu} {ω : zOm} {f : Nat} {gb cb : Nat → Int32} (hf : f < 11) {i : Nat} {x : Int32} (hI : batI gb) (hlt : i < bn gb) (h7 : ¬ bf gb i 7 = 2) (hc : cb = cellsOf gb) {b : Nat} (hb : b < 10) (hx : bf gb i 2 + x = nI b) (ho : occB gb (bf gb i 1) (nI b) = none) : zM l g yX1_moveIfFree cX1_moveIfFree 4 (some .boolean) 3 0 [.ref (gA g 6 f 0), .ref (gA g 9 f i), .int x] (zF κ f gb cb) μ ω (zF κ f (stepB gb i (bf gb i 2 + x)) (cellsOf (stepB gb i (bf gb i 2 + x)))) μ ω (some (.int (if canB gb i (bf gb i 2 + x) then 1 else 0))) := by
  obtain ⟨-, ⟨a, ha, e1⟩, ⟨b0, hb0, e2⟩, -⟩ := hI.1.2.2.1 i hlt
  have hin : inCol (nI b) := ⟨ge_i (by omega), le_i (b := 9) (by omega) (by decide)⟩
  have hcell : cellB gb (nI a) (nI b) = -1 := by
    rw [← e1]
    exact occ_none hI.1.1.1 ho (by rw [e1]; exact ⟨ge_i (by omega), lt_i (b := 3) ha (by decide)⟩) hin
  have hyes : canB gb i (bf gb i 2 + x) := by
    rw [hx]
    exact ⟨hin, by rw [e1, hcell]; decide⟩
  refine zM_of (by decide) (Nat.le_of_ble_eq_true rfl) (fun p e R s m args below meth c hX => ?_)
  show zZ p l e R s m args below meth c g 4 _ _ _ _ 0 0 [(0, .ref (gA g 6 f 0)), (1, .ref (gA g 9 f i)), (2, .int x)] []
  refine z_aload_n hX dX1_moveIfFree_0 1 rfl ?_
  refine zg_X3_column hX hf (lt12 hI.1.1 hlt) (by (try simp only [bn_bs, bn_losB, bn_setB, bn_ctrB, bn_stepB, bn_resB, bn_upd (show ¬ 2 = 0 by decide), bn_upd (show ¬ 1 = 0 by decide)]); exact hlt)  fl_RX1_85 dX1_moveIfFree_1 ?_
  refine z_iload_n hX dX1_moveIfFree_4 2 rfl ?_
  refine z_iadd hX dX1_moveIfFree_5 ?_
  refine z_isv hx ?_
  refine z_istore_n (lv' := [(3, _), (0, _), (1, _), (2, _)]) hX dX1_moveIfFree_6 (by decide) rfl ?_
  refine z_iload_n hX dX1_moveIfFree_7 0 rfl ?_
  refine z_callN1 hX (ok_X4_isColumn l) cn_RX1_54 dX1_moveIfFree_8 (by decide) rfl rfl (Nat.le_of_ble_eq_true rfl) ?_
  refine z_if_eqB (tgt := 26) hX dX1_moveIfFree_11 (by decide) (fun h11 => absurd h11 (Classical.not_not.mpr (show 0 ≤ nI b ∧ nI b < 10 from ⟨ge_i (by omega), lt_i (b := 10) hb (by decide)⟩))) (fun h11 => ?_)
  refine z_aload_n hX dX1_moveIfFree_14 1 rfl ?_
  refine z_aload_n hX dX1_moveIfFree_15 2 rfl ?_
  refine zg_X3_lane hX hf (lt12 hI.1.1 hlt) (by (try simp only [bn_bs, bn_losB, bn_setB, bn_ctrB, bn_stepB, bn_resB, bn_upd (show ¬ 2 = 0 by decide), bn_upd (show ¬ 1 = 0 by decide)]); exact hlt)  fl_RX1_82 dX1_moveIfFree_16 ?_
  refine z_iload_n hX dX1_moveIfFree_19 0 rfl ?_
  refine z_callV1 hX (ok_occ_n l hf hI.1.1 hc ho) cv_RX1_75 (zRc6 hf) dX1_moveIfFree_20 (by decide) rfl rfl (Nat.le_of_ble_eq_true rfl) ?_
  refine z_ifnullN (tgt := 28) hX dX1_moveIfFree_23 (by decide) ?_
  refine z_aload_n hX dX1_moveIfFree_28 1 rfl ?_
  refine z_aload_n hX dX1_moveIfFree_29 2 rfl ?_
  refine zg_X3_lane hX hf (lt12 hI.1.1 hlt) (by (try simp only [bn_bs, bn_losB, bn_setB, bn_ctrB, bn_stepB, bn_resB, bn_upd (show ¬ 2 = 0 by decide), bn_upd (show ¬ 1 = 0 by decide)]); exact hlt)  fl_RX1_82 dX1_moveIfFree_30 ?_
  refine z_isv e1 ?_
  refine z_aload_n hX dX1_moveIfFree_33 2 rfl ?_
  refine zg_X3_column hX hf (lt12 hI.1.1 hlt) (by (try simp only [bn_bs, bn_losB, bn_setB, bn_ctrB, bn_stepB, bn_resB, bn_upd (show ¬ 2 = 0 by decide), bn_upd (show ¬ 1 = 0 by decide)]); exact hlt)  fl_RX1_85 dX1_moveIfFree_34 ?_
  refine z_isv e2 ?_
  refine z_iconst (v := -1) hX dX1_moveIfFree_37 (by decide) ?_
  refine z_callV0 hX (ok_X1_putInto l hf ha hb0) cv_RX1_107 (zRc6 hf) dX1_moveIfFree_38 (by decide) rfl rfl (Nat.le_of_ble_eq_true rfl) ?_
  refine z_aload_n hX dX1_moveIfFree_41 2 rfl ?_
  refine z_iload_n hX dX1_moveIfFree_42 0 rfl ?_
  refine zp_X3_column hX hf (lt12 hI.1.1 hlt) (by (try simp only [bn_bs, bn_losB, bn_setB, bn_ctrB, bn_stepB, bn_resB, bn_upd (show ¬ 2 = 0 by decide), bn_upd (show ¬ 1 = 0 by decide)]); exact hlt)  fl_RX1_85 dX1_moveIfFree_43 ?_
  refine z_aload_n hX dX1_moveIfFree_46 1 rfl ?_
  refine z_aload_n hX dX1_moveIfFree_47 2 rfl ?_
  refine zg_X3_lane hX hf (lt12 hI.1.1 hlt) (by (try simp only [bn_bs, bn_losB, bn_setB, bn_ctrB, bn_stepB, bn_resB, bn_upd (show ¬ 2 = 0 by decide), bn_upd (show ¬ 1 = 0 by decide)]); exact hlt)  fl_RX1_82 dX1_moveIfFree_48 ?_
  refine z_isv (show bf (bs gb i 2 (nI b)) i 1 = nI a by rw [bf_bsW (by decide)]; exact e1) ?_
  refine z_iload_n hX dX1_moveIfFree_51 0 rfl ?_
  refine z_aload_n hX dX1_moveIfFree_52 2 rfl ?_
  refine zg_X3_number hX hf (lt12 hI.1.1 hlt) (by (try simp only [bn_bs, bn_losB, bn_setB, bn_ctrB, bn_stepB, bn_resB, bn_upd (show ¬ 2 = 0 by decide), bn_upd (show ¬ 1 = 0 by decide)]); exact hlt)  fl_RX1_147 dX1_moveIfFree_53 ?_
  refine z_callV0 hX (ok_X1_putInto l hf ha hb) cv_RX1_107 (zRc6 hf) dX1_moveIfFree_56 (by decide) rfl rfl (Nat.le_of_ble_eq_true rfl) ?_
  refine z_iconst (v := 1) hX dX1_moveIfFree_59 (by decide) ?_
  exact z_iret hX dX1_moveIfFree_60 (by decide) rfl (by rw [if_pos hyes]) (fun _ h => by rw [show stepB gb i (bf gb i 2 + x) = bs gb i 2 (nI b) by unfold stepB; rw [if_pos hyes, hx], (cells_step hI.1.1.1 hI.1.2.2.2 hlt h7 ha hb0 hb e1 e2 hcell).2, ← hc]; exact h)
theorem ok_move (l : Launch) {g : zG} {κ : zKp} {μ : zMu} {ω : zOm} {f : Nat} {gb cb : Nat → Int32} (hf : f < 11) {i : Nat} {x : Int32} (hI : batI gb) (hlt : i < bn gb) (h7 : ¬ bf gb i 7 = 2) (hc : cb = cellsOf gb) : zM l g yX1_moveIfFree cX1_moveIfFree 4 (some .boolean) 3 0 [.ref (gA g 6 f 0), .ref (gA g 9 f i), .int x] (zF κ f gb cb) μ ω (zF κ f (stepB gb i (bf gb i 2 + x)) (cellsOf (stepB gb i (bf gb i 2 + x)))) μ ω (some (.int (if canB gb i (bf gb i 2 + x) then 1 else 0))) := by
  by_cases hin : inCol (bf gb i 2 + x)
  · obtain ⟨b, hb, hx⟩ := in10 hin
    rcases ho : occB gb (bf gb i 1) (nI b) with _ | j
    · exact ok_move_yes l hf hI hlt h7 hc hb hx ho
    · exact ok_move_no l hf hI hlt h7 hc hb hx ho
  · exact ok_move_out l hf hI hlt h7 hc hin
set_option maxHeartbeats 4000000 in
set_option maxRecDepth 100000 in
theorem ok_X1_fight (l : Launch) {g : zG} {κ : zKp} {μ : zMu} {ω : zOm} {f : Nat} {gb cb : Nat → Int32} (hf : f < 11) {i j : Nat} {ch : Prop} [Decidable ch] (hI : batI gb) (hlt : i < bn gb) (hlj : j < bn gb) (hij : ¬ i = j) (h7 : ¬ bf gb i 7 = 2) (h7j : ¬ bf gb j 7 = 2) (hc : cb = cellsOf gb) : zM l g yX1_fight cX1_fight 4 none 3 0 [.ref (gA g 6 f 0), .ref (gA g 9 f i), .ref (gA g 9 f j), .int (if ch then 1 else 0)] (zF κ f gb cb) μ ω (zF κ f (figB gb i j ch) (cellsOf (figB gb i j ch))) μ ω none := by
  have hctr : ∀ (_ : batW (losB (upd gb 2 (gb 2 + 1)) j (damB gb i ch))) (_ : 0 < bf (losB (upd gb 2 (gb 2 + 1)) j (damB gb i ch)) j 4), batW (losB (losB (upd gb 2 (gb 2 + 1)) j (damB gb i ch)) i (cntB (losB (upd gb 2 (gb 2 + 1)) j (damB gb i ch)) j)) := fun h h0 => by
    have := batW_ctr (i := i) (j := j) h (by simpa only [bn_losB, bn_upd (show ¬ 2 = 0 by decide)] using hlt) (by simpa only [bn_losB, bn_upd (show ¬ 2 = 0 by decide)] using hlj)
    unfold ctrB at this
    rwa [if_pos h0] at this
  refine zM_of (by decide) (Nat.le_of_ble_eq_true rfl) (fun p e R s m args below meth c hX => ?_)
  show zZ p l e R s m args below meth c g 4 _ _ _ _ 0 0 [(0, .ref (gA g 6 f 0)), (1, .ref (gA g 9 f i)), (2, .ref (gA g 9 f j)), (3, .int (if ch then 1 else 0))] []
  refine z_aload_n hX dX1_fight_0 0 rfl ?_
  refine z_dup hX dX1_fight_1 rfl ?_
  refine zg_X1_fights hX hf  fl_RX1_28 dX1_fight_2 ?_
  refine z_iconst (v := 1) hX dX1_fight_5 (by decide) ?_
  refine z_iadd hX dX1_fight_6 ?_
  refine zp_X1_fights hX hf  fl_RX1_28 dX1_fight_7 ?_
  refine z_aload_n hX dX1_fight_10 2 rfl ?_
  refine z_aload_n hX dX1_fight_11 1 rfl ?_
  refine z_iload_n hX dX1_fight_12 3 rfl ?_
  refine z_callV1 hX (ok_X3_attack l hf (lt12 hI.1.1 hlt) (by (try simp only [bn_bs, bn_losB, bn_setB, bn_ctrB, bn_stepB, bn_resB, bn_upd (show ¬ 2 = 0 by decide), bn_upd (show ¬ 1 = 0 by decide)]); exact hlt)) cv_RX1_150 (zRc9 hf (lt12 hI.1.1 hlt)) dX1_fight_13 (by decide) rfl rfl (Nat.le_of_ble_eq_true rfl) ?_
  refine z_iconst (v := 2) hX dX1_fight_16 (by decide) ?_
  refine z_aload_n hX dX1_fight_17 0 rfl ?_
  refine z_aload_n hX dX1_fight_18 1 rfl ?_
  refine z_callV1 hX (ok_X1_supportAmongLines l hf (batW_upd hI.1 (Or.inr rfl)) (by (try simp only [bn_bs, bn_losB, bn_setB, bn_ctrB, bn_stepB, bn_resB, bn_upd (show ¬ 2 = 0 by decide), bn_upd (show ¬ 1 = 0 by decide)]); exact hlt)) cv_RX1_154 (zRc6 hf) dX1_fight_19 (by decide) rfl rfl (Nat.le_of_ble_eq_true rfl) ?_
  refine z_imul hX dX1_fight_22 ?_
  refine z_iadd hX dX1_fight_23 ?_
  refine z_isv dam_eq ?_
  refine z_callV0 hX (ok_X3_suffer l hf (lt12 hI.1.1 hlj) (by (try simp only [bn_bs, bn_losB, bn_setB, bn_ctrB, bn_stepB, bn_resB, bn_upd (show ¬ 2 = 0 by decide), bn_upd (show ¬ 1 = 0 by decide)]); exact hlj)) cv_RX1_158 (zRc9 hf (lt12 hI.1.1 hlj)) dX1_fight_24 (by decide) rfl rfl (Nat.le_of_ble_eq_true rfl) ?_
  refine z_aload_n hX dX1_fight_27 2 rfl ?_
  refine zg_X3_strength hX hf (lt12 hI.1.1 hlj) (by (try simp only [bn_bs, bn_losB, bn_setB, bn_ctrB, bn_stepB, bn_resB, bn_upd (show ¬ 2 = 0 by decide), bn_upd (show ¬ 1 = 0 by decide)]); exact hlj)  fl_RX1_95 dX1_fight_28 ?_
  refine z_if_le (tgt := 42) hX dX1_fight_31 (by decide) (fun h31 => ?_) (fun h31 => ?_)
  · skip
    refine z_aload_n hX dX1_fight_42 0 rfl ?_
    refine z_aload_n hX dX1_fight_43 2 rfl ?_
    refine z_callV0 hX (ok_X1_settle l hf (show batW (losB (upd gb 2 (gb 2 + 1)) j (damB gb i ch)) by rw [los_upd (by decide)]; exact batW_upd (batW_hit hI.1 hlt hlj) (Or.inr rfl)) (by simpa only [bn_losB, bn_upd (show ¬ 2 = 0 by decide)] using hlj) (by rw [losB_w (by decide) (by decide), bf_upd (by decide)]; exact h7j) (show cb = cellsOf (losB (upd gb 2 (gb 2 + 1)) j (damB gb i ch)) by rw [cells_los, cells_upd (Or.inr rfl)]; exact hc)) cv_RX1_164 (zRc6 hf) dX1_fight_44 (by decide) rfl rfl (Nat.le_of_ble_eq_true rfl) ?_
    refine z_aload_n hX dX1_fight_47 0 rfl ?_
    refine z_aload_n hX dX1_fight_48 1 rfl ?_
    refine z_callV0 hX (ok_X1_settle l hf (batW_set (show batW (losB (upd gb 2 (gb 2 + 1)) j (damB gb i ch)) by rw [los_upd (by decide)]; exact batW_upd (batW_hit hI.1 hlt hlj) (Or.inr rfl))) (by simpa only [bn_setB, bn_losB, bn_upd (show ¬ 2 = 0 by decide)] using hlt) (by rw [setB_o (by decide) hij, losB_o (by decide) hij, bf_upd (by decide)]; exact h7) rfl) cv_RX1_164 (zRc6 hf) dX1_fight_49 (by decide) rfl rfl (Nat.le_of_ble_eq_true rfl) ?_
    exact z_vret hX dX1_fight_52 (by decide) (fun _ h => by rw [← fig_eq hij]; unfold ctrB; rw [if_neg (Int32.not_lt.mpr h31)]; exact h)
  · skip
    refine z_aload_n hX dX1_fight_34 1 rfl ?_
    refine z_aload_n hX dX1_fight_35 2 rfl ?_
    refine z_callV1 hX (ok_X3_counter l hf (lt12 hI.1.1 hlj) (by (try simp only [bn_bs, bn_losB, bn_setB, bn_ctrB, bn_stepB, bn_resB, bn_upd (show ¬ 2 = 0 by decide), bn_upd (show ¬ 1 = 0 by decide)]); exact hlj)) cv_RX1_161 (zRc9 hf (lt12 hI.1.1 hlj)) dX1_fight_36 (by decide) rfl rfl (Nat.le_of_ble_eq_true rfl) ?_
    refine z_callV0 hX (ok_X3_suffer l hf (lt12 hI.1.1 hlt) (by (try simp only [bn_bs, bn_losB, bn_setB, bn_ctrB, bn_stepB, bn_resB, bn_upd (show ¬ 2 = 0 by decide), bn_upd (show ¬ 1 = 0 by decide)]); exact hlt)) cv_RX1_158 (zRc9 hf (lt12 hI.1.1 hlt)) dX1_fight_39 (by decide) rfl rfl (Nat.le_of_ble_eq_true rfl) ?_
    refine z_aload_n hX dX1_fight_42 0 rfl ?_
    refine z_aload_n hX dX1_fight_43 2 rfl ?_
    refine z_callV0 hX (ok_X1_settle l hf (hctr (show batW (losB (upd gb 2 (gb 2 + 1)) j (damB gb i ch)) by rw [los_upd (by decide)]; exact batW_upd (batW_hit hI.1 hlt hlj) (Or.inr rfl)) (Int32.not_le.mp h31)) (by simpa only [bn_losB, bn_upd (show ¬ 2 = 0 by decide)] using hlj) (by rw [losB_o (by decide) (fun e => hij e.symm), losB_w (by decide) (by decide), bf_upd (by decide)]; exact h7j) (show cb = cellsOf (losB (losB (upd gb 2 (gb 2 + 1)) j (damB gb i ch)) i (cntB (losB (upd gb 2 (gb 2 + 1)) j (damB gb i ch)) j)) by rw [cells_los, cells_los, cells_upd (Or.inr rfl)]; exact hc)) cv_RX1_164 (zRc6 hf) dX1_fight_44 (by decide) rfl rfl (Nat.le_of_ble_eq_true rfl) ?_
    refine z_aload_n hX dX1_fight_47 0 rfl ?_
    refine z_aload_n hX dX1_fight_48 1 rfl ?_
    refine z_callV0 hX (ok_X1_settle l hf (batW_set (hctr (show batW (losB (upd gb 2 (gb 2 + 1)) j (damB gb i ch)) by rw [los_upd (by decide)]; exact batW_upd (batW_hit hI.1 hlt hlj) (Or.inr rfl)) (Int32.not_le.mp h31))) (by simpa only [bn_setB, bn_losB, bn_upd (show ¬ 2 = 0 by decide)] using hlt) (by rw [setB_o (by decide) hij, losB_w (by decide) (by decide), losB_o (by decide) hij, bf_upd (by decide)]; exact h7) rfl) cv_RX1_164 (zRc6 hf) dX1_fight_49 (by decide) rfl rfl (Nat.le_of_ble_eq_true rfl) ?_
    exact z_vret hX dX1_fight_52 (by decide) (fun _ h => by rw [← fig_eq hij]; unfold ctrB; rw [if_pos (Int32.not_le.mp h31)]; exact h)
set_option maxHeartbeats 4000000 in
set_option maxRecDepth 100000 in
theorem ok_X1_retreat (l : Launch) {g : zG} {κ : zKp} {μ : zMu} {ω : zOm} {f : Nat} {gb cb : Nat → Int32} (hf : f < 11) {i : Nat} (hI : batI gb) (hlt : i < bn gb) (h7 : ¬ bf gb i 7 = 2) (hc : cb = cellsOf gb) : zM l g yX1_retreat cX1_retreat 2 none 4 0 [.ref (gA g 6 f 0), .ref (gA g 9 f i)] (zF κ f gb cb) μ ω (zF κ f (fleB gb i) (cellsOf (fleB gb i))) μ ω none := by
  refine zM_of (by decide) (Nat.le_of_ble_eq_true rfl) (fun p e R s m args below meth c hX => ?_)
  show zZ p l e R s m args below meth c g 2 _ _ _ _ 0 0 [(0, .ref (gA g 6 f 0)), (1, .ref (gA g 9 f i))] []
  refine z_aload_n hX dX1_retreat_0 1 rfl ?_
  refine z_dup hX dX1_retreat_1 rfl ?_
  refine zg_X3_turnsRouted hX hf (lt12 hI.1.1 hlt) (by (try simp only [bn_bs, bn_losB, bn_setB, bn_ctrB, bn_stepB, bn_resB, bn_upd (show ¬ 2 = 0 by decide), bn_upd (show ¬ 1 = 0 by decide)]); exact hlt)  fl_RX1_104 dX1_retreat_2 ?_
  refine z_iconst (v := 1) hX dX1_retreat_5 (by decide) ?_
  refine z_iadd hX dX1_retreat_6 ?_
  refine zp_X3_turnsRouted hX hf (lt12 hI.1.1 hlt) (by (try simp only [bn_bs, bn_losB, bn_setB, bn_ctrB, bn_stepB, bn_resB, bn_upd (show ¬ 2 = 0 by decide), bn_upd (show ¬ 1 = 0 by decide)]); exact hlt)  fl_RX1_104 dX1_retreat_7 ?_
  refine z_aload_n hX dX1_retreat_10 0 rfl ?_
  refine z_aload_n hX dX1_retreat_11 1 rfl ?_
  refine z_aload_n hX dX1_retreat_12 1 rfl ?_
  refine z_callV1 hX (ok_X3_forward l hf (lt12 hI.1.1 hlt) (by (try simp only [bn_bs, bn_losB, bn_setB, bn_ctrB, bn_stepB, bn_resB, bn_upd (show ¬ 2 = 0 by decide), bn_upd (show ¬ 1 = 0 by decide)]); exact hlt)) cv_RX1_135 (zRc9 hf (lt12 hI.1.1 hlt)) dX1_retreat_13 (by decide) rfl rfl (Nat.le_of_ble_eq_true rfl) ?_
  refine z_ineg hX dX1_retreat_16 ?_
  refine z_callV1 hX (ok_move l hf (batI_8 hI) (by (try simp only [bn_bs, bn_losB, bn_setB, bn_ctrB, bn_stepB, bn_resB, bn_upd (show ¬ 2 = 0 by decide), bn_upd (show ¬ 1 = 0 by decide)]); exact hlt) (by rw [bf_bsW (by decide)]; exact h7) (by rw [cellsOf_8]; exact hc)) cv_RX1_139 (zRc6 hf) dX1_retreat_17 (by decide) rfl rfl (Nat.le_of_ble_eq_true rfl) ?_
  refine z_pop hX dX1_retreat_20 rfl ?_
  refine z_aload_n hX dX1_retreat_21 1 rfl ?_
  refine z_iconst (v := 1) hX dX1_retreat_22 (by decide) ?_
  refine z_callV0 hX (ok_X3_gainMorale l hf (lt12 hI.1.1 hlt) (by (try simp only [bn_bs, bn_losB, bn_setB, bn_ctrB, bn_stepB, bn_resB, bn_upd (show ¬ 2 = 0 by decide), bn_upd (show ¬ 1 = 0 by decide)]); exact hlt)) cv_RX1_123 (zRc9 hf (lt12 hI.1.1 hlt)) dX1_retreat_23 (by decide) rfl rfl (Nat.le_of_ble_eq_true rfl) ?_
  refine z_aload_n hX dX1_retreat_26 1 rfl ?_
  refine z_callV0 hX (ok_X3_standIfBold l hf (lt12 hI.1.1 hlt) (by (try simp only [bn_bs, bn_losB, bn_setB, bn_ctrB, bn_stepB, bn_resB, bn_upd (show ¬ 2 = 0 by decide), bn_upd (show ¬ 1 = 0 by decide)]); exact hlt)) cv_RX1_126 (zRc9 hf (lt12 hI.1.1 hlt)) dX1_retreat_27 (by decide) rfl rfl (Nat.le_of_ble_eq_true rfl) ?_
  exact z_vret hX dX1_retreat_30 (by decide) (fun _ h => by rw [← fle_eq, cellsOf_res (by rw [bf_bsW (by decide), stepB_f (by decide), bf_bsW (by decide)]; exact h7), cellsOf_5]; exact h)
end ZF2
