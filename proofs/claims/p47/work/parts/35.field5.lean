section ZF5
theorem jq_v {g : zB} {i : Nat} : (if bf g i 0 = 0 then g 3 else g 4) = g (jq g i) := by
  unfold jq
  by_cases h : bf g i 0 = 0
  · rw [if_pos h, if_pos h]
  · rw [if_neg h, if_neg h]
theorem bn_use {g : zB} {i : Nat} : bn (useB g i) = bn g := by
  unfold useB jq bn upd
  by_cases h : bf g i 0 = 0
  · rw [if_pos h, if_neg (by decide)]
  · rw [if_neg h, if_neg (by decide)]
theorem bn_resB' {g : zB} {i : Nat} : bn (resB g i) = bn g := by
  unfold resB
  by_cases h : 8 ≤ bf g i 5
  · rw [if_pos h, bn_bs, bn_bs]
  · rw [if_neg h]
theorem bn_ral {g : zB} {i : Nat} : bn (ralB g i) = bn g := by rw [ralB, bn_resB', bn_bs, bn_use]
theorem fit_o {x : Int32} (h : x = 104 ∨ x = 97 ∨ x = 99) : fits .char (.int x) = true := by rcases h with q | q | q <;> rw [q] <;> rfl
theorem fit_k {x : Int32} (h : x = 112 ∨ x = 110 ∨ x = 99 ∨ x = 115) : fits .char (.int x) = true := by rcases h with q | q | q | q <;> rw [q] <;> rfl
theorem let_k {x : Int32} (h : x = 112 ∨ x = 110 ∨ x = 99 ∨ x = 115) : ((x + -32).toUInt32 % 65536).toInt32 = x - 32 := by rcases h with q | q | q | q <;> rw [q] <;> rfl
theorem let_n {x : Int32} (h : x = 112 ∨ x = 110 ∨ x = 99 ∨ x = 115) : narrow .char (.int (x - 32)) = .int (x - 32) := by rcases h with q | q | q | q <;> rw [q] <;> rfl
set_option maxHeartbeats 4000000 in
set_option maxRecDepth 100000 in
theorem fr_2 (l : Launch) {g : zG} {κ : zKp} {μ : zMu} {ω : zOm} {f : Nat} {gb cb : Nat → Int32} (hf : f < 11) {x : Int32} (hx : x < 0 ∨ gb 0 ≤ x)  : zM l g yX1_faultOfRallying cX1_faultOfRallying 3 (some .int) 2 0 [.ref (gA g 6 f 0), .int x] (zF κ f gb cb) μ ω (zF κ f gb cb) μ ω (some (.int 2)) := by
  refine zM_of (by decide) (Nat.le_of_ble_eq_true rfl) (fun p e R s m args below meth c hX => ?_)
  show zZ p l e R s m args below meth c g 3 _ _ _ _ 0 0 [(0, .ref (gA g 6 f 0)), (1, .int x)] []
  refine z_aload_n hX dX1_faultOfRallying_0 0 rfl ?_
  refine z_iload_n hX dX1_faultOfRallying_1 1 rfl ?_
  refine z_callV1 hX (ok_line_out l hf hx) cv_RX1_57 (zRc6 hf) dX1_faultOfRallying_2 (by decide) rfl rfl (Nat.le_of_ble_eq_true rfl) ?_
  refine z_nstore_n (lv' := [(2, _), (0, _), (1, _)]) hX dX1_faultOfRallying_5 (by decide) rfl ?_
  refine z_nload_n hX dX1_faultOfRallying_6 0 rfl ?_
  refine z_ifnonnullN hX dX1_faultOfRallying_7 ?_
  refine z_iconst (v := 2) hX dX1_faultOfRallying_10 (by decide) ?_
  exact z_iretI hX dX1_faultOfRallying_11 (by decide) rfl (fun _ h => h)
set_option maxHeartbeats 4000000 in
set_option maxRecDepth 100000 in
theorem fr_3 (l : Launch) {g : zG} {κ : zKp} {μ : zMu} {ω : zOm} {f : Nat} {gb cb : Nat → Int32} (hf : f < 11) {i : Nat} (hn : bnI gb) (hlt : i < bn gb) (h1 : ¬ bf gb i 7 = 1) : zM l g yX1_faultOfRallying cX1_faultOfRallying 3 (some .int) 2 0 [.ref (gA g 6 f 0), .int (nI i)] (zF κ f gb cb) μ ω (zF κ f gb cb) μ ω (some (.int 3)) := by
  refine zM_of (by decide) (Nat.le_of_ble_eq_true rfl) (fun p e R s m args below meth c hX => ?_)
  show zZ p l e R s m args below meth c g 3 _ _ _ _ 0 0 [(0, .ref (gA g 6 f 0)), (1, .int (nI i))] []
  refine z_aload_n hX dX1_faultOfRallying_0 0 rfl ?_
  refine z_iload_n hX dX1_faultOfRallying_1 1 rfl ?_
  refine z_callV1 hX (ok_line_in l hf hn hlt) cv_RX1_57 (zRc6 hf) dX1_faultOfRallying_2 (by decide) rfl rfl (Nat.le_of_ble_eq_true rfl) ?_
  refine z_astore_n (lv' := [(2, _), (0, _), (1, _)]) hX dX1_faultOfRallying_5 (by decide) rfl ?_
  refine z_aload_n hX dX1_faultOfRallying_6 0 rfl ?_
  refine z_ifnonnull (tgt := 12) hX dX1_faultOfRallying_7 (by decide) ?_
  refine z_aload_n hX dX1_faultOfRallying_12 0 rfl ?_
  refine z_callV1 hX (ok_X3_routed l hf (lt12 hn hlt) hlt) cv_RX1_117 (zRc9 hf (lt12 hn hlt)) dX1_faultOfRallying_13 (by decide) rfl rfl (Nat.le_of_ble_eq_true rfl) ?_
  refine z_if_neB (tgt := 21) hX dX1_faultOfRallying_16 (by decide) (fun h16 => absurd h16 h1) (fun h16 => ?_)
  refine z_iconst (v := 3) hX dX1_faultOfRallying_19 (by decide) ?_
  exact z_iretI hX dX1_faultOfRallying_20 (by decide) rfl (fun _ h => h)
set_option maxHeartbeats 4000000 in
set_option maxRecDepth 100000 in
theorem fr_4 (l : Launch) {g : zG} {κ : zKp} {μ : zMu} {ω : zOm} {f : Nat} {gb cb : Nat → Int32} (hf : f < 11) {i : Nat} (hn : bnI gb) (hlt : i < bn gb) (h1 : bf gb i 7 = 1) (h2 : gb (jq gb i) ≤ 0) : zM l g yX1_faultOfRallying cX1_faultOfRallying 3 (some .int) 2 0 [.ref (gA g 6 f 0), .int (nI i)] (zF κ f gb cb) μ ω (zF κ f gb cb) μ ω (some (.int 4)) := by
  refine zM_of (by decide) (Nat.le_of_ble_eq_true rfl) (fun p e R s m args below meth c hX => ?_)
  show zZ p l e R s m args below meth c g 3 _ _ _ _ 0 0 [(0, .ref (gA g 6 f 0)), (1, .int (nI i))] []
  refine z_aload_n hX dX1_faultOfRallying_0 0 rfl ?_
  refine z_iload_n hX dX1_faultOfRallying_1 1 rfl ?_
  refine z_callV1 hX (ok_line_in l hf hn hlt) cv_RX1_57 (zRc6 hf) dX1_faultOfRallying_2 (by decide) rfl rfl (Nat.le_of_ble_eq_true rfl) ?_
  refine z_astore_n (lv' := [(2, _), (0, _), (1, _)]) hX dX1_faultOfRallying_5 (by decide) rfl ?_
  refine z_aload_n hX dX1_faultOfRallying_6 0 rfl ?_
  refine z_ifnonnull (tgt := 12) hX dX1_faultOfRallying_7 (by decide) ?_
  refine z_aload_n hX dX1_faultOfRallying_12 0 rfl ?_
  refine z_callV1 hX (ok_X3_routed l hf (lt12 hn hlt) hlt) cv_RX1_117 (zRc9 hf (lt12 hn hlt)) dX1_faultOfRallying_13 (by decide) rfl rfl (Nat.le_of_ble_eq_true rfl) ?_
  refine z_if_neB (tgt := 21) hX dX1_faultOfRallying_16 (by decide) (fun h16 => ?_) (fun h16 => absurd h16 (Classical.not_not.mpr h1))
  refine z_aload_n hX dX1_faultOfRallying_21 1 rfl ?_
  refine z_aload_n hX dX1_faultOfRallying_22 0 rfl ?_
  refine zg_X3_side hX hf (lt12 hn hlt) hlt  fl_RX1_79 dX1_faultOfRallying_23 ?_
  refine z_callV1 hX (ok_X1_jars l hf) cv_RX1_120 (zRc6 hf) dX1_faultOfRallying_26 (by decide) rfl rfl (Nat.le_of_ble_eq_true rfl) ?_
  refine z_isv jq_v ?_
  refine z_if_le (tgt := 36) hX dX1_faultOfRallying_29 (by decide) (fun h29 => ?_) (fun h29 => absurd h29 (Classical.not_not.mpr h2))
  refine z_iconst (v := 4) hX dX1_faultOfRallying_36 (by decide) ?_
  exact z_iretI hX dX1_faultOfRallying_37 (by decide) rfl (fun _ h => h)
set_option maxHeartbeats 4000000 in
set_option maxRecDepth 100000 in
theorem fr_0 (l : Launch) {g : zG} {κ : zKp} {μ : zMu} {ω : zOm} {f : Nat} {gb cb : Nat → Int32} (hf : f < 11) {i : Nat} (hn : bnI gb) (hlt : i < bn gb) (h1 : bf gb i 7 = 1) (h2 : ¬ gb (jq gb i) ≤ 0) : zM l g yX1_faultOfRallying cX1_faultOfRallying 3 (some .int) 2 0 [.ref (gA g 6 f 0), .int (nI i)] (zF κ f gb cb) μ ω (zF κ f gb cb) μ ω (some (.int 0)) := by
  refine zM_of (by decide) (Nat.le_of_ble_eq_true rfl) (fun p e R s m args below meth c hX => ?_)
  show zZ p l e R s m args below meth c g 3 _ _ _ _ 0 0 [(0, .ref (gA g 6 f 0)), (1, .int (nI i))] []
  refine z_aload_n hX dX1_faultOfRallying_0 0 rfl ?_
  refine z_iload_n hX dX1_faultOfRallying_1 1 rfl ?_
  refine z_callV1 hX (ok_line_in l hf hn hlt) cv_RX1_57 (zRc6 hf) dX1_faultOfRallying_2 (by decide) rfl rfl (Nat.le_of_ble_eq_true rfl) ?_
  refine z_astore_n (lv' := [(2, _), (0, _), (1, _)]) hX dX1_faultOfRallying_5 (by decide) rfl ?_
  refine z_aload_n hX dX1_faultOfRallying_6 0 rfl ?_
  refine z_ifnonnull (tgt := 12) hX dX1_faultOfRallying_7 (by decide) ?_
  refine z_aload_n hX dX1_faultOfRallying_12 0 rfl ?_
  refine z_callV1 hX (ok_X3_routed l hf (lt12 hn hlt) hlt) cv_RX1_117 (zRc9 hf (lt12 hn hlt)) dX1_faultOfRallying_13 (by decide) rfl rfl (Nat.le_of_ble_eq_true rfl) ?_
  refine z_if_neB (tgt := 21) hX dX1_faultOfRallying_16 (by decide) (fun h16 => ?_) (fun h16 => absurd h16 (Classical.not_not.mpr h1))
  refine z_aload_n hX dX1_faultOfRallying_21 1 rfl ?_
  refine z_aload_n hX dX1_faultOfRallying_22 0 rfl ?_
  refine zg_X3_side hX hf (lt12 hn hlt) hlt  fl_RX1_79 dX1_faultOfRallying_23 ?_
  refine z_callV1 hX (ok_X1_jars l hf) cv_RX1_120 (zRc6 hf) dX1_faultOfRallying_26 (by decide) rfl rfl (Nat.le_of_ble_eq_true rfl) ?_
  refine z_isv jq_v ?_
  refine z_if_le (tgt := 36) hX dX1_faultOfRallying_29 (by decide) (fun h29 => absurd h29 h2) (fun h29 => ?_)
  refine z_iconst (v := 0) hX dX1_faultOfRallying_32 (by decide) ?_
  refine z_goto (tgt := 37) hX dX1_faultOfRallying_33 (by decide) ?_
  exact z_iretI hX dX1_faultOfRallying_37 (by decide) rfl (fun _ h => h)
set_option maxHeartbeats 4000000 in
set_option maxRecDepth 100000 in
theorem ok_X1_giveOrder (l : Launch) {g : zG} {κ : zKp} {μ : zMu} {ω : zOm} {f : Nat} {gb cb : Nat → Int32} (hf : f < 11) {i : Nat} (hn : bnI gb) (hlt : i < bn gb) {x : Int32} (hL : lineW gb i) (ho : ordO x) : zM l g yX1_giveOrder cX1_giveOrder 5 (some .char) 2 0 [.ref (gA g 6 f 0), .int (nI i), .int x] (zF κ f gb cb) μ ω (zF κ f (bs gb i 6 x) cb) μ ω (some (.int (bf gb i 6))) := by
  refine zM_of (by decide) (Nat.le_of_ble_eq_true rfl) (fun p e R s m args below meth c hX => ?_)
  show zZ p l e R s m args below meth c g 5 _ _ _ _ 0 0 [(0, .ref (gA g 6 f 0)), (1, .int (nI i)), (2, .int x)] []
  refine z_aload_n hX dX1_giveOrder_0 0 rfl ?_
  refine z_iload_n hX dX1_giveOrder_1 1 rfl ?_
  refine z_callV1 hX (ok_line_in l hf hn hlt) cv_RX1_57 (zRc6 hf) dX1_giveOrder_2 (by decide) rfl rfl (Nat.le_of_ble_eq_true rfl) ?_
  refine z_astore_n (lv' := [(3, _), (0, _), (1, _), (2, _)]) hX dX1_giveOrder_5 (by decide) rfl ?_
  refine z_aload_n hX dX1_giveOrder_6 0 rfl ?_
  refine z_ifnonnull (tgt := 12) hX dX1_giveOrder_7 (by decide) ?_
  refine z_aload_n hX dX1_giveOrder_12 0 rfl ?_
  refine zg_X3_order hX hf (lt12 hn hlt) hlt  fl_RX1_92 dX1_giveOrder_13 ?_
  refine z_istore (lv' := [(4, _), (3, _), (0, _), (1, _), (2, _)]) hX dX1_giveOrder_16 (by decide) rfl ?_
  refine z_aload_n hX dX1_giveOrder_18 1 rfl ?_
  refine z_iload_n hX dX1_giveOrder_19 4 rfl ?_
  refine zp_X3_order hX hf (lt12 hn hlt) hlt (char_o ho) (fit_o ho) fl_RX1_92 dX1_giveOrder_20 ?_
  refine z_iload hX dX1_giveOrder_23 0 rfl ?_
  exact z_iret hX dX1_giveOrder_25 (by decide) (char_o hL.2.2.2.2.2.2.1) rfl (fun _ h => h)
set_option maxHeartbeats 4000000 in
set_option maxRecDepth 100000 in
theorem ok_X1_useJar (l : Launch) {g : zG} {κ : zKp} {μ : zMu} {ω : zOm} {f : Nat} {gb cb : Nat → Int32} (hf : f < 11) {i : Nat} (hn : bnI gb) (hlt : i < bn gb)  : zM l g yX1_useJar cX1_useJar 3 (some .int) 3 0 [.ref (gA g 6 f 0), .int (nI i)] (zF κ f gb cb) μ ω (zF κ f (ralB gb i) cb) μ ω (some (.int (bf (ralB gb i) i 5))) := by
  have hltU : i < bn (useB gb i) := by rw [bn_use]; exact hlt
  have hltR : i < bn (ralB gb i) := by rw [bn_ral]; exact hlt
  refine zM_of (by decide) (Nat.le_of_ble_eq_true rfl) (fun p e R s m args below meth c hX => ?_)
  show zZ p l e R s m args below meth c g 3 _ _ _ _ 0 0 [(0, .ref (gA g 6 f 0)), (1, .int (nI i))] []
  refine z_aload_n hX dX1_useJar_0 0 rfl ?_
  refine z_iload_n hX dX1_useJar_1 1 rfl ?_
  refine z_callV1 hX (ok_line_in l hf hn hlt) cv_RX1_57 (zRc6 hf) dX1_useJar_2 (by decide) rfl rfl (Nat.le_of_ble_eq_true rfl) ?_
  refine z_astore_n (lv' := [(2, _), (0, _), (1, _)]) hX dX1_useJar_5 (by decide) rfl ?_
  refine z_aload_n hX dX1_useJar_6 0 rfl ?_
  refine z_ifnonnull (tgt := 12) hX dX1_useJar_7 (by decide) ?_
  refine z_aload_n hX dX1_useJar_12 0 rfl ?_
  refine zg_X3_side hX hf (lt12 hn hlt) hlt  fl_RX1_79 dX1_useJar_13 ?_
  refine z_if_ne (tgt := 32) hX dX1_useJar_16 (by decide) (fun h16 => ?_) (fun h16 => ?_)
  · skip
    refine z_aload_n hX dX1_useJar_32 1 rfl ?_
    refine z_dup hX dX1_useJar_33 rfl ?_
    refine zg_X1_jarsOfSecond hX hf  fl_RX1_34 dX1_useJar_34 ?_
    refine z_iconst (v := 1) hX dX1_useJar_37 (by decide) ?_
    refine z_isub hX dX1_useJar_38 ?_
    refine zp_X1_jarsOfSecond hX hf  fl_RX1_34 dX1_useJar_39 ?_
    refine z_world (κ' := zF κ f (useB gb i) cb) (fun _ h => by rw [show useB gb i = upd gb 4 (gb 4 - 1) by unfold useB jq; rw [if_neg h16]]; exact h) ?_
    refine z_aload_n hX dX1_useJar_42 0 rfl ?_
    refine z_bipush (v := 6) hX dX1_useJar_43 (by decide) ?_
    refine z_callV0 hX (ok_X3_gainMorale l hf (lt12 hn hlt) hltU) cv_RX1_123 (zRc9 hf (lt12 hn hlt)) dX1_useJar_45 (by decide) rfl rfl (Nat.le_of_ble_eq_true rfl) ?_
    refine z_aload_n hX dX1_useJar_48 0 rfl ?_
    refine z_callV0 hX (ok_X3_standIfBold l hf (lt12 hn hlt) (by rw [bn_bs]; exact hltU)) cv_RX1_126 (zRc9 hf (lt12 hn hlt)) dX1_useJar_49 (by decide) rfl rfl (Nat.le_of_ble_eq_true rfl) ?_
    refine z_aload_n hX dX1_useJar_52 0 rfl ?_
    refine zg_X3_morale hX hf (lt12 hn hlt) hltR  fl_RX1_98 dX1_useJar_53 ?_
    exact z_iretI hX dX1_useJar_56 (by decide) rfl (fun _ h => h)
  · skip
    refine z_aload_n hX dX1_useJar_19 1 rfl ?_
    refine z_dup hX dX1_useJar_20 rfl ?_
    refine zg_X1_jarsOfFirst hX hf  fl_RX1_31 dX1_useJar_21 ?_
    refine z_iconst (v := 1) hX dX1_useJar_24 (by decide) ?_
    refine z_isub hX dX1_useJar_25 ?_
    refine zp_X1_jarsOfFirst hX hf  fl_RX1_31 dX1_useJar_26 ?_
    refine z_goto (tgt := 42) hX dX1_useJar_29 (by decide) ?_
    refine z_world (κ' := zF κ f (useB gb i) cb) (fun _ h => by rw [show useB gb i = upd gb 3 (gb 3 - 1) by unfold useB jq; rw [if_pos h16]]; exact h) ?_
    refine z_aload_n hX dX1_useJar_42 0 rfl ?_
    refine z_bipush (v := 6) hX dX1_useJar_43 (by decide) ?_
    refine z_callV0 hX (ok_X3_gainMorale l hf (lt12 hn hlt) hltU) cv_RX1_123 (zRc9 hf (lt12 hn hlt)) dX1_useJar_45 (by decide) rfl rfl (Nat.le_of_ble_eq_true rfl) ?_
    refine z_aload_n hX dX1_useJar_48 0 rfl ?_
    refine z_callV0 hX (ok_X3_standIfBold l hf (lt12 hn hlt) (by rw [bn_bs]; exact hltU)) cv_RX1_126 (zRc9 hf (lt12 hn hlt)) dX1_useJar_49 (by decide) rfl rfl (Nat.le_of_ble_eq_true rfl) ?_
    refine z_aload_n hX dX1_useJar_52 0 rfl ?_
    refine zg_X3_morale hX hf (lt12 hn hlt) hltR  fl_RX1_98 dX1_useJar_53 ?_
    exact z_iretI hX dX1_useJar_56 (by decide) rfl (fun _ h => h)
set_option maxHeartbeats 4000000 in
set_option maxRecDepth 100000 in
theorem ok_X3_letter (l : Launch) {g : zG} {κ : zKp} {μ : zMu} {ω : zOm} {f i : Nat} {gb cb : Nat → Int32} (hf : f < 11) (hi : i < 12) (hlt : i < bn gb) (hL : lineW gb i) : zM l g yX3_letter cX3_letter 1 (some .char) 1 0 [.ref (gA g 9 f i)] (zF κ f gb cb) μ ω (zF κ f gb cb) μ ω (some (.int (if bf gb i 0 = 0 then bf gb i 3 else bf gb i 3 - 32))) := by
  refine zM_of (by decide) (Nat.le_of_ble_eq_true rfl) (fun p e R s m args below meth c hX => ?_)
  show zZ p l e R s m args below meth c g 1 _ _ _ _ 0 0 [(0, .ref (gA g 9 f i))] []
  refine z_aload_n hX dX3_letter_0 0 rfl ?_
  refine zg_X3_side hX hf hi hlt  fl_RX3_9 dX3_letter_1 ?_
  refine z_if_ne (tgt := 14) hX dX3_letter_4 (by decide) (fun h4 => ?_) (fun h4 => ?_)
  · skip
    refine z_aload_n hX dX3_letter_14 0 rfl ?_
    refine zg_X3_kind hX hf hi hlt  fl_RX3_21 dX3_letter_15 ?_
    refine z_bipush (v := -32) hX dX3_letter_18 (by decide) ?_
    refine z_iadd hX dX3_letter_20 ?_
    refine z_i2c hX dX3_letter_21 ?_
    refine z_isv (let_k hL.2.2.2.1) ?_
    exact z_iret hX dX3_letter_22 (by decide) (let_n hL.2.2.2.1) (by rw [if_neg h4]) (fun _ h => h)
  · skip
    refine z_aload_n hX dX3_letter_7 0 rfl ?_
    refine zg_X3_kind hX hf hi hlt  fl_RX3_21 dX3_letter_8 ?_
    refine z_goto (tgt := 22) hX dX3_letter_11 (by decide) ?_
    exact z_iret hX dX3_letter_22 (by decide) (char_k hL.2.2.2.1) (by rw [if_pos h4]) (fun _ h => h)
/-- after the history has kept field 0 -/
def zKe (κ : zKp) (k0 d : Nat) : zKp := zCp (zHi κ (nI ((k0 + 1) % 8)) (nI (mor d))) (3 + (k0 + 1) % 8) 0
theorem zKe_0 {κ : zKp} {k0 d t : Nat} (h : ¬ t = 4) : zKe κ k0 d t 0 = κ t 0 := (zCp_o (by omega)).trans (zHi_6 h)
/-- the field as a form of the world -/
theorem zF_at {κ K : zKp} {f : Nat} {gb cb : Nat → Int32} (h6 : K 6 f = gb) (h8 : K 8 f = cb) : zF K f gb cb = K := by
  rw [← h6, ← h8]; exact zF_self K f
theorem zF_zF {κ : zKp} {f : Nat} {gb cb gb' cb' : Nat → Int32} : zF (zF κ f gb cb) f gb' cb' = zF κ f gb' cb' := by
  funext t f'
  unfold zF
  by_cases h6 : t = 6 ∧ f' = f
  · rw [if_pos h6, if_pos h6]
  · by_cases h8 : t = 8 ∧ f' = f
    · rw [if_neg h6, if_neg h6, if_pos h8, if_pos h8, if_neg h6]
    · simp only [h6, h8, if_false]
set_option maxHeartbeats 4000000 in
set_option maxRecDepth 100000 in
theorem ok_X4_turn (l : Launch) {g : zG} {κ : zKp} {μ : zMu} {ω : zOm} {k0 d : Nat} (hk : k0 < 8) (hw : κ 4 0 0 = nI k0) (hd : κ 4 0 1 = nI d) (hd8 : d ≤ 8) (hch : ∀ i, i < 12 → chW (zL κ 0 i 3) ∧ chW (zL κ 0 i 6)) {gb cb : Nat → Int32} (h6 : κ 6 0 = gb) (h8 : κ 8 0 = cb) (hI : batI gb) (hc : cb = cellsOf gb) : zM l g yX4_turn cX4_turn 1 (some .int) 7 0 [.ref (gA g 0 0 0)] κ μ ω (zF (zKe κ k0 d) 0 (passB gb) (cellsOf (passB gb))) μ ω (some (.int (passB gb 2 - gb 2))) := by
  refine zM_of (by decide) (Nat.le_of_ble_eq_true rfl) (fun p e R s m args below meth c hX => ?_)
  show zZ p l e R s m args below meth c g 1 _ _ _ _ 0 0 [(0, .ref (gA g 0 0 0))] []
  refine z_aload_n hX dX4_turn_0 0 rfl ?_
  refine zg_X4_history hX   fl_RX4_25 dX4_turn_1 ?_
  refine z_aload_n hX dX4_turn_4 0 rfl ?_
  refine zg_X4_field hX   fl_RX4_10 dX4_turn_5 ?_
  refine z_callV0 hX (ok_X2_keep l (f2 := 0) (by decide) hk hw hd hd8 hch) cv_RX4_75 zRc4 dX4_turn_8 (by decide) rfl rfl (Nat.le_of_ble_eq_true rfl) ?_
  refine z_world (κ' := zF (zKe κ k0 d) 0 gb cb) (fun _ h => by rw [zF_at (κ := κ) ((zKe_0 (by decide)).trans h6) ((zKe_0 (by decide)).trans h8)]; exact h) ?_
  refine z_aload_n hX dX4_turn_11 0 rfl ?_
  refine zg_X4_field hX   fl_RX4_10 dX4_turn_12 ?_
  refine z_callV1 hX (ok_X1_passTurn l z0lt hI hc) cv_RX4_110 (zRc6 z0lt) dX4_turn_15 (by decide) rfl rfl (Nat.le_of_ble_eq_true rfl) ?_
  exact z_iretI hX dX4_turn_18 (by decide) rfl (fun _ h => h)
set_option maxHeartbeats 4000000 in
set_option maxRecDepth 100000 in
theorem ok_X4_rally (l : Launch) {g : zG} {κ : zKp} {μ : zMu} {ω : zOm} {k0 d : Nat} (hk : k0 < 8) (hw : κ 4 0 0 = nI k0) (hd : κ 4 0 1 = nI d) (hd8 : d ≤ 8) (hch : ∀ i, i < 12 → chW (zL κ 0 i 3) ∧ chW (zL κ 0 i 6)) {gb cb : Nat → Int32} (h6 : κ 6 0 = gb) (h8 : κ 8 0 = cb) {i : Nat} (hn : bnI gb) (hlt : i < bn gb) (h1 : bf gb i 7 = 1) (h2 : ¬ gb (jq gb i) ≤ 0) : zM l g yX4_rally cX4_rally 3 (some .int) 7 0 [.ref (gA g 0 0 0), .int (nI i)] κ μ ω (zF (zKe κ k0 d) 0 (ralB gb i) cb) μ ω (some (.int (bf (ralB gb i) i 5))) := by
  refine zM_of (by decide) (Nat.le_of_ble_eq_true rfl) (fun p e R s m args below meth c hX => ?_)
  show zZ p l e R s m args below meth c g 3 _ _ _ _ 0 0 [(0, .ref (gA g 0 0 0)), (1, .int (nI i))] []
  refine z_world (κ' := zF κ 0 gb cb) (fun _ h => by rw [zF_at (κ := κ) h6 h8]; exact h) ?_
  refine z_aload_n hX dX4_rally_0 0 rfl ?_
  refine zg_X4_field hX   fl_RX4_10 dX4_rally_1 ?_
  refine z_iload_n hX dX4_rally_4 1 rfl ?_
  refine z_callV1 hX (fr_0 l z0lt hn hlt h1 h2) cv_RX4_99 (zRc6 z0lt) dX4_rally_5 (by decide) rfl rfl (Nat.le_of_ble_eq_true rfl) ?_
  refine z_istore_n (lv' := [(2, _), (0, _), (1, _)]) hX dX4_rally_8 (by decide) rfl ?_
  refine z_iload_n hX dX4_rally_9 0 rfl ?_
  refine z_iconst (v := 2) hX dX4_rally_10 (by decide) ?_
  refine z_icmp_ne (tgt := 24) hX dX4_rally_11 (by decide) (fun h11 => ?_) (fun h11 => absurd h11 (by decide))
  refine z_iload_n hX dX4_rally_24 0 rfl ?_
  refine z_iconst (v := 3) hX dX4_rally_25 (by decide) ?_
  refine z_icmp_ne (tgt := 39) hX dX4_rally_26 (by decide) (fun h26 => ?_) (fun h26 => absurd h26 (by decide))
  refine z_iload_n hX dX4_rally_39 0 rfl ?_
  refine z_iconst (v := 4) hX dX4_rally_40 (by decide) ?_
  refine z_icmp_ne (tgt := 54) hX dX4_rally_41 (by decide) (fun h41 => ?_) (fun h41 => absurd h41 (by decide))
  refine z_world (κ' := κ) (fun _ h => by rw [zF_at (κ := κ) h6 h8] at h; exact h) ?_
  refine z_aload_n hX dX4_rally_54 1 rfl ?_
  refine zg_X4_history hX   fl_RX4_25 dX4_rally_55 ?_
  refine z_aload_n hX dX4_rally_58 1 rfl ?_
  refine zg_X4_field hX   fl_RX4_10 dX4_rally_59 ?_
  refine z_callV0 hX (ok_X2_keep l (f2 := 0) (by decide) hk hw hd hd8 hch) cv_RX4_75 zRc4 dX4_rally_62 (by decide) rfl rfl (Nat.le_of_ble_eq_true rfl) ?_
  refine z_world (κ' := zF (zKe κ k0 d) 0 gb cb) (fun _ h => by rw [zF_at (κ := κ) ((zKe_0 (by decide)).trans h6) ((zKe_0 (by decide)).trans h8)]; exact h) ?_
  refine z_aload_n hX dX4_rally_65 1 rfl ?_
  refine zg_X4_field hX   fl_RX4_10 dX4_rally_66 ?_
  refine z_iload_n hX dX4_rally_69 2 rfl ?_
  refine z_callV1 hX (ok_X1_useJar l z0lt hn hlt) cv_RX4_107 (zRc6 z0lt) dX4_rally_70 (by decide) rfl rfl (Nat.le_of_ble_eq_true rfl) ?_
  exact z_iretI hX dX4_rally_73 (by decide) rfl (fun _ h => h)
set_option maxHeartbeats 4000000 in
set_option maxRecDepth 100000 in
theorem no1_X4_rally (l : Launch) (hl0 : l.stackTraces = false) {g : zG} {κ : zKp} {μ : zMu} {ω : zOm} {gb cb : Nat → Int32} {x : Int32} (hx : x < 0 ∨ gb 0 ≤ x)  : zMx l g yX4_rally cX4_rally 3 (some .int) 7 1 [.ref (gA g 0 0 0), .int x] (zF κ 0 gb cb) μ ω (zF κ 0 gb cb) μ ω (.error xIOE) := by
  refine zMx_of (by decide) (Nat.le_of_ble_eq_true rfl) (fun p e R s m args below meth c hX hT => ?_)
  show zZ p l e R s m args below meth c g 3 _ _ _ _ 0 0 [(0, .ref (gA g 0 0 0)), (1, .int x)] []
  refine z_aload_n hX dX4_rally_0 0 rfl ?_
  refine zg_X4_field hX   fl_RX4_10 dX4_rally_1 ?_
  refine z_iload_n hX dX4_rally_4 1 rfl ?_
  refine z_callV1 hX (fr_2 l z0lt hx) cv_RX4_99 (zRc6 z0lt) dX4_rally_5 (by decide) rfl rfl (Nat.le_of_ble_eq_true rfl) ?_
  refine z_istore_n (lv' := [(2, _), (0, _), (1, _)]) hX dX4_rally_8 (by decide) rfl ?_
  refine z_iload_n hX dX4_rally_9 0 rfl ?_
  refine z_iconst (v := 2) hX dX4_rally_10 (by decide) ?_
  refine z_icmp_ne (tgt := 24) hX dX4_rally_11 (by decide) (fun h11 => absurd h11 (fun q => q rfl)) (fun h11 => ?_)
  exact z_throw hX hT hl0 (i := 5) ft_IOE zN2_fit cl_IOE in_IOE rfl (zhat h1_IOE h2_IOE hX) go_IOE dX4_rally_14 dX4_rally_17 dX4_rally_18 dX4_rally_20 dX4_rally_23 (by decide) (Nat.le_of_ble_eq_true rfl) rfl (fun _ h => h)
set_option maxHeartbeats 4000000 in
set_option maxRecDepth 100000 in
theorem no2_X4_rally (l : Launch) (hl0 : l.stackTraces = false) {g : zG} {κ : zKp} {μ : zMu} {ω : zOm} {gb cb : Nat → Int32} {i : Nat} (hn : bnI gb) (hlt : i < bn gb) (h1 : ¬ bf gb i 7 = 1) : zMx l g yX4_rally cX4_rally 3 (some .int) 7 1 [.ref (gA g 0 0 0), .int (nI i)] (zF κ 0 gb cb) μ ω (zF κ 0 gb cb) μ ω (.error xISE) := by
  refine zMx_of (by decide) (Nat.le_of_ble_eq_true rfl) (fun p e R s m args below meth c hX hT => ?_)
  show zZ p l e R s m args below meth c g 3 _ _ _ _ 0 0 [(0, .ref (gA g 0 0 0)), (1, .int (nI i))] []
  refine z_aload_n hX dX4_rally_0 0 rfl ?_
  refine zg_X4_field hX   fl_RX4_10 dX4_rally_1 ?_
  refine z_iload_n hX dX4_rally_4 1 rfl ?_
  refine z_callV1 hX (fr_3 l z0lt hn hlt h1) cv_RX4_99 (zRc6 z0lt) dX4_rally_5 (by decide) rfl rfl (Nat.le_of_ble_eq_true rfl) ?_
  refine z_istore_n (lv' := [(2, _), (0, _), (1, _)]) hX dX4_rally_8 (by decide) rfl ?_
  refine z_iload_n hX dX4_rally_9 0 rfl ?_
  refine z_iconst (v := 2) hX dX4_rally_10 (by decide) ?_
  refine z_icmp_ne (tgt := 24) hX dX4_rally_11 (by decide) (fun h11 => ?_) (fun h11 => absurd h11 (by decide))
  refine z_iload_n hX dX4_rally_24 0 rfl ?_
  refine z_iconst (v := 3) hX dX4_rally_25 (by decide) ?_
  refine z_icmp_ne (tgt := 39) hX dX4_rally_26 (by decide) (fun h26 => absurd h26 (fun q => q rfl)) (fun h26 => ?_)
  exact z_throw hX hT hl0 (i := 8) ft_ISE zN2_fit cl_ISE in_ISE rfl (zhat h1_ISE h2_ISE hX) go_ISE dX4_rally_29 dX4_rally_32 dX4_rally_33 dX4_rally_35 dX4_rally_38 (by decide) (Nat.le_of_ble_eq_true rfl) rfl (fun _ h => h)
set_option maxHeartbeats 4000000 in
set_option maxRecDepth 100000 in
theorem no3_X4_rally (l : Launch) (hl0 : l.stackTraces = false) {g : zG} {κ : zKp} {μ : zMu} {ω : zOm} {gb cb : Nat → Int32} {i : Nat} (hn : bnI gb) (hlt : i < bn gb) (h1 : bf gb i 7 = 1) (h2 : gb (jq gb i) ≤ 0) : zMx l g yX4_rally cX4_rally 3 (some .int) 7 1 [.ref (gA g 0 0 0), .int (nI i)] (zF κ 0 gb cb) μ ω (zF κ 0 gb cb) μ ω (.error xUOE) := by
  refine zMx_of (by decide) (Nat.le_of_ble_eq_true rfl) (fun p e R s m args below meth c hX hT => ?_)
  show zZ p l e R s m args below meth c g 3 _ _ _ _ 0 0 [(0, .ref (gA g 0 0 0)), (1, .int (nI i))] []
  refine z_aload_n hX dX4_rally_0 0 rfl ?_
  refine zg_X4_field hX   fl_RX4_10 dX4_rally_1 ?_
  refine z_iload_n hX dX4_rally_4 1 rfl ?_
  refine z_callV1 hX (fr_4 l z0lt hn hlt h1 h2) cv_RX4_99 (zRc6 z0lt) dX4_rally_5 (by decide) rfl rfl (Nat.le_of_ble_eq_true rfl) ?_
  refine z_istore_n (lv' := [(2, _), (0, _), (1, _)]) hX dX4_rally_8 (by decide) rfl ?_
  refine z_iload_n hX dX4_rally_9 0 rfl ?_
  refine z_iconst (v := 2) hX dX4_rally_10 (by decide) ?_
  refine z_icmp_ne (tgt := 24) hX dX4_rally_11 (by decide) (fun h11 => ?_) (fun h11 => absurd h11 (by decide))
  refine z_iload_n hX dX4_rally_24 0 rfl ?_
  refine z_iconst (v := 3) hX dX4_rally_25 (by decide) ?_
  refine z_icmp_ne (tgt := 39) hX dX4_rally_26 (by decide) (fun h26 => ?_) (fun h26 => absurd h26 (by decide))
  refine z_iload_n hX dX4_rally_39 0 rfl ?_
  refine z_iconst (v := 4) hX dX4_rally_40 (by decide) ?_
  refine z_icmp_ne (tgt := 54) hX dX4_rally_41 (by decide) (fun h41 => absurd h41 (fun q => q rfl)) (fun h41 => ?_)
  exact z_throw hX hT hl0 (i := 9) ft_UOE zN2_fit cl_UOE in_UOE rfl (zhat h1_UOE h2_UOE hX) go_UOE dX4_rally_44 dX4_rally_47 dX4_rally_48 dX4_rally_50 dX4_rally_53 (by decide) (Nat.le_of_ble_eq_true rfl) rfl (fun _ h => h)
end ZF5
