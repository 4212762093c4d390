section ZLN
def attC (g : zB) (i : Nat) (x : Int32) : Int32 := if bf g i 3 = 112 then bf g i 4 / 4 + (if x = 0 then 0 else 6) else if bf g i 3 = 110 then bf g i 4 / 5 + 2 else if bf g i 3 = 99 then bf g i 4 / 3 else bf g i 4 / 6 + 1
set_option maxHeartbeats 4000000 in
set_option maxRecDepth 100000 in
theorem ok_X3_stands (l : Launch) {g : zG} {κ : zKp} {μ : zMu} {ω : zOm} {f i : Nat} {gb cb : Nat → Int32} (hf : f < 11) (hi : i < 12) (hlt : i < bn gb) : zM l g yX3_stands cX3_stands 1 (some .boolean) 1 0 [.ref (gA g 9 f i)] (zF κ f gb cb) μ ω (zF κ f gb cb) μ ω (some (.int (if bf gb i 7 = 0 then 1 else 0))) := by
  refine zM_of (by decide) (Nat.le_of_ble_eq_true rfl) (fun p e R s m args below meth c hX => ?_)
  show zZ p l e R s m args below meth c g 1 _ _ _ _ 0 0 [(0, .ref (gA g 9 f i))] []
  refine z_aload_n hX dX3_stands_0 0 rfl ?_
  refine zg_X3_condition hX hf hi (by simpa only [bn_bs] using hlt)  fl_RX3_34 dX3_stands_1 ?_
  refine z_if_ne (tgt := 11) hX dX3_stands_4 (by decide) (fun h4 => ?_) (fun h4 => ?_)
  · skip
    refine z_iconst (v := 0) hX dX3_stands_11 (by decide) ?_
    exact z_iret hX dX3_stands_12 (by decide) rfl (by simp [h4]) (fun _ h => h)
  · skip
    refine z_iconst (v := 1) hX dX3_stands_7 (by decide) ?_
    refine z_goto (tgt := 12) hX dX3_stands_8 (by decide) ?_
    exact z_iret hX dX3_stands_12 (by decide) rfl (by simp [h4]) (fun _ h => h)
set_option maxHeartbeats 4000000 in
set_option maxRecDepth 100000 in
theorem ok_X3_routed (l : Launch) {g : zG} {κ : zKp} {μ : zMu} {ω : zOm} {f i : Nat} {gb cb : Nat → Int32} (hf : f < 11) (hi : i < 12) (hlt : i < bn gb) : zM l g yX3_routed cX3_routed 1 (some .boolean) 1 0 [.ref (gA g 9 f i)] (zF κ f gb cb) μ ω (zF κ f gb cb) μ ω (some (.int (if bf gb i 7 = 1 then 1 else 0))) := by
  refine zM_of (by decide) (Nat.le_of_ble_eq_true rfl) (fun p e R s m args below meth c hX => ?_)
  show zZ p l e R s m args below meth c g 1 _ _ _ _ 0 0 [(0, .ref (gA g 9 f i))] []
  refine z_aload_n hX dX3_routed_0 0 rfl ?_
  refine zg_X3_condition hX hf hi (by simpa only [bn_bs] using hlt)  fl_RX3_34 dX3_routed_1 ?_
  refine z_iconst (v := 1) hX dX3_routed_4 (by decide) ?_
  refine z_icmp_ne (tgt := 12) hX dX3_routed_5 (by decide) (fun h5 => ?_) (fun h5 => ?_)
  · skip
    refine z_iconst (v := 0) hX dX3_routed_12 (by decide) ?_
    exact z_iret hX dX3_routed_13 (by decide) rfl (by simp [h5]) (fun _ h => h)
  · skip
    refine z_iconst (v := 1) hX dX3_routed_8 (by decide) ?_
    refine z_goto (tgt := 13) hX dX3_routed_9 (by decide) ?_
    exact z_iret hX dX3_routed_13 (by decide) rfl (by simp [h5]) (fun _ h => h)
set_option maxHeartbeats 4000000 in
set_option maxRecDepth 100000 in
theorem ok_X3_hasFallen (l : Launch) {g : zG} {κ : zKp} {μ : zMu} {ω : zOm} {f i : Nat} {gb cb : Nat → Int32} (hf : f < 11) (hi : i < 12) (hlt : i < bn gb) : zM l g yX3_hasFallen cX3_hasFallen 1 (some .boolean) 1 0 [.ref (gA g 9 f i)] (zF κ f gb cb) μ ω (zF κ f gb cb) μ ω (some (.int (if bf gb i 7 = 2 then 1 else 0))) := by
  refine zM_of (by decide) (Nat.le_of_ble_eq_true rfl) (fun p e R s m args below meth c hX => ?_)
  show zZ p l e R s m args below meth c g 1 _ _ _ _ 0 0 [(0, .ref (gA g 9 f i))] []
  refine z_aload_n hX dX3_hasFallen_0 0 rfl ?_
  refine zg_X3_condition hX hf hi (by simpa only [bn_bs] using hlt)  fl_RX3_34 dX3_hasFallen_1 ?_
  refine z_iconst (v := 2) hX dX3_hasFallen_4 (by decide) ?_
  refine z_icmp_ne (tgt := 12) hX dX3_hasFallen_5 (by decide) (fun h5 => ?_) (fun h5 => ?_)
  · skip
    refine z_iconst (v := 0) hX dX3_hasFallen_12 (by decide) ?_
    exact z_iret hX dX3_hasFallen_13 (by decide) rfl (by simp [h5]) (fun _ h => h)
  · skip
    refine z_iconst (v := 1) hX dX3_hasFallen_8 (by decide) ?_
    refine z_goto (tgt := 13) hX dX3_hasFallen_9 (by decide) ?_
    exact z_iret hX dX3_hasFallen_13 (by decide) rfl (by simp [h5]) (fun _ h => h)
set_option maxHeartbeats 4000000 in
set_option maxRecDepth 100000 in
theorem ok_X3_forward (l : Launch) {g : zG} {κ : zKp} {μ : zMu} {ω : zOm} {f i : Nat} {gb cb : Nat → Int32} (hf : f < 11) (hi : i < 12) (hlt : i < bn gb) : zM l g yX3_forward cX3_forward 1 (some .int) 1 0 [.ref (gA g 9 f i)] (zF κ f gb cb) μ ω (zF κ f gb cb) μ ω (some (.int (wayB gb i))) := by
  refine zM_of (by decide) (Nat.le_of_ble_eq_true rfl) (fun p e R s m args below meth c hX => ?_)
  show zZ p l e R s m args below meth c g 1 _ _ _ _ 0 0 [(0, .ref (gA g 9 f i))] []
  refine z_aload_n hX dX3_forward_0 0 rfl ?_
  refine zg_X3_side hX hf hi (by simpa only [bn_bs] using hlt)  fl_RX3_9 dX3_forward_1 ?_
  refine z_if_ne (tgt := 11) hX dX3_forward_4 (by decide) (fun h4 => ?_) (fun h4 => ?_)
  · skip
    refine z_iconst (v := -1) hX dX3_forward_11 (by decide) ?_
    exact z_iretI hX dX3_forward_12 (by decide) (by simp [wayB, h4]) (fun _ h => h)
  · skip
    refine z_iconst (v := 1) hX dX3_forward_7 (by decide) ?_
    refine z_goto (tgt := 12) hX dX3_forward_8 (by decide) ?_
    exact z_iretI hX dX3_forward_12 (by decide) (by simp [wayB, h4]) (fun _ h => h)
set_option maxHeartbeats 4000000 in
set_option maxRecDepth 100000 in
theorem ok_X3_attack (l : Launch) {g : zG} {κ : zKp} {μ : zMu} {ω : zOm} {f i : Nat} {gb cb : Nat → Int32} (hf : f < 11) (hi : i < 12) (hlt : i < bn gb) {x : Int32} : zM l g yX3_attack cX3_attack 2 (some .int) 1 0 [.ref (gA g 9 f i), .int x] (zF κ f gb cb) μ ω (zF κ f gb cb) μ ω (some (.int (attC gb i x))) := by
  refine zM_of (by decide) (Nat.le_of_ble_eq_true rfl) (fun p e R s m args below meth c hX => ?_)
  show zZ p l e R s m args below meth c g 2 _ _ _ _ 0 0 [(0, .ref (gA g 9 f i)), (1, .int x)] []
  refine z_aload_n hX dX3_attack_0 0 rfl ?_
  refine zg_X3_kind hX hf hi (by simpa only [bn_bs] using hlt)  fl_RX3_21 dX3_attack_1 ?_
  refine z_bipush (v := 112) hX dX3_attack_4 (by decide) ?_
  refine z_icmp_ne (tgt := 27) hX dX3_attack_6 (by decide) (fun h6 => ?_) (fun h6 => ?_)
  · skip
    refine z_aload_n hX dX3_attack_27 0 rfl ?_
    refine zg_X3_kind hX hf hi (by simpa only [bn_bs] using hlt)  fl_RX3_21 dX3_attack_28 ?_
    refine z_bipush (v := 110) hX dX3_attack_31 (by decide) ?_
    refine z_icmp_ne (tgt := 45) hX dX3_attack_33 (by decide) (fun h33 => ?_) (fun h33 => ?_)
    · skip
      refine z_aload_n hX dX3_attack_45 0 rfl ?_
      refine zg_X3_kind hX hf hi (by simpa only [bn_bs] using hlt)  fl_RX3_21 dX3_attack_46 ?_
      refine z_bipush (v := 99) hX dX3_attack_49 (by decide) ?_
      refine z_icmp_ne (tgt := 61) hX dX3_attack_51 (by decide) (fun h51 => ?_) (fun h51 => ?_)
      · skip
        refine z_aload_n hX dX3_attack_61 0 rfl ?_
        refine zg_X3_strength hX hf hi (by simpa only [bn_bs] using hlt)  fl_RX3_28 dX3_attack_62 ?_
        refine z_bipush (v := 6) hX dX3_attack_65 (by decide) ?_
        refine z_idiv hX dX3_attack_67 (by decide) ?_
        refine z_iconst (v := 1) hX dX3_attack_68 (by decide) ?_
        refine z_iadd hX dX3_attack_69 ?_
        exact z_iretI hX dX3_attack_70 (by decide) (by simp [attC, h6, h33, h51]) (fun _ h => h)
      · skip
        refine z_aload_n hX dX3_attack_54 0 rfl ?_
        refine zg_X3_strength hX hf hi (by simpa only [bn_bs] using hlt)  fl_RX3_28 dX3_attack_55 ?_
        refine z_iconst (v := 3) hX dX3_attack_58 (by decide) ?_
        refine z_idiv hX dX3_attack_59 (by decide) ?_
        exact z_iretI hX dX3_attack_60 (by decide) (by simp [attC, h6, h33, h51]) (fun _ h => h)
    · skip
      refine z_aload_n hX dX3_attack_36 0 rfl ?_
      refine zg_X3_strength hX hf hi (by simpa only [bn_bs] using hlt)  fl_RX3_28 dX3_attack_37 ?_
      refine z_iconst (v := 5) hX dX3_attack_40 (by decide) ?_
      refine z_idiv hX dX3_attack_41 (by decide) ?_
      refine z_iconst (v := 2) hX dX3_attack_42 (by decide) ?_
      refine z_iadd hX dX3_attack_43 ?_
      exact z_iretI hX dX3_attack_44 (by decide) (by simp [attC, h6, h33]) (fun _ h => h)
  · skip
    refine z_aload_n hX dX3_attack_9 0 rfl ?_
    refine zg_X3_strength hX hf hi (by simpa only [bn_bs] using hlt)  fl_RX3_28 dX3_attack_10 ?_
    refine z_iconst (v := 4) hX dX3_attack_13 (by decide) ?_
    refine z_idiv hX dX3_attack_14 (by decide) ?_
    refine z_iload_n hX dX3_attack_15 1 rfl ?_
    refine z_if_eq (tgt := 24) hX dX3_attack_16 (by decide) (fun h16 => ?_) (fun h16 => ?_)
    · skip
      refine z_iconst (v := 0) hX dX3_attack_24 (by decide) ?_
      refine z_iadd hX dX3_attack_25 ?_
      exact z_iretI hX dX3_attack_26 (by decide) (by simp [attC, h6, h16]) (fun _ h => h)
    · skip
      refine z_bipush (v := 6) hX dX3_attack_19 (by decide) ?_
      refine z_goto (tgt := 25) hX dX3_attack_21 (by decide) ?_
      refine z_iadd hX dX3_attack_25 ?_
      exact z_iretI hX dX3_attack_26 (by decide) (by simp [attC, h6, h16]) (fun _ h => h)
set_option maxHeartbeats 4000000 in
set_option maxRecDepth 100000 in
theorem ok_X3_counter (l : Launch) {g : zG} {κ : zKp} {μ : zMu} {ω : zOm} {f i : Nat} {gb cb : Nat → Int32} (hf : f < 11) (hi : i < 12) (hlt : i < bn gb) : zM l g yX3_counter cX3_counter 1 (some .int) 1 0 [.ref (gA g 9 f i)] (zF κ f gb cb) μ ω (zF κ f gb cb) μ ω (some (.int (cntB gb i))) := by
  refine zM_of (by decide) (Nat.le_of_ble_eq_true rfl) (fun p e R s m args below meth c hX => ?_)
  show zZ p l e R s m args below meth c g 1 _ _ _ _ 0 0 [(0, .ref (gA g 9 f i))] []
  refine z_aload_n hX dX3_counter_0 0 rfl ?_
  refine zg_X3_kind hX hf hi (by simpa only [bn_bs] using hlt)  fl_RX3_21 dX3_counter_1 ?_
  refine z_bipush (v := 112) hX dX3_counter_4 (by decide) ?_
  refine z_icmp_ne (tgt := 17) hX dX3_counter_6 (by decide) (fun h6 => ?_) (fun h6 => ?_)
  · skip
    refine z_aload_n hX dX3_counter_17 0 rfl ?_
    refine zg_X3_kind hX hf hi (by simpa only [bn_bs] using hlt)  fl_RX3_21 dX3_counter_18 ?_
    refine z_bipush (v := 110) hX dX3_counter_21 (by decide) ?_
    refine z_icmp_ne (tgt := 33) hX dX3_counter_23 (by decide) (fun h23 => ?_) (fun h23 => ?_)
    · skip
      refine z_aload_n hX dX3_counter_33 0 rfl ?_
      refine zg_X3_kind hX hf hi (by simpa only [bn_bs] using hlt)  fl_RX3_21 dX3_counter_34 ?_
      refine z_bipush (v := 99) hX dX3_counter_37 (by decide) ?_
      refine z_icmp_ne (tgt := 50) hX dX3_counter_39 (by decide) (fun h39 => ?_) (fun h39 => ?_)
      · skip
        refine z_aload_n hX dX3_counter_50 0 rfl ?_
        refine zg_X3_strength hX hf hi (by simpa only [bn_bs] using hlt)  fl_RX3_28 dX3_counter_51 ?_
        refine z_bipush (v := 6) hX dX3_counter_54 (by decide) ?_
        refine z_idiv hX dX3_counter_56 (by decide) ?_
        exact z_iretI hX dX3_counter_57 (by decide) (by simp [cntB, h6, h23, h39]) (fun _ h => h)
      · skip
        refine z_aload_n hX dX3_counter_42 0 rfl ?_
        refine zg_X3_strength hX hf hi (by simpa only [bn_bs] using hlt)  fl_RX3_28 dX3_counter_43 ?_
        refine z_bipush (v := 10) hX dX3_counter_46 (by decide) ?_
        refine z_idiv hX dX3_counter_48 (by decide) ?_
        exact z_iretI hX dX3_counter_49 (by decide) (by simp [cntB, h6, h23, h39]) (fun _ h => h)
    · skip
      refine z_aload_n hX dX3_counter_26 0 rfl ?_
      refine zg_X3_strength hX hf hi (by simpa only [bn_bs] using hlt)  fl_RX3_28 dX3_counter_27 ?_
      refine z_iconst (v := 4) hX dX3_counter_30 (by decide) ?_
      refine z_idiv hX dX3_counter_31 (by decide) ?_
      exact z_iretI hX dX3_counter_32 (by decide) (by simp [cntB, h6, h23]) (fun _ h => h)
  · skip
    refine z_aload_n hX dX3_counter_9 0 rfl ?_
    refine zg_X3_strength hX hf hi (by simpa only [bn_bs] using hlt)  fl_RX3_28 dX3_counter_10 ?_
    refine z_bipush (v := 8) hX dX3_counter_13 (by decide) ?_
    refine z_idiv hX dX3_counter_15 (by decide) ?_
    exact z_iretI hX dX3_counter_16 (by decide) (by simp [cntB, h6]) (fun _ h => h)
set_option maxHeartbeats 4000000 in
set_option maxRecDepth 100000 in
theorem ok_X3_suffer (l : Launch) {g : zG} {κ : zKp} {μ : zMu} {ω : zOm} {f i : Nat} {gb cb : Nat → Int32} (hf : f < 11) (hi : i < 12) (hlt : i < bn gb) {x : Int32} : zM l g yX3_suffer cX3_suffer 2 none 2 0 [.ref (gA g 9 f i), .int x] (zF κ f gb cb) μ ω (zF κ f (losB gb i x) cb) μ ω none := by
  refine zM_of (by decide) (Nat.le_of_ble_eq_true rfl) (fun p e R s m args below meth c hX => ?_)
  show zZ p l e R s m args below meth c g 2 _ _ _ _ 0 0 [(0, .ref (gA g 9 f i)), (1, .int x)] []
  refine z_aload_n hX dX3_suffer_0 0 rfl ?_
  refine z_iconst (v := 0) hX dX3_suffer_1 (by decide) ?_
  refine z_aload_n hX dX3_suffer_2 0 rfl ?_
  refine zg_X3_strength hX hf hi (by simpa only [bn_bs] using hlt)  fl_RX3_28 dX3_suffer_3 ?_
  refine z_iload_n hX dX3_suffer_6 1 rfl ?_
  refine z_isub hX dX3_suffer_7 ?_
  refine z_max hX ml_RX3_43 dX3_suffer_8 (by decide) (Nat.le_of_ble_eq_true rfl) ?_
  refine zp_X3_strength hX hf hi (by simpa only [bn_bs] using hlt)  fl_RX3_28 dX3_suffer_11 ?_
  refine z_aload_n hX dX3_suffer_14 0 rfl ?_
  refine z_iconst (v := 0) hX dX3_suffer_15 (by decide) ?_
  refine z_aload_n hX dX3_suffer_16 0 rfl ?_
  refine zg_X3_morale hX hf hi (by simpa only [bn_bs] using hlt)  fl_RX3_31 dX3_suffer_17 ?_
  refine z_isv (bf_bsW (by decide)) ?_
  refine z_iload_n hX dX3_suffer_20 1 rfl ?_
  refine z_iconst (v := 3) hX dX3_suffer_21 (by decide) ?_
  refine z_idiv hX dX3_suffer_22 (by decide) ?_
  refine z_isub hX dX3_suffer_23 ?_
  refine z_max hX ml_RX3_43 dX3_suffer_24 (by decide) (Nat.le_of_ble_eq_true rfl) ?_
  refine zp_X3_morale hX hf hi (by simpa only [bn_bs] using hlt)  fl_RX3_31 dX3_suffer_27 ?_
  exact z_vret hX dX3_suffer_30 (by decide) (fun _ h => h)
set_option maxHeartbeats 4000000 in
set_option maxRecDepth 100000 in
theorem ok_X3_gainMorale (l : Launch) {g : zG} {κ : zKp} {μ : zMu} {ω : zOm} {f i : Nat} {gb cb : Nat → Int32} (hf : f < 11) (hi : i < 12) (hlt : i < bn gb) {x : Int32} : zM l g yX3_gainMorale cX3_gainMorale 2 none 2 0 [.ref (gA g 9 f i), .int x] (zF κ f gb cb) μ ω (zF κ f (bs gb i 5 (mn (bf gb i 5 + x))) cb) μ ω none := by
  refine zM_of (by decide) (Nat.le_of_ble_eq_true rfl) (fun p e R s m args below meth c hX => ?_)
  show zZ p l e R s m args below meth c g 2 _ _ _ _ 0 0 [(0, .ref (gA g 9 f i)), (1, .int x)] []
  refine z_aload_n hX dX3_gainMorale_0 0 rfl ?_
  refine z_bipush (v := 20) hX dX3_gainMorale_1 (by decide) ?_
  refine z_aload_n hX dX3_gainMorale_3 0 rfl ?_
  refine zg_X3_morale hX hf hi (by simpa only [bn_bs] using hlt)  fl_RX3_31 dX3_gainMorale_4 ?_
  refine z_iload_n hX dX3_gainMorale_7 1 rfl ?_
  refine z_iadd hX dX3_gainMorale_8 ?_
  refine z_min hX ml_RX3_49 dX3_gainMorale_9 (by decide) (Nat.le_of_ble_eq_true rfl) ?_
  refine zp_X3_morale hX hf hi (by simpa only [bn_bs] using hlt)  fl_RX3_31 dX3_gainMorale_12 ?_
  exact z_vret hX dX3_gainMorale_15 (by decide) (fun _ h => h)
set_option maxHeartbeats 4000000 in
set_option maxRecDepth 100000 in
theorem ok_X3_standIfBold (l : Launch) {g : zG} {κ : zKp} {μ : zMu} {ω : zOm} {f i : Nat} {gb cb : Nat → Int32} (hf : f < 11) (hi : i < 12) (hlt : i < bn gb) : zM l g yX3_standIfBold cX3_standIfBold 1 none 1 0 [.ref (gA g 9 f i)] (zF κ f gb cb) μ ω (zF κ f (resB gb i) cb) μ ω none := by
  refine zM_of (by decide) (Nat.le_of_ble_eq_true rfl) (fun p e R s m args below meth c hX => ?_)
  show zZ p l e R s m args below meth c g 1 _ _ _ _ 0 0 [(0, .ref (gA g 9 f i))] []
  refine z_aload_n hX dX3_standIfBold_0 0 rfl ?_
  refine zg_X3_morale hX hf hi (by simpa only [bn_bs] using hlt)  fl_RX3_31 dX3_standIfBold_1 ?_
  refine z_bipush (v := 8) hX dX3_standIfBold_4 (by decide) ?_
  refine z_icmp_lt (tgt := 20) hX dX3_standIfBold_6 (by decide) (fun h6 => ?_) (fun h6 => ?_)
  · skip
    exact z_vret hX dX3_standIfBold_20 (by decide) (fun _ h => by unfold resB; rw [if_neg (Int32.not_le.mpr h6)]; exact h)
  · skip
    refine z_aload_n hX dX3_standIfBold_9 0 rfl ?_
    refine z_iconst (v := 0) hX dX3_standIfBold_10 (by decide) ?_
    refine zp_X3_condition hX hf hi (by simpa only [bn_bs] using hlt)  fl_RX3_34 dX3_standIfBold_11 ?_
    refine z_aload_n hX dX3_standIfBold_14 0 rfl ?_
    refine z_bipush (v := 104) hX dX3_standIfBold_15 (by decide) ?_
    refine zp_X3_order hX hf hi (by simpa only [bn_bs] using hlt) rfl rfl fl_RX3_25 dX3_standIfBold_17 ?_
    exact z_vret hX dX3_standIfBold_20 (by decide) (fun _ h => by unfold resB; rw [if_pos (Int32.not_lt.mp h6)]; exact h)
end ZLN
