section ZM1
theorem ix9 (i w : Nat) : (5 + 9 * nI i) + nI w = nI (5 + 9 * i + w) := by
  rw [show (9 : Int32) = nI 9 from rfl, show (5 : Int32) = nI 5 from rfl, pk_mul, nI_add, nI_add]
theorem bs_self {g : zB} {i w : Nat} : bs g i w (bf g i w) = g := by
  funext k
  unfold bs upd bf
  by_cases h : k = 5 + 9 * i + w
  · rw [if_pos h, h]
  · rw [if_neg h]
set_option maxHeartbeats 4000000 in
set_option maxRecDepth 100000 in
theorem ok_X5_in (l : Launch) {g : zG} {κ : zKp} {μ : zMu} {ω : zOm} {x y z : Int32} : zM l g yX5_in cX5_in 3 (some .boolean) 1 0 [.int x, .int y, .int z] κ μ ω κ μ ω (some (.int (if y ≤ x ∧ x ≤ z then 1 else 0))) := by
  refine zM_of (by decide) (Nat.le_of_ble_eq_true rfl) (fun p e R s m args below meth c hX => ?_)
  show zZ p l e R s m args below meth c g 3 _ _ _ _ 0 0 [(0, .int x), (1, .int y), (2, .int z)] []
  refine z_iload_n hX dX5_in_0 0 rfl ?_
  refine z_iload_n hX dX5_in_1 1 rfl ?_
  refine z_icmp_lt (tgt := 14) hX dX5_in_2 (by decide) (fun h2 => ?_) (fun h2 => ?_)
  · skip
    refine z_iconst (v := 0) hX dX5_in_14 (by decide) ?_
    exact z_iret hX dX5_in_15 (by decide) rfl (by rw [if_neg (fun q => absurd q.1 (Int32.not_le.mpr h2))]) (fun _ h => h)
  · skip
    refine z_iload_n hX dX5_in_5 0 rfl ?_
    refine z_iload_n hX dX5_in_6 2 rfl ?_
    refine z_icmp_gt (tgt := 14) hX dX5_in_7 (by decide) (fun h7 => ?_) (fun h7 => ?_)
    · skip
      refine z_iconst (v := 0) hX dX5_in_14 (by decide) ?_
      exact z_iret hX dX5_in_15 (by decide) rfl (by rw [if_neg (fun q => absurd q.2 (Int32.not_le.mpr h7))]) (fun _ h => h)
    · skip
      refine z_iconst (v := 1) hX dX5_in_10 (by decide) ?_
      refine z_goto (tgt := 15) hX dX5_in_11 (by decide) ?_
      exact z_iret hX dX5_in_15 (by decide) rfl (by rw [if_pos ⟨Int32.not_lt.mp h2, Int32.not_lt.mp h7⟩]) (fun _ h => h)
set_option maxHeartbeats 4000000 in
set_option maxRecDepth 100000 in
theorem ok_X5_isSide (l : Launch) {g : zG} {κ : zKp} {μ : zMu} {ω : zOm} {x : Int32} : zM l g yX5_isSide cX5_isSide 1 (some .boolean) 2 0 [.int x] κ μ ω κ μ ω (some (.int (if 0 ≤ x ∧ x ≤ 1 then 1 else 0))) := by
  refine zM_of (by decide) (Nat.le_of_ble_eq_true rfl) (fun p e R s m args below meth c hX => ?_)
  show zZ p l e R s m args below meth c g 1 _ _ _ _ 0 0 [(0, .int x)] []
  refine z_iload_n hX dX5_isSide_0 0 rfl ?_
  refine z_iconst (v := 0) hX dX5_isSide_1 (by decide) ?_
  refine z_iconst (v := 1) hX dX5_isSide_2 (by decide) ?_
  refine z_callS1 hX (ok_X5_in l) cs_RX5_54 dX5_isSide_3 (by decide) rfl rfl (Nat.le_of_ble_eq_true rfl) ?_
  exact z_iret hX dX5_isSide_6 (by decide) (by split <;> rfl) rfl (fun _ h => h)
set_option maxHeartbeats 4000000 in
set_option maxRecDepth 100000 in
theorem ok_X5_isLane (l : Launch) {g : zG} {κ : zKp} {μ : zMu} {ω : zOm} {x : Int32} : zM l g yX5_isLane cX5_isLane 1 (some .boolean) 2 0 [.int x] κ μ ω κ μ ω (some (.int (if 0 ≤ x ∧ x ≤ 2 then 1 else 0))) := by
  refine zM_of (by decide) (Nat.le_of_ble_eq_true rfl) (fun p e R s m args below meth c hX => ?_)
  show zZ p l e R s m args below meth c g 1 _ _ _ _ 0 0 [(0, .int x)] []
  refine z_iload_n hX dX5_isLane_0 0 rfl ?_
  refine z_iconst (v := 0) hX dX5_isLane_1 (by decide) ?_
  refine z_iconst (v := 2) hX dX5_isLane_2 (by decide) ?_
  refine z_callS1 hX (ok_X5_in l) cs_RX5_54 dX5_isLane_3 (by decide) rfl rfl (Nat.le_of_ble_eq_true rfl) ?_
  exact z_iret hX dX5_isLane_6 (by decide) (by split <;> rfl) rfl (fun _ h => h)
set_option maxHeartbeats 4000000 in
set_option maxRecDepth 100000 in
theorem ok_X5_isColumn (l : Launch) {g : zG} {κ : zKp} {μ : zMu} {ω : zOm} {x : Int32} : zM l g yX5_isColumn cX5_isColumn 1 (some .boolean) 2 0 [.int x] κ μ ω κ μ ω (some (.int (if 0 ≤ x ∧ x ≤ 9 then 1 else 0))) := by
  refine zM_of (by decide) (Nat.le_of_ble_eq_true rfl) (fun p e R s m args below meth c hX => ?_)
  show zZ p l e R s m args below meth c g 1 _ _ _ _ 0 0 [(0, .int x)] []
  refine z_iload_n hX dX5_isColumn_0 0 rfl ?_
  refine z_iconst (v := 0) hX dX5_isColumn_1 (by decide) ?_
  refine z_bipush (v := 9) hX dX5_isColumn_2 (by decide) ?_
  refine z_callS1 hX (ok_X5_in l) cs_RX5_54 dX5_isColumn_4 (by decide) rfl rfl (Nat.le_of_ble_eq_true rfl) ?_
  exact z_iret hX dX5_isColumn_7 (by decide) (by split <;> rfl) rfl (fun _ h => h)
set_option maxHeartbeats 4000000 in
set_option maxRecDepth 100000 in
theorem ok_X5_isLine (l : Launch) {g : zG} {κ : zKp} {μ : zMu} {ω : zOm} {a b : Nat → Int32} {x : Int32} : zM l g yX5_isLine cX5_isLine 2 (some .boolean) 2 0 [.ref (gA g 10 0 0), .int x] κ (zN μ a b) ω κ (zN μ a b) ω (some (.int (if 0 ≤ x ∧ x ≤ b 0 - 1 then 1 else 0))) := by
  refine zM_of (by decide) (Nat.le_of_ble_eq_true rfl) (fun p e R s m args below meth c hX => ?_)
  show zZ p l e R s m args below meth c g 2 _ _ _ _ 0 0 [(0, .ref (gA g 10 0 0)), (1, .int x)] []
  refine z_iload_n hX dX5_isLine_0 1 rfl ?_
  refine z_iconst (v := 0) hX dX5_isLine_1 (by decide) ?_
  refine z_aload_n hX dX5_isLine_2 0 rfl ?_
  refine zg_X5_s hX   fl_RX5_9 dX5_isLine_3 ?_
  refine z_iconst (v := 0) hX dX5_isLine_6 (by decide) ?_
  refine za_s hX  (show (0 : Int32) = nI 0 from rfl) (by decide) dX5_isLine_7 ?_
  refine z_iconst (v := 1) hX dX5_isLine_8 (by decide) ?_
  refine z_isub hX dX5_isLine_9 ?_
  refine z_callS1 hX (ok_X5_in l) cs_RX5_54 dX5_isLine_10 (by decide) rfl rfl (Nat.le_of_ble_eq_true rfl) ?_
  exact z_iret hX dX5_isLine_13 (by decide) (by split <;> rfl) rfl (fun _ h => h)
set_option maxHeartbeats 4000000 in
set_option maxRecDepth 100000 in
theorem ok_X5_isKind (l : Launch) {g : zG} {κ : zKp} {μ : zMu} {ω : zOm} {x : Int32} : zM l g yX5_isKind cX5_isKind 1 (some .boolean) 1 0 [.int x] κ μ ω κ μ ω (some (.int (if x = 112 ∨ x = 110 ∨ x = 99 ∨ x = 115 then 1 else 0))) := by
  refine zM_of (by decide) (Nat.le_of_ble_eq_true rfl) (fun p e R s m args below meth c hX => ?_)
  show zZ p l e R s m args below meth c g 1 _ _ _ _ 0 0 [(0, .int x)] []
  refine z_iload_n hX dX5_isKind_0 0 rfl ?_
  refine z_bipush (v := 112) hX dX5_isKind_1 (by decide) ?_
  refine z_icmp_eq (tgt := 24) hX dX5_isKind_3 (by decide) (fun h3 => ?_) (fun h3 => ?_)
  · skip
    refine z_iconst (v := 1) hX dX5_isKind_24 (by decide) ?_
    refine z_goto (tgt := 29) hX dX5_isKind_25 (by decide) ?_
    exact z_iret hX dX5_isKind_29 (by decide) rfl (by simp [h3]) (fun _ h => h)
  · skip
    refine z_iload_n hX dX5_isKind_6 0 rfl ?_
    refine z_bipush (v := 110) hX dX5_isKind_7 (by decide) ?_
    refine z_icmp_eq (tgt := 24) hX dX5_isKind_9 (by decide) (fun h9 => ?_) (fun h9 => ?_)
    · skip
      refine z_iconst (v := 1) hX dX5_isKind_24 (by decide) ?_
      refine z_goto (tgt := 29) hX dX5_isKind_25 (by decide) ?_
      exact z_iret hX dX5_isKind_29 (by decide) rfl (by simp [h3, h9]) (fun _ h => h)
    · skip
      refine z_iload_n hX dX5_isKind_12 0 rfl ?_
      refine z_bipush (v := 99) hX dX5_isKind_13 (by decide) ?_
      refine z_icmp_eq (tgt := 24) hX dX5_isKind_15 (by decide) (fun h15 => ?_) (fun h15 => ?_)
      · skip
        refine z_iconst (v := 1) hX dX5_isKind_24 (by decide) ?_
        refine z_goto (tgt := 29) hX dX5_isKind_25 (by decide) ?_
        exact z_iret hX dX5_isKind_29 (by decide) rfl (by simp [h3, h9, h15]) (fun _ h => h)
      · skip
        refine z_iload_n hX dX5_isKind_18 0 rfl ?_
        refine z_bipush (v := 115) hX dX5_isKind_19 (by decide) ?_
        refine z_icmp_ne (tgt := 28) hX dX5_isKind_21 (by decide) (fun h21 => ?_) (fun h21 => ?_)
        · skip
          refine z_iconst (v := 0) hX dX5_isKind_28 (by decide) ?_
          exact z_iret hX dX5_isKind_29 (by decide) rfl (by simp [h3, h9, h15, h21]) (fun _ h => h)
        · skip
          refine z_iconst (v := 1) hX dX5_isKind_24 (by decide) ?_
          refine z_goto (tgt := 29) hX dX5_isKind_25 (by decide) ?_
          exact z_iret hX dX5_isKind_29 (by decide) rfl (by simp [h3, h9, h15, h21]) (fun _ h => h)
set_option maxHeartbeats 4000000 in
set_option maxRecDepth 100000 in
theorem ok_X5_isOrder (l : Launch) {g : zG} {κ : zKp} {μ : zMu} {ω : zOm} {x : Int32} : zM l g yX5_isOrder cX5_isOrder 1 (some .boolean) 1 0 [.int x] κ μ ω κ μ ω (some (.int (if x = 104 ∨ x = 97 ∨ x = 99 then 1 else 0))) := by
  refine zM_of (by decide) (Nat.le_of_ble_eq_true rfl) (fun p e R s m args below meth c hX => ?_)
  show zZ p l e R s m args below meth c g 1 _ _ _ _ 0 0 [(0, .int x)] []
  refine z_iload_n hX dX5_isOrder_0 0 rfl ?_
  refine z_bipush (v := 104) hX dX5_isOrder_1 (by decide) ?_
  refine z_icmp_eq (tgt := 18) hX dX5_isOrder_3 (by decide) (fun h3 => ?_) (fun h3 => ?_)
  · skip
    refine z_iconst (v := 1) hX dX5_isOrder_18 (by decide) ?_
    refine z_goto (tgt := 23) hX dX5_isOrder_19 (by decide) ?_
    exact z_iret hX dX5_isOrder_23 (by decide) rfl (by simp [h3]) (fun _ h => h)
  · skip
    refine z_iload_n hX dX5_isOrder_6 0 rfl ?_
    refine z_bipush (v := 97) hX dX5_isOrder_7 (by decide) ?_
    refine z_icmp_eq (tgt := 18) hX dX5_isOrder_9 (by decide) (fun h9 => ?_) (fun h9 => ?_)
    · skip
      refine z_iconst (v := 1) hX dX5_isOrder_18 (by decide) ?_
      refine z_goto (tgt := 23) hX dX5_isOrder_19 (by decide) ?_
      exact z_iret hX dX5_isOrder_23 (by decide) rfl (by simp [h3, h9]) (fun _ h => h)
    · skip
      refine z_iload_n hX dX5_isOrder_12 0 rfl ?_
      refine z_bipush (v := 99) hX dX5_isOrder_13 (by decide) ?_
      refine z_icmp_ne (tgt := 22) hX dX5_isOrder_15 (by decide) (fun h15 => ?_) (fun h15 => ?_)
      · skip
        refine z_iconst (v := 0) hX dX5_isOrder_22 (by decide) ?_
        exact z_iret hX dX5_isOrder_23 (by decide) rfl (by simp [h3, h9, h15]) (fun _ h => h)
      · skip
        refine z_iconst (v := 1) hX dX5_isOrder_18 (by decide) ?_
        refine z_goto (tgt := 23) hX dX5_isOrder_19 (by decide) ?_
        exact z_iret hX dX5_isOrder_23 (by decide) rfl (by simp [h3, h9, h15]) (fun _ h => h)
set_option maxHeartbeats 4000000 in
set_option maxRecDepth 100000 in
theorem ok_X5_of (l : Launch) {g : zG} {κ : zKp} {μ : zMu} {ω : zOm} {a b : Nat → Int32} {i : Nat} (hi : i < 12) {w : Nat} (hw : w < 9) : zM l g yX5_of cX5_of 3 (some .int) 1 0 [.ref (gA g 10 0 0), .int (nI i), .int (nI w)] κ (zN μ a b) ω κ (zN μ a b) ω (some (.int (bf b i w))) := by
  refine zM_of (by decide) (Nat.le_of_ble_eq_true rfl) (fun p e R s m args below meth c hX => ?_)
  show zZ p l e R s m args below meth c g 3 _ _ _ _ 0 0 [(0, .ref (gA g 10 0 0)), (1, .int (nI i)), (2, .int (nI w))] []
  refine z_aload_n hX dX5_of_0 0 rfl ?_
  refine zg_X5_s hX   fl_RX5_9 dX5_of_1 ?_
  refine z_iconst (v := 5) hX dX5_of_4 (by decide) ?_
  refine z_bipush (v := 9) hX dX5_of_5 (by decide) ?_
  refine z_iload_n hX dX5_of_7 1 rfl ?_
  refine z_imul hX dX5_of_8 ?_
  refine z_iadd hX dX5_of_9 ?_
  refine z_iload_n hX dX5_of_10 2 rfl ?_
  refine z_iadd hX dX5_of_11 ?_
  refine z_isv (ix9 i w) ?_
  refine za_s hX  rfl (show 5 + 9 * i + w < 113 by omega) dX5_of_12 ?_
  exact z_iretI hX dX5_of_13 (by decide) rfl (fun _ h => h)
set_option maxHeartbeats 4000000 in
set_option maxRecDepth 100000 in
theorem ok_X5_sets (l : Launch) {g : zG} {κ : zKp} {μ : zMu} {ω : zOm} {a b : Nat → Int32} {i : Nat} (hi : i < 12) {w : Nat} {x : Int32} (hw : w < 9) : zM l g yX5_sets cX5_sets 4 none 1 0 [.ref (gA g 10 0 0), .int (nI i), .int (nI w), .int x] κ (zN μ a b) ω κ (zN μ a (bs b i w x)) ω none := by
  refine zM_of (by decide) (Nat.le_of_ble_eq_true rfl) (fun p e R s m args below meth c hX => ?_)
  show zZ p l e R s m args below meth c g 4 _ _ _ _ 0 0 [(0, .ref (gA g 10 0 0)), (1, .int (nI i)), (2, .int (nI w)), (3, .int x)] []
  refine z_aload_n hX dX5_sets_0 0 rfl ?_
  refine zg_X5_s hX   fl_RX5_9 dX5_sets_1 ?_
  refine z_iconst (v := 5) hX dX5_sets_4 (by decide) ?_
  refine z_bipush (v := 9) hX dX5_sets_5 (by decide) ?_
  refine z_iload_n hX dX5_sets_7 1 rfl ?_
  refine z_imul hX dX5_sets_8 ?_
  refine z_iadd hX dX5_sets_9 ?_
  refine z_iload_n hX dX5_sets_10 2 rfl ?_
  refine z_iadd hX dX5_sets_11 ?_
  refine z_isv (ix9 i w) ?_
  refine z_iload_n hX dX5_sets_12 3 rfl ?_
  refine zs_s hX  rfl (show 5 + 9 * i + w < 113 by omega)  dX5_sets_13 ?_
  exact z_vret hX dX5_sets_14 (by decide) (fun _ h => h)
set_option maxHeartbeats 4000000 in
set_option maxRecDepth 100000 in
theorem ok_X5_stands (l : Launch) {g : zG} {κ : zKp} {μ : zMu} {ω : zOm} {a b : Nat → Int32} {i : Nat} (hi : i < 12)  : zM l g yX5_stands cX5_stands 2 (some .boolean) 2 0 [.ref (gA g 10 0 0), .int (nI i)] κ (zN μ a b) ω κ (zN μ a b) ω (some (.int (if bf b i 7 = 0 then 1 else 0))) := by
  refine zM_of (by decide) (Nat.le_of_ble_eq_true rfl) (fun p e R s m args below meth c hX => ?_)
  show zZ p l e R s m args below meth c g 2 _ _ _ _ 0 0 [(0, .ref (gA g 10 0 0)), (1, .int (nI i))] []
  refine z_aload_n hX dX5_stands_0 0 rfl ?_
  refine z_iload_n hX dX5_stands_1 1 rfl ?_
  refine z_bipush (v := 7) hX dX5_stands_2 (by decide) ?_
  refine z_callV1 hX (ok_X5_of (w := 7) l hi (by decide)) cv_RX5_58 zRc10 dX5_stands_4 (by decide) rfl rfl (Nat.le_of_ble_eq_true rfl) ?_
  refine z_if_ne (tgt := 14) hX dX5_stands_7 (by decide) (fun h7 => ?_) (fun h7 => ?_)
  · skip
    refine z_iconst (v := 0) hX dX5_stands_14 (by decide) ?_
    exact z_iret hX dX5_stands_15 (by decide) rfl (by simp [h7]) (fun _ h => h)
  · skip
    refine z_iconst (v := 1) hX dX5_stands_10 (by decide) ?_
    refine z_goto (tgt := 15) hX dX5_stands_11 (by decide) ?_
    exact z_iret hX dX5_stands_15 (by decide) rfl (by simp [h7]) (fun _ h => h)
set_option maxHeartbeats 4000000 in
set_option maxRecDepth 100000 in
theorem ok_X5_isGone (l : Launch) {g : zG} {κ : zKp} {μ : zMu} {ω : zOm} {a b : Nat → Int32} {i : Nat} (hi : i < 12)  : zM l g yX5_isGone cX5_isGone 2 (some .boolean) 2 0 [.ref (gA g 10 0 0), .int (nI i)] κ (zN μ a b) ω κ (zN μ a b) ω (some (.int (if bf b i 7 = 2 then 1 else 0))) := by
  refine zM_of (by decide) (Nat.le_of_ble_eq_true rfl) (fun p e R s m args below meth c hX => ?_)
  show zZ p l e R s m args below meth c g 2 _ _ _ _ 0 0 [(0, .ref (gA g 10 0 0)), (1, .int (nI i))] []
  refine z_aload_n hX dX5_isGone_0 0 rfl ?_
  refine z_iload_n hX dX5_isGone_1 1 rfl ?_
  refine z_bipush (v := 7) hX dX5_isGone_2 (by decide) ?_
  refine z_callV1 hX (ok_X5_of (w := 7) l hi (by decide)) cv_RX5_58 zRc10 dX5_isGone_4 (by decide) rfl rfl (Nat.le_of_ble_eq_true rfl) ?_
  refine z_iconst (v := 2) hX dX5_isGone_7 (by decide) ?_
  refine z_icmp_ne (tgt := 15) hX dX5_isGone_8 (by decide) (fun h8 => ?_) (fun h8 => ?_)
  · skip
    refine z_iconst (v := 0) hX dX5_isGone_15 (by decide) ?_
    exact z_iret hX dX5_isGone_16 (by decide) rfl (by simp [h8]) (fun _ h => h)
  · skip
    refine z_iconst (v := 1) hX dX5_isGone_11 (by decide) ?_
    refine z_goto (tgt := 16) hX dX5_isGone_12 (by decide) ?_
    exact z_iret hX dX5_isGone_16 (by decide) rfl (by simp [h8]) (fun _ h => h)
set_option maxHeartbeats 4000000 in
set_option maxRecDepth 100000 in
theorem ok_X5_way (l : Launch) {g : zG} {κ : zKp} {μ : zMu} {ω : zOm} {a b : Nat → Int32} {i : Nat} (hi : i < 12)  : zM l g yX5_way cX5_way 2 (some .int) 2 0 [.ref (gA g 10 0 0), .int (nI i)] κ (zN μ a b) ω κ (zN μ a b) ω (some (.int (wayB b i))) := by
  refine zM_of (by decide) (Nat.le_of_ble_eq_true rfl) (fun p e R s m args below meth c hX => ?_)
  show zZ p l e R s m args below meth c g 2 _ _ _ _ 0 0 [(0, .ref (gA g 10 0 0)), (1, .int (nI i))] []
  refine z_aload_n hX dX5_way_0 0 rfl ?_
  refine z_iload_n hX dX5_way_1 1 rfl ?_
  refine z_iconst (v := 0) hX dX5_way_2 (by decide) ?_
  refine z_callV1 hX (ok_X5_of (w := 0) l hi (by decide)) cv_RX5_58 zRc10 dX5_way_3 (by decide) rfl rfl (Nat.le_of_ble_eq_true rfl) ?_
  refine z_if_ne (tgt := 13) hX dX5_way_6 (by decide) (fun h6 => ?_) (fun h6 => ?_)
  · skip
    refine z_iconst (v := -1) hX dX5_way_13 (by decide) ?_
    exact z_iretI hX dX5_way_14 (by decide) (by simp [wayB, h6]) (fun _ h => h)
  · skip
    refine z_iconst (v := 1) hX dX5_way_9 (by decide) ?_
    refine z_goto (tgt := 14) hX dX5_way_10 (by decide) ?_
    exact z_iretI hX dX5_way_14 (by decide) (by simp [wayB, h6]) (fun _ h => h)
set_option maxHeartbeats 4000000 in
set_option maxRecDepth 100000 in
theorem ok_X5_cell (l : Launch) {g : zG} {κ : zKp} {μ : zMu} {ω : zOm} {a b : Nat → Int32} {x y : Int32} (hn : bnI b) : zM l g yX5_cell cX5_cell 5 (some .int) 3 0 [.ref (gA g 10 0 0), .int x, .int y] κ (zN μ a b) ω κ (zN μ a b) ω (some (.int (cellB b x y))) := by
  refine zM_of (by decide) (Nat.le_of_ble_eq_true rfl) (fun p e R s m args below meth c hX => ?_)
  show zZ p l e R s m args below meth c g 5 _ _ _ _ 0 0 [(0, .ref (gA g 10 0 0)), (1, .int x), (2, .int y)] []
  refine z_iconst (v := -1) hX dX5_cell_0 (by decide) ?_
  refine z_istore_n (lv' := [(3, _), (0, _), (1, _), (2, _)]) hX dX5_cell_1 (by decide) rfl ?_
  refine z_iconst (v := 0) hX dX5_cell_2 (by decide) ?_
  refine z_istore (lv' := [(4, _), (3, _), (0, _), (1, _), (2, _)]) hX dX5_cell_3 (by decide) rfl ?_
  have hL : ∀ (dz : Nat) (k : Nat) (sv : Int32), bn b - k = dz → k ≤ bn b → sv = cellN b x y k → zZ p l e R s m args below meth c g 5 (zQ g κ (zN μ a b) ω (some (.int (cellB b x y))) below args s 0) κ (zN μ a b) ω 0 5 [(0, .ref (gA g 10 0 0)), (1, .int x), (2, .int y), (3, .int sv), (4, .int (nI k))] [] := by
    intro dz
    induction dz with
    | zero =>
      intro k sv hd hk hs
      have hkn : k = bn b := by omega
      refine z_iload hX dX5_cell_5 4 rfl ?_
      refine z_aload_n hX dX5_cell_7 0 rfl ?_
      refine zg_X5_s hX   fl_RX5_9 dX5_cell_8 ?_
      refine z_iconst (v := 0) hX dX5_cell_11 (by decide) ?_
      refine za_s hX  (show (0 : Int32) = nI 0 from rfl) (by decide) dX5_cell_12 ?_
      refine z_icmp_ge (tgt := 60) hX dX5_cell_13 (by decide) (fun h13 => ?_) (fun h13 => absurd h13 (Classical.not_not.mpr (by rw [hkn]; exact cnt_le hn)))
      refine z_iload_n hX dX5_cell_60 3 rfl ?_
      exact z_iretI hX dX5_cell_61 (by decide) (by rw [hs, hkn]; rfl) (fun _ h => h)
    | succ dz ih =>
      intro k sv hd hk hs
      have hkn : k < bn b := by omega
      refine z_iload hX dX5_cell_5 4 rfl ?_
      refine z_aload_n hX dX5_cell_7 0 rfl ?_
      refine zg_X5_s hX   fl_RX5_9 dX5_cell_8 ?_
      refine z_iconst (v := 0) hX dX5_cell_11 (by decide) ?_
      refine za_s hX  (show (0 : Int32) = nI 0 from rfl) (by decide) dX5_cell_12 ?_
      refine z_icmp_ge (tgt := 60) hX dX5_cell_13 (by decide) (fun h13 => absurd h13 (cnt_gt hn hkn)) (fun h13 => ?_)
      refine z_aload_n hX dX5_cell_16 0 rfl ?_
      refine z_iload hX dX5_cell_17 4 rfl ?_
      refine z_callV1 hX (ok_X5_isGone l (lt12 hn hkn)) cv_RX5_62 zRc10 dX5_cell_19 (by decide) rfl rfl (Nat.le_of_ble_eq_true rfl) ?_
      refine z_if_neB (tgt := 52) hX dX5_cell_22 (by decide) (fun h22 => ?_) (fun h22 => ?_)
      · skip
        refine z_iload_n hX dX5_cell_52 3 rfl ?_
        refine z_istore_n (lv' := [(3, _), (0, _), (1, _), (2, _), (4, _)]) hX dX5_cell_53 (by decide) rfl ?_
        refine z_iinc (v := nI (k + 1)) (lv' := [(4, _), (3, _), (0, _), (1, _), (2, _)]) hX dX5_cell_54 4 rfl (nI_1 k) (by decide) rfl ?_
        refine z_goto (tgt := 5) hX dX5_cell_57 (by decide) ?_
        refine z_sub [2, 3, 4, 1, 0] rfl ?_
        exact ih (k + 1) _ (by omega) hkn (by rw [cellN, if_neg (fun q => q.1 h22)]; exact hs)
      · skip
        refine z_aload_n hX dX5_cell_25 0 rfl ?_
        refine z_iload hX dX5_cell_26 4 rfl ?_
        refine z_iconst (v := 1) hX dX5_cell_28 (by decide) ?_
        refine z_callV1 hX (ok_X5_of (w := 1) l (lt12 hn hkn) (by decide)) cv_RX5_58 zRc10 dX5_cell_29 (by decide) rfl rfl (Nat.le_of_ble_eq_true rfl) ?_
        refine z_iload_n hX dX5_cell_32 1 rfl ?_
        refine z_icmp_ne (tgt := 52) hX dX5_cell_33 (by decide) (fun h33 => ?_) (fun h33 => ?_)
        · skip
          refine z_iload_n hX dX5_cell_52 3 rfl ?_
          refine z_istore_n (lv' := [(3, _), (0, _), (1, _), (2, _), (4, _)]) hX dX5_cell_53 (by decide) rfl ?_
          refine z_iinc (v := nI (k + 1)) (lv' := [(4, _), (3, _), (0, _), (1, _), (2, _)]) hX dX5_cell_54 4 rfl (nI_1 k) (by decide) rfl ?_
          refine z_goto (tgt := 5) hX dX5_cell_57 (by decide) ?_
          refine z_sub [2, 3, 4, 1, 0] rfl ?_
          exact ih (k + 1) _ (by omega) hkn (by rw [cellN, if_neg (fun q => h33 q.2.1)]; exact hs)
        · skip
          refine z_aload_n hX dX5_cell_36 0 rfl ?_
          refine z_iload hX dX5_cell_37 4 rfl ?_
          refine z_iconst (v := 2) hX dX5_cell_39 (by decide) ?_
          refine z_callV1 hX (ok_X5_of (w := 2) l (lt12 hn hkn) (by decide)) cv_RX5_58 zRc10 dX5_cell_40 (by decide) rfl rfl (Nat.le_of_ble_eq_true rfl) ?_
          refine z_iload_n hX dX5_cell_43 2 rfl ?_
          refine z_icmp_ne (tgt := 52) hX dX5_cell_44 (by decide) (fun h44 => ?_) (fun h44 => ?_)
          · skip
            refine z_iload_n hX dX5_cell_52 3 rfl ?_
            refine z_istore_n (lv' := [(3, _), (0, _), (1, _), (2, _), (4, _)]) hX dX5_cell_53 (by decide) rfl ?_
            refine z_iinc (v := nI (k + 1)) (lv' := [(4, _), (3, _), (0, _), (1, _), (2, _)]) hX dX5_cell_54 4 rfl (nI_1 k) (by decide) rfl ?_
            refine z_goto (tgt := 5) hX dX5_cell_57 (by decide) ?_
            refine z_sub [2, 3, 4, 1, 0] rfl ?_
            exact ih (k + 1) _ (by omega) hkn (by rw [cellN, if_neg (fun q => h44 q.2.2)]; exact hs)
          · skip
            refine z_iload hX dX5_cell_47 4 rfl ?_
            refine z_goto (tgt := 53) hX dX5_cell_49 (by decide) ?_
            refine z_istore_n (lv' := [(3, _), (0, _), (1, _), (2, _), (4, _)]) hX dX5_cell_53 (by decide) rfl ?_
            refine z_iinc (v := nI (k + 1)) (lv' := [(4, _), (3, _), (0, _), (1, _), (2, _)]) hX dX5_cell_54 4 rfl (nI_1 k) (by decide) rfl ?_
            refine z_goto (tgt := 5) hX dX5_cell_57 (by decide) ?_
            refine z_sub [2, 3, 4, 1, 0] rfl ?_
            exact ih (k + 1) _ (by omega) hkn (by rw [cellN, if_pos ⟨h22, h33, h44⟩])
  refine z_sub [2, 3, 4, 1, 0] rfl ?_
  exact hL (bn b) 0 (-1) (Nat.sub_zero _) (Nat.zero_le _) rfl
set_option maxHeartbeats 4000000 in
set_option maxRecDepth 100000 in
theorem ok_X5_attack (l : Launch) {g : zG} {κ : zKp} {μ : zMu} {ω : zOm} {a b : Nat → Int32} {i : Nat} (hi : i < 12) (hL : lineW b i) : zM l g yX5_attack cX5_attack 3 (some .int) 2 0 [.ref (gA g 10 0 0), .int (nI i)] κ (zN μ a b) ω κ (zN μ a b) ω (some (.int (attB b i))) := by
  refine zM_of (by decide) (Nat.le_of_ble_eq_true rfl) (fun p e R s m args below meth c hX => ?_)
  show zZ p l e R s m args below meth c g 3 _ _ _ _ 0 0 [(0, .ref (gA g 10 0 0)), (1, .int (nI i))] []
  refine z_aload_n hX dX5_attack_0 0 rfl ?_
  refine z_iload_n hX dX5_attack_1 1 rfl ?_
  refine z_iconst (v := 4) hX dX5_attack_2 (by decide) ?_
  refine z_callV1 hX (ok_X5_of (w := 4) l hi (by decide)) cv_RX5_58 zRc10 dX5_attack_3 (by decide) rfl rfl (Nat.le_of_ble_eq_true rfl) ?_
  refine z_istore_n (lv' := [(2, _), (0, _), (1, _)]) hX dX5_attack_6 (by decide) rfl ?_
  refine z_aload_n hX dX5_attack_7 1 rfl ?_
  refine z_iload_n hX dX5_attack_8 2 rfl ?_
  refine z_iconst (v := 3) hX dX5_attack_9 (by decide) ?_
  refine z_callV1 hX (ok_X5_of (w := 3) l hi (by decide)) cv_RX5_58 zRc10 dX5_attack_10 (by decide) rfl rfl (Nat.le_of_ble_eq_true rfl) ?_
  rcases hL.2.2.2.1 with h3 | h3 | h3 | h3
  · skip
    refine z_isv h3 ?_
    refine z_lookup (tgt := 48) hX dX5_attack_13 rfl rfl (by decide) ?_
    refine z_iload_n hX dX5_attack_48 0 rfl ?_
    refine z_iconst (v := 4) hX dX5_attack_49 (by decide) ?_
    refine z_idiv hX dX5_attack_50 (by decide) ?_
    exact z_iretI hX dX5_attack_51 (by decide) (by simp [attB, h3]) (fun _ h => h)
  · skip
    refine z_isv h3 ?_
    refine z_lookup (tgt := 52) hX dX5_attack_13 rfl rfl (by decide) ?_
    refine z_iload_n hX dX5_attack_52 0 rfl ?_
    refine z_iconst (v := 5) hX dX5_attack_53 (by decide) ?_
    refine z_idiv hX dX5_attack_54 (by decide) ?_
    refine z_iconst (v := 2) hX dX5_attack_55 (by decide) ?_
    refine z_iadd hX dX5_attack_56 ?_
    exact z_iretI hX dX5_attack_57 (by decide) (by simp [attB, h3]) (fun _ h => h)
  · skip
    refine z_isv h3 ?_
    refine z_lookup (tgt := 58) hX dX5_attack_13 rfl rfl (by decide) ?_
    refine z_iload_n hX dX5_attack_58 0 rfl ?_
    refine z_iconst (v := 3) hX dX5_attack_59 (by decide) ?_
    refine z_idiv hX dX5_attack_60 (by decide) ?_
    exact z_iretI hX dX5_attack_61 (by decide) (by simp [attB, h3]) (fun _ h => h)
  · skip
    refine z_isv h3 ?_
    refine z_lookup (tgt := 62) hX dX5_attack_13 rfl rfl (by decide) ?_
    refine z_iload_n hX dX5_attack_62 0 rfl ?_
    refine z_bipush (v := 6) hX dX5_attack_63 (by decide) ?_
    refine z_idiv hX dX5_attack_65 (by decide) ?_
    refine z_iconst (v := 1) hX dX5_attack_66 (by decide) ?_
    refine z_iadd hX dX5_attack_67 ?_
    exact z_iretI hX dX5_attack_68 (by decide) (by simp [attB, h3]) (fun _ h => h)
set_option maxHeartbeats 4000000 in
set_option maxRecDepth 100000 in
theorem ok_X5_counter (l : Launch) {g : zG} {κ : zKp} {μ : zMu} {ω : zOm} {a b : Nat → Int32} {i : Nat} (hi : i < 12)  : zM l g yX5_counter cX5_counter 3 (some .int) 2 0 [.ref (gA g 10 0 0), .int (nI i)] κ (zN μ a b) ω κ (zN μ a b) ω (some (.int (cntB b i))) := by
  refine zM_of (by decide) (Nat.le_of_ble_eq_true rfl) (fun p e R s m args below meth c hX => ?_)
  show zZ p l e R s m args below meth c g 3 _ _ _ _ 0 0 [(0, .ref (gA g 10 0 0)), (1, .int (nI i))] []
  refine z_aload_n hX dX5_counter_0 0 rfl ?_
  refine z_iload_n hX dX5_counter_1 1 rfl ?_
  refine z_iconst (v := 3) hX dX5_counter_2 (by decide) ?_
  refine z_callV1 hX (ok_X5_of (w := 3) l hi (by decide)) cv_RX5_58 zRc10 dX5_counter_3 (by decide) rfl rfl (Nat.le_of_ble_eq_true rfl) ?_
  refine z_istore_n (lv' := [(2, _), (0, _), (1, _)]) hX dX5_counter_6 (by decide) rfl ?_
  refine z_aload_n hX dX5_counter_7 1 rfl ?_
  refine z_iload_n hX dX5_counter_8 2 rfl ?_
  refine z_iconst (v := 4) hX dX5_counter_9 (by decide) ?_
  refine z_callV1 hX (ok_X5_of (w := 4) l hi (by decide)) cv_RX5_58 zRc10 dX5_counter_10 (by decide) rfl rfl (Nat.le_of_ble_eq_true rfl) ?_
  refine z_iload_n hX dX5_counter_13 0 rfl ?_
  refine z_bipush (v := 112) hX dX5_counter_14 (by decide) ?_
  refine z_icmp_ne (tgt := 24) hX dX5_counter_16 (by decide) (fun h16 => ?_) (fun h16 => ?_)
  · skip
    refine z_iload_n hX dX5_counter_24 0 rfl ?_
    refine z_bipush (v := 110) hX dX5_counter_25 (by decide) ?_
    refine z_icmp_ne (tgt := 34) hX dX5_counter_27 (by decide) (fun h27 => ?_) (fun h27 => ?_)
    · skip
      refine z_iload_n hX dX5_counter_34 0 rfl ?_
      refine z_bipush (v := 99) hX dX5_counter_35 (by decide) ?_
      refine z_icmp_ne (tgt := 45) hX dX5_counter_37 (by decide) (fun h37 => ?_) (fun h37 => ?_)
      · skip
        refine z_bipush (v := 6) hX dX5_counter_45 (by decide) ?_
        refine z_idiv hX dX5_counter_47 (by decide) ?_
        exact z_iretI hX dX5_counter_48 (by decide) (by simp [cntB, h16, h27, h37]) (fun _ h => h)
      · skip
        refine z_bipush (v := 10) hX dX5_counter_40 (by decide) ?_
        refine z_goto (tgt := 47) hX dX5_counter_42 (by decide) ?_
        refine z_idiv hX dX5_counter_47 (by decide) ?_
        exact z_iretI hX dX5_counter_48 (by decide) (by simp [cntB, h16, h27, h37]) (fun _ h => h)
    · skip
      refine z_iconst (v := 4) hX dX5_counter_30 (by decide) ?_
      refine z_goto (tgt := 47) hX dX5_counter_31 (by decide) ?_
      refine z_idiv hX dX5_counter_47 (by decide) ?_
      exact z_iretI hX dX5_counter_48 (by decide) (by simp [cntB, h16, h27]) (fun _ h => h)
  · skip
    refine z_bipush (v := 8) hX dX5_counter_19 (by decide) ?_
    refine z_goto (tgt := 47) hX dX5_counter_21 (by decide) ?_
    refine z_idiv hX dX5_counter_47 (by decide) ?_
    exact z_iretI hX dX5_counter_48 (by decide) (by simp [cntB, h16]) (fun _ h => h)
set_option maxHeartbeats 4000000 in
set_option maxRecDepth 100000 in
theorem ok_X5_support (l : Launch) {g : zG} {κ : zKp} {μ : zMu} {ω : zOm} {a b : Nat → Int32} {i : Nat} (hi : i < 12) (hn : bnI b) : zM l g yX5_support cX5_support 6 (some .int) 3 0 [.ref (gA g 10 0 0), .int (nI i)] κ (zN μ a b) ω κ (zN μ a b) ω (some (.int (supB b i))) := by
  refine zM_of (by decide) (Nat.le_of_ble_eq_true rfl) (fun p e R s m args below meth c hX => ?_)
  show zZ p l e R s m args below meth c g 6 _ _ _ _ 0 0 [(0, .ref (gA g 10 0 0)), (1, .int (nI i))] []
  refine z_iconst (v := 0) hX dX5_support_0 (by decide) ?_
  refine z_istore_n (lv' := [(2, _), (0, _), (1, _)]) hX dX5_support_1 (by decide) rfl ?_
  refine z_iconst (v := 0) hX dX5_support_2 (by decide) ?_
  refine z_istore_n (lv' := [(3, _), (2, _), (0, _), (1, _)]) hX dX5_support_3 (by decide) rfl ?_
  have hL : ∀ (dz : Nat) (k : Nat) (sv : Int32), bn b - k = dz → k ≤ bn b → sv = supN b i k → zZ p l e R s m args below meth c g 6 (zQ g κ (zN μ a b) ω (some (.int (supB b i))) below args s 0) κ (zN μ a b) ω 0 4 [(0, .ref (gA g 10 0 0)), (1, .int (nI i)), (2, .int sv), (3, .int (nI k))] [] := by
    intro dz
    induction dz with
    | zero =>
      intro k sv hd hk hs
      have hkn : k = bn b := by omega
      refine z_iload_n hX dX5_support_4 3 rfl ?_
      refine z_aload_n hX dX5_support_5 0 rfl ?_
      refine zg_X5_s hX   fl_RX5_9 dX5_support_6 ?_
      refine z_iconst (v := 0) hX dX5_support_9 (by decide) ?_
      refine za_s hX  (show (0 : Int32) = nI 0 from rfl) (by decide) dX5_support_10 ?_
      refine z_icmp_ge (tgt := 102) hX dX5_support_11 (by decide) (fun h11 => ?_) (fun h11 => absurd h11 (Classical.not_not.mpr (by rw [hkn]; exact cnt_le hn)))
      refine z_iload_n hX dX5_support_102 2 rfl ?_
      exact z_iretI hX dX5_support_103 (by decide) (by rw [hs, hkn]; rfl) (fun _ h => h)
    | succ dz ih =>
      intro k sv hd hk hs
      have hkn : k < bn b := by omega
      refine z_iload_n hX dX5_support_4 3 rfl ?_
      refine z_aload_n hX dX5_support_5 0 rfl ?_
      refine zg_X5_s hX   fl_RX5_9 dX5_support_6 ?_
      refine z_iconst (v := 0) hX dX5_support_9 (by decide) ?_
      refine za_s hX  (show (0 : Int32) = nI 0 from rfl) (by decide) dX5_support_10 ?_
      refine z_icmp_ge (tgt := 102) hX dX5_support_11 (by decide) (fun h11 => absurd h11 (cnt_gt hn hkn)) (fun h11 => ?_)
      refine z_aload_n hX dX5_support_14 0 rfl ?_
      refine z_iload_n hX dX5_support_15 3 rfl ?_
      refine z_iconst (v := 1) hX dX5_support_16 (by decide) ?_
      refine z_callV1 hX (ok_X5_of (w := 1) l (lt12 hn hkn) (by decide)) cv_RX5_58 zRc10 dX5_support_17 (by decide) rfl rfl (Nat.le_of_ble_eq_true rfl) ?_
      refine z_aload_n hX dX5_support_20 0 rfl ?_
      refine z_iload_n hX dX5_support_21 1 rfl ?_
      refine z_iconst (v := 1) hX dX5_support_22 (by decide) ?_
      refine z_callV1 hX (ok_X5_of (w := 1) l hi (by decide)) cv_RX5_58 zRc10 dX5_support_23 (by decide) rfl rfl (Nat.le_of_ble_eq_true rfl) ?_
      refine z_isub hX dX5_support_26 ?_
      refine z_istore (lv' := [(4, _), (0, _), (1, _), (2, _), (3, _)]) hX dX5_support_27 (by decide) rfl ?_
      refine z_iload hX dX5_support_29 0 rfl ?_
      refine z_iload hX dX5_support_31 0 rfl ?_
      refine z_imul hX dX5_support_33 ?_
      refine z_iconst (v := 1) hX dX5_support_34 (by decide) ?_
      refine z_icmp_ne (tgt := 57) hX dX5_support_35 (by decide) (fun h35 => ?_) (fun h35 => ?_)
      · skip
        refine z_iconst (v := 0) hX dX5_support_57 (by decide) ?_
        refine z_istore (lv' := [(5, _), (4, _), (0, _), (1, _), (2, _), (3, _)]) hX dX5_support_58 (by decide) rfl ?_
        refine z_iload_n hX dX5_support_60 4 rfl ?_
        refine z_iload hX dX5_support_61 0 rfl ?_
        refine z_if_eq (tgt := 93) hX dX5_support_63 (by decide) (fun h63 => ?_) (fun h63 => absurd h63 (by decide))
        refine z_iconst (v := 0) hX dX5_support_93 (by decide) ?_
        refine z_iadd hX dX5_support_94 ?_
        refine z_istore_n (lv' := [(2, _), (5, _), (4, _), (0, _), (1, _), (3, _)]) hX dX5_support_95 (by decide) rfl ?_
        refine z_iinc (v := nI (k + 1)) (lv' := [(3, _), (2, _), (5, _), (4, _), (0, _), (1, _)]) hX dX5_support_96 5 rfl (nI_1 k) (by decide) rfl ?_
        refine z_goto (tgt := 4) hX dX5_support_99 (by decide) ?_
        refine z_sub [4, 5, 1, 0] rfl ?_
        exact ih (k + 1) _ (by omega) hkn (by rw [supN, if_neg (fun q => h35 q.1), hs])
      · skip
        refine z_aload_n hX dX5_support_38 1 rfl ?_
        refine z_iload_n hX dX5_support_39 4 rfl ?_
        refine z_iconst (v := 2) hX dX5_support_40 (by decide) ?_
        refine z_callV1 hX (ok_X5_of (w := 2) l (lt12 hn hkn) (by decide)) cv_RX5_58 zRc10 dX5_support_41 (by decide) rfl rfl (Nat.le_of_ble_eq_true rfl) ?_
        refine z_aload_n hX dX5_support_44 1 rfl ?_
        refine z_iload_n hX dX5_support_45 2 rfl ?_
        refine z_iconst (v := 2) hX dX5_support_46 (by decide) ?_
        refine z_callV1 hX (ok_X5_of (w := 2) l hi (by decide)) cv_RX5_58 zRc10 dX5_support_47 (by decide) rfl rfl (Nat.le_of_ble_eq_true rfl) ?_
        refine z_icmp_ne (tgt := 57) hX dX5_support_50 (by decide) (fun h50 => ?_) (fun h50 => ?_)
        · skip
          refine z_iconst (v := 0) hX dX5_support_57 (by decide) ?_
          refine z_istore (lv' := [(5, _), (4, _), (0, _), (1, _), (2, _), (3, _)]) hX dX5_support_58 (by decide) rfl ?_
          refine z_iload_n hX dX5_support_60 4 rfl ?_
          refine z_iload hX dX5_support_61 0 rfl ?_
          refine z_if_eq (tgt := 93) hX dX5_support_63 (by decide) (fun h63 => ?_) (fun h63 => absurd h63 (by decide))
          refine z_iconst (v := 0) hX dX5_support_93 (by decide) ?_
          refine z_iadd hX dX5_support_94 ?_
          refine z_istore_n (lv' := [(2, _), (5, _), (4, _), (0, _), (1, _), (3, _)]) hX dX5_support_95 (by decide) rfl ?_
          refine z_iinc (v := nI (k + 1)) (lv' := [(3, _), (2, _), (5, _), (4, _), (0, _), (1, _)]) hX dX5_support_96 5 rfl (nI_1 k) (by decide) rfl ?_
          refine z_goto (tgt := 4) hX dX5_support_99 (by decide) ?_
          refine z_sub [4, 5, 1, 0] rfl ?_
          exact ih (k + 1) _ (by omega) hkn (by rw [supN, if_neg (fun q => h50 q.2.1), hs])
        · skip
          refine z_iconst (v := 1) hX dX5_support_53 (by decide) ?_
          refine z_goto (tgt := 58) hX dX5_support_54 (by decide) ?_
          refine z_istore (lv' := [(5, _), (4, _), (0, _), (1, _), (2, _), (3, _)]) hX dX5_support_58 (by decide) rfl ?_
          refine z_iload_n hX dX5_support_60 4 rfl ?_
          refine z_iload hX dX5_support_61 0 rfl ?_
          refine z_if_eq (tgt := 93) hX dX5_support_63 (by decide) (fun h63 => absurd h63 (by decide)) (fun h63 => ?_)
          refine z_aload_n hX dX5_support_66 2 rfl ?_
          refine z_iload_n hX dX5_support_67 5 rfl ?_
          refine z_callV1 hX (ok_X5_stands l (lt12 hn hkn)) cv_RX5_66 zRc10 dX5_support_68 (by decide) rfl rfl (Nat.le_of_ble_eq_true rfl) ?_
          refine z_if_eqB (tgt := 93) hX dX5_support_71 (by decide) (fun h71 => ?_) (fun h71 => ?_)
          · skip
            refine z_iconst (v := 0) hX dX5_support_93 (by decide) ?_
            refine z_iadd hX dX5_support_94 ?_
            refine z_istore_n (lv' := [(2, _), (5, _), (4, _), (0, _), (1, _), (3, _)]) hX dX5_support_95 (by decide) rfl ?_
            refine z_iinc (v := nI (k + 1)) (lv' := [(3, _), (2, _), (5, _), (4, _), (0, _), (1, _)]) hX dX5_support_96 5 rfl (nI_1 k) (by decide) rfl ?_
            refine z_goto (tgt := 4) hX dX5_support_99 (by decide) ?_
            refine z_sub [4, 5, 1, 0] rfl ?_
            exact ih (k + 1) _ (by omega) hkn (by rw [supN, if_neg (fun q => h71 q.2.2.1), hs])
          · skip
            refine z_aload_n hX dX5_support_74 2 rfl ?_
            refine z_iload_n hX dX5_support_75 5 rfl ?_
            refine z_iconst (v := 0) hX dX5_support_76 (by decide) ?_
            refine z_callV1 hX (ok_X5_of (w := 0) l (lt12 hn hkn) (by decide)) cv_RX5_58 zRc10 dX5_support_77 (by decide) rfl rfl (Nat.le_of_ble_eq_true rfl) ?_
            refine z_aload_n hX dX5_support_80 2 rfl ?_
            refine z_iload_n hX dX5_support_81 3 rfl ?_
            refine z_iconst (v := 0) hX dX5_support_82 (by decide) ?_
            refine z_callV1 hX (ok_X5_of (w := 0) l hi (by decide)) cv_RX5_58 zRc10 dX5_support_83 (by decide) rfl rfl (Nat.le_of_ble_eq_true rfl) ?_
            refine z_icmp_ne (tgt := 93) hX dX5_support_86 (by decide) (fun h86 => ?_) (fun h86 => ?_)
            · skip
              refine z_iconst (v := 0) hX dX5_support_93 (by decide) ?_
              refine z_iadd hX dX5_support_94 ?_
              refine z_istore_n (lv' := [(2, _), (5, _), (4, _), (0, _), (1, _), (3, _)]) hX dX5_support_95 (by decide) rfl ?_
              refine z_iinc (v := nI (k + 1)) (lv' := [(3, _), (2, _), (5, _), (4, _), (0, _), (1, _)]) hX dX5_support_96 5 rfl (nI_1 k) (by decide) rfl ?_
              refine z_goto (tgt := 4) hX dX5_support_99 (by decide) ?_
              refine z_sub [4, 5, 1, 0] rfl ?_
              exact ih (k + 1) _ (by omega) hkn (by rw [supN, if_neg (fun q => h86 q.2.2.2), hs])
            · skip
              refine z_iconst (v := 1) hX dX5_support_89 (by decide) ?_
              refine z_goto (tgt := 94) hX dX5_support_90 (by decide) ?_
              refine z_iadd hX dX5_support_94 ?_
              refine z_istore_n (lv' := [(2, _), (5, _), (4, _), (0, _), (1, _), (3, _)]) hX dX5_support_95 (by decide) rfl ?_
              refine z_iinc (v := nI (k + 1)) (lv' := [(3, _), (2, _), (5, _), (4, _), (0, _), (1, _)]) hX dX5_support_96 5 rfl (nI_1 k) (by decide) rfl ?_
              refine z_goto (tgt := 4) hX dX5_support_99 (by decide) ?_
              refine z_sub [4, 5, 1, 0] rfl ?_
              exact ih (k + 1) _ (by omega) hkn (by rw [supN, if_pos ⟨h35, h50, h71, h86⟩, hs])
  refine z_sub [2, 3, 1, 0] rfl ?_
  exact hL (bn b) 0 0 (Nat.sub_zero _) (Nat.zero_le _) rfl
end ZM1
