section ZM4
theorem ne_8 {k : Nat} (h : k < 8) : ¬ nI k = 8 := fun q => absurd (lt_i (a := k) (b := 8) h (by decide)) (by rw [show nI k = nI 8 from q]; exact Int32.lt_irrefl)
theorem ne_0 {k : Nat} (h : k < 1000) : ¬ nI (k + 1) = 0 := fun q => absurd (lt_i (a := 0) (b := k + 1) (by omega) (by omega)) (by rw [show nI (k + 1) = nI 0 from q]; exact Int32.lt_irrefl)
theorem pm8 {a : Nat → Int32} (h : a 1 = 8) : upd (upd a 1 (a 1 - 1)) 1 (upd a 1 (a 1 - 1) 1 + 1) = a := by
  funext q
  unfold upd
  by_cases e : q = 1
  · subst e
    rw [if_pos rfl, if_pos rfl, h]; decide
  · rw [if_neg e, if_neg e]
/-- the battle after k turns -/
def itB (g : zB) : Nat → zB
  | 0 => g
  | k + 1 => passB (itB g k)
/-- the fights of turn k -/
def fiB (g : zB) (k : Nat) : Int32 := itB g (k + 1) 2 - itB g k 2
set_option maxHeartbeats 4000000 in
set_option maxRecDepth 100000 in
theorem ok_X5_keep (l : Launch) {g : zG} {κ : zKp} {μ : zMu} {ω : zOm} {a b : Nat → Int32}  : zM l g yX5_keep cX5_keep 1 none 2 0 [.ref (gA g 10 0 0)] κ (zN μ a b) ω κ (zN (zRm μ 2 b) (upd a 2 0) b) ω none := by
  refine zM_of (by decide) (Nat.le_of_ble_eq_true rfl) (fun p e R s m args below meth c hX => ?_)
  show zZ p l e R s m args below meth c g 1 _ _ _ _ 0 0 [(0, .ref (gA g 10 0 0))] []
  refine z_aload_n hX dX5_keep_0 0 rfl ?_
  refine z_iconst (v := 0) hX dX5_keep_1 (by decide) ?_
  refine zp_X5_thrown hX   fl_RX5_42 dX5_keep_2 ?_
  refine z_aload_n hX dX5_keep_5 0 rfl ?_
  refine zg_X5_s hX   fl_RX5_9 dX5_keep_6 ?_
  refine z_iconst (v := 0) hX dX5_keep_9 (by decide) ?_
  refine z_aload_n hX dX5_keep_10 0 rfl ?_
  refine zg_X5_before hX   fl_RX5_13 dX5_keep_11 ?_
  refine z_iconst (v := 0) hX dX5_keep_14 (by decide) ?_
  refine z_bipush (v := 113) hX dX5_keep_15 (by decide) ?_
  refine zc_to_before hX dX5_keep_17 (by decide) (Nat.le_of_ble_eq_true rfl) ?_
  exact z_vret hX dX5_keep_20 (by decide) (fun _ h => h)
set_option maxHeartbeats 4000000 in
set_option maxRecDepth 100000 in
theorem no_ends (l : Launch) {g : zG} {κ : zKp} {μ : zMu} {ω : zOm} {a b : Nat → Int32} {x : Int32} (h0 : ¬ a 2 ≤ 0) : zM l g yX5_ends cX5_ends 2 (some .int) 2 0 [.ref (gA g 10 0 0), .int x] κ (zN μ a b) ω κ (zN μ a (μ 2)) ω (some (.int 0)) := by
  refine zM_of (by decide) (Nat.le_of_ble_eq_true rfl) (fun p e R s m args below meth c hX => ?_)
  show zZ p l e R s m args below meth c g 2 _ _ _ _ 0 0 [(0, .ref (gA g 10 0 0)), (1, .int x)] []
  refine z_aload_n hX dX5_ends_0 0 rfl ?_
  refine zg_X5_thrown hX   fl_RX5_42 dX5_ends_1 ?_
  refine z_if_le (tgt := 24) hX dX5_ends_4 (by decide) (fun h4 => absurd h4 h0) (fun h4 => ?_)
  refine z_aload_n hX dX5_ends_7 0 rfl ?_
  refine zg_X5_before hX   fl_RX5_13 dX5_ends_8 ?_
  refine z_iconst (v := 0) hX dX5_ends_11 (by decide) ?_
  refine z_aload_n hX dX5_ends_12 0 rfl ?_
  refine zg_X5_s hX   fl_RX5_9 dX5_ends_13 ?_
  refine z_iconst (v := 0) hX dX5_ends_16 (by decide) ?_
  refine z_bipush (v := 113) hX dX5_ends_17 (by decide) ?_
  refine zc_of_before hX dX5_ends_19 (by decide) (Nat.le_of_ble_eq_true rfl) ?_
  refine z_iconst (v := 0) hX dX5_ends_22 (by decide) ?_
  exact z_iretI hX dX5_ends_23 (by decide) rfl (fun _ h => h)
set_option maxHeartbeats 4000000 in
set_option maxRecDepth 100000 in
theorem ok_ends8 (l : Launch) {g : zG} {κ : zKp} {μ : zMu} {ω : zOm} {a b : Nat → Int32} {x : Int32} (h0 : a 2 ≤ 0) (h1 : a 1 = 8) : zM l g yX5_ends cX5_ends 2 (some .int) 2 0 [.ref (gA g 10 0 0), .int x] κ (zN μ a b) ω κ (zN (zRm (zSh μ) 17 (μ 2)) a b) ω (some (.int x)) := by
  refine zM_of (by decide) (Nat.le_of_ble_eq_true rfl) (fun p e R s m args below meth c hX => ?_)
  show zZ p l e R s m args below meth c g 2 _ _ _ _ 0 0 [(0, .ref (gA g 10 0 0)), (1, .int x)] []
  refine z_aload_n hX dX5_ends_0 0 rfl ?_
  refine zg_X5_thrown hX   fl_RX5_42 dX5_ends_1 ?_
  refine z_if_le (tgt := 24) hX dX5_ends_4 (by decide) (fun h4 => ?_) (fun h4 => absurd h4 (Classical.not_not.mpr h0))
  refine z_aload_n hX dX5_ends_24 0 rfl ?_
  refine zg_X5_pastMany hX   fl_RX5_51 dX5_ends_25 ?_
  refine z_bipush (v := 8) hX dX5_ends_28 (by decide) ?_
  refine z_icmp_ne (tgt := 60) hX dX5_ends_30 (by decide) (fun h30 => absurd h30 (Classical.not_not.mpr h1)) (fun h30 => ?_)
  refine z_aload_n hX dX5_ends_33 0 rfl ?_
  refine zg_X5_past hX   fl_RX5_22 dX5_ends_34 ?_
  refine z_bipush (v := 113) hX dX5_ends_37 (by decide) ?_
  refine z_aload_n hX dX5_ends_39 0 rfl ?_
  refine zg_X5_past hX   fl_RX5_22 dX5_ends_40 ?_
  refine z_iconst (v := 0) hX dX5_ends_43 (by decide) ?_
  refine z_sipush (v := 791) hX dX5_ends_44 (by decide) ?_
  refine zc_shift hX dX5_ends_47 (by decide) (Nat.le_of_ble_eq_true rfl) ?_
  refine z_aload_n hX dX5_ends_50 0 rfl ?_
  refine z_dup hX dX5_ends_51 rfl ?_
  refine zg_X5_pastMany hX   fl_RX5_51 dX5_ends_52 ?_
  refine z_iconst (v := 1) hX dX5_ends_55 (by decide) ?_
  refine z_isub hX dX5_ends_56 ?_
  refine zp_X5_pastMany hX   fl_RX5_51 dX5_ends_57 ?_
  refine z_aload_n hX dX5_ends_60 0 rfl ?_
  refine zg_X5_before hX   fl_RX5_13 dX5_ends_61 ?_
  refine z_iconst (v := 0) hX dX5_ends_64 (by decide) ?_
  refine z_aload_n hX dX5_ends_65 0 rfl ?_
  refine zg_X5_past hX   fl_RX5_22 dX5_ends_66 ?_
  refine z_bipush (v := 113) hX dX5_ends_69 (by decide) ?_
  refine z_aload_n hX dX5_ends_71 0 rfl ?_
  refine zg_X5_pastMany hX   fl_RX5_51 dX5_ends_72 ?_
  refine z_imul hX dX5_ends_75 ?_
  refine z_isv (show (113 : Int32) * (a 1 - 1) = nI 791 by rw [h1]; rfl) ?_
  refine z_bipush (v := 113) hX dX5_ends_76 (by decide) ?_
  refine zc_put (k0 := 7) hX (by decide) rfl dX5_ends_78 (by decide) (Nat.le_of_ble_eq_true rfl) ?_
  refine z_aload_n hX dX5_ends_81 0 rfl ?_
  refine z_dup hX dX5_ends_82 rfl ?_
  refine zg_X5_pastMany hX   fl_RX5_51 dX5_ends_83 ?_
  refine z_iconst (v := 1) hX dX5_ends_86 (by decide) ?_
  refine z_iadd hX dX5_ends_87 ?_
  refine zp_X5_pastMany hX   fl_RX5_51 dX5_ends_88 ?_
  refine z_iload_n hX dX5_ends_91 1 rfl ?_
  exact z_iretI hX dX5_ends_92 (by decide) rfl (fun _ h => by rw [pm8 h1, zSh_o (Or.inl (by decide))] at h; exact h)
set_option maxHeartbeats 4000000 in
set_option maxRecDepth 100000 in
theorem ok_ends (l : Launch) {g : zG} {κ : zKp} {μ : zMu} {ω : zOm} {a b : Nat → Int32} {x : Int32} {k0 : Nat} (hk : k0 < 8) (h0 : a 2 ≤ 0) (h1 : a 1 = nI k0) : zM l g yX5_ends cX5_ends 2 (some .int) 2 0 [.ref (gA g 10 0 0), .int x] κ (zN μ a b) ω κ (zN (zRm μ (10 + k0) (μ 2)) (upd a 1 (nI (k0 + 1))) b) ω (some (.int x)) := by
  refine zM_of (by decide) (Nat.le_of_ble_eq_true rfl) (fun p e R s m args below meth c hX => ?_)
  show zZ p l e R s m args below meth c g 2 _ _ _ _ 0 0 [(0, .ref (gA g 10 0 0)), (1, .int x)] []
  refine z_aload_n hX dX5_ends_0 0 rfl ?_
  refine zg_X5_thrown hX   fl_RX5_42 dX5_ends_1 ?_
  refine z_if_le (tgt := 24) hX dX5_ends_4 (by decide) (fun h4 => ?_) (fun h4 => absurd h4 (Classical.not_not.mpr h0))
  refine z_aload_n hX dX5_ends_24 0 rfl ?_
  refine zg_X5_pastMany hX   fl_RX5_51 dX5_ends_25 ?_
  refine z_bipush (v := 8) hX dX5_ends_28 (by decide) ?_
  refine z_icmp_ne (tgt := 60) hX dX5_ends_30 (by decide) (fun h30 => ?_) (fun h30 => absurd h30 (by rw [h1]; exact ne_8 hk))
  refine z_aload_n hX dX5_ends_60 0 rfl ?_
  refine zg_X5_before hX   fl_RX5_13 dX5_ends_61 ?_
  refine z_iconst (v := 0) hX dX5_ends_64 (by decide) ?_
  refine z_aload_n hX dX5_ends_65 0 rfl ?_
  refine zg_X5_past hX   fl_RX5_22 dX5_ends_66 ?_
  refine z_bipush (v := 113) hX dX5_ends_69 (by decide) ?_
  refine z_aload_n hX dX5_ends_71 0 rfl ?_
  refine zg_X5_pastMany hX   fl_RX5_51 dX5_ends_72 ?_
  refine z_imul hX dX5_ends_75 ?_
  refine z_isv (show (113 : Int32) * a 1 = nI (113 * k0) by rw [h1, show (113 : Int32) = nI 113 from rfl, pk_mul]) ?_
  refine z_bipush (v := 113) hX dX5_ends_76 (by decide) ?_
  refine zc_put (k0 := k0) hX hk rfl dX5_ends_78 (by decide) (Nat.le_of_ble_eq_true rfl) ?_
  refine z_aload_n hX dX5_ends_81 0 rfl ?_
  refine z_dup hX dX5_ends_82 rfl ?_
  refine zg_X5_pastMany hX   fl_RX5_51 dX5_ends_83 ?_
  refine z_iconst (v := 1) hX dX5_ends_86 (by decide) ?_
  refine z_iadd hX dX5_ends_87 ?_
  refine z_isv (show a 1 + 1 = nI (k0 + 1) by rw [h1]; exact nI_1 k0) ?_
  refine zp_X5_pastMany hX   fl_RX5_51 dX5_ends_88 ?_
  refine z_iload_n hX dX5_ends_91 1 rfl ?_
  exact z_iretI hX dX5_ends_92 (by decide) rfl (fun _ h => h)
set_option maxHeartbeats 4000000 in
set_option maxRecDepth 100000 in
theorem no_X5_undo (l : Launch) {g : zG} {κ : zKp} {μ : zMu} {ω : zOm} {a b : Nat → Int32} (h1 : a 1 = 0) : zM l g yX5_undo cX5_undo 1 (some .int) 2 0 [.ref (gA g 10 0 0)] κ (zN μ a b) ω κ (zN μ (upd a 2 1) b) ω (some (.int 0)) := by
  refine zM_of (by decide) (Nat.le_of_ble_eq_true rfl) (fun p e R s m args below meth c hX => ?_)
  show zZ p l e R s m args below meth c g 1 _ _ _ _ 0 0 [(0, .ref (gA g 10 0 0))] []
  refine z_aload_n hX dX5_undo_0 0 rfl ?_
  refine z_aload_n hX dX5_undo_1 0 rfl ?_
  refine zg_X5_pastMany hX   fl_RX5_51 dX5_undo_2 ?_
  refine z_if_ne (tgt := 12) hX dX5_undo_5 (by decide) (fun h5 => absurd h5 (Classical.not_not.mpr h1)) (fun h5 => ?_)
  refine z_iconst (v := 1) hX dX5_undo_8 (by decide) ?_
  refine z_goto (tgt := 13) hX dX5_undo_9 (by decide) ?_
  refine zp_X5_thrown hX   fl_RX5_42 dX5_undo_13 ?_
  refine z_aload_n hX dX5_undo_16 0 rfl ?_
  refine zg_X5_thrown hX   fl_RX5_42 dX5_undo_17 ?_
  refine z_isv (show _ = (1 : Int32) from rfl) ?_
  refine z_if_le (tgt := 25) hX dX5_undo_20 (by decide) (fun h20 => absurd h20 (by decide)) (fun h20 => ?_)
  refine z_iconst (v := 0) hX dX5_undo_23 (by decide) ?_
  exact z_iretI hX dX5_undo_24 (by decide) rfl (fun _ h => h)
set_option maxHeartbeats 4000000 in
set_option maxRecDepth 100000 in
theorem ok_X5_undo (l : Launch) {g : zG} {κ : zKp} {μ : zMu} {ω : zOm} {a b : Nat → Int32} {k0 : Nat} (hk : k0 < 8) (h1 : a 1 = nI (k0 + 1)) : zM l g yX5_undo cX5_undo 1 (some .int) 2 0 [.ref (gA g 10 0 0)] κ (zN μ a b) ω κ (zN μ (upd (upd a 2 0) 1 (nI k0)) (μ (10 + k0))) ω (some (.int (nI k0))) := by
  refine zM_of (by decide) (Nat.le_of_ble_eq_true rfl) (fun p e R s m args below meth c hX => ?_)
  show zZ p l e R s m args below meth c g 1 _ _ _ _ 0 0 [(0, .ref (gA g 10 0 0))] []
  refine z_aload_n hX dX5_undo_0 0 rfl ?_
  refine z_aload_n hX dX5_undo_1 0 rfl ?_
  refine zg_X5_pastMany hX   fl_RX5_51 dX5_undo_2 ?_
  refine z_if_ne (tgt := 12) hX dX5_undo_5 (by decide) (fun h5 => ?_) (fun h5 => absurd h5 (by rw [h1]; exact ne_0 (by omega)))
  refine z_iconst (v := 0) hX dX5_undo_12 (by decide) ?_
  refine zp_X5_thrown hX   fl_RX5_42 dX5_undo_13 ?_
  refine z_aload_n hX dX5_undo_16 0 rfl ?_
  refine zg_X5_thrown hX   fl_RX5_42 dX5_undo_17 ?_
  refine z_isv (show _ = (0 : Int32) from rfl) ?_
  refine z_if_le (tgt := 25) hX dX5_undo_20 (by decide) (fun h20 => ?_) (fun h20 => absurd h20 (by decide))
  refine z_aload_n hX dX5_undo_25 0 rfl ?_
  refine z_dup hX dX5_undo_26 rfl ?_
  refine zg_X5_pastMany hX   fl_RX5_51 dX5_undo_27 ?_
  refine z_iconst (v := 1) hX dX5_undo_30 (by decide) ?_
  refine z_isub hX dX5_undo_31 ?_
  refine z_isv (show a 1 - 1 = nI k0 by rw [h1, show (1 : Int32) = nI 1 from rfl, pk_sub (by omega)]; rfl) ?_
  refine zp_X5_pastMany hX   fl_RX5_51 dX5_undo_32 ?_
  refine z_aload_n hX dX5_undo_35 0 rfl ?_
  refine zg_X5_past hX   fl_RX5_22 dX5_undo_36 ?_
  refine z_bipush (v := 113) hX dX5_undo_39 (by decide) ?_
  refine z_aload_n hX dX5_undo_41 0 rfl ?_
  refine zg_X5_pastMany hX   fl_RX5_51 dX5_undo_42 ?_
  refine z_imul hX dX5_undo_45 ?_
  refine z_isv (show (113 : Int32) * nI k0 = nI (113 * k0) by rw [show (113 : Int32) = nI 113 from rfl, pk_mul]) ?_
  refine z_aload_n hX dX5_undo_46 0 rfl ?_
  refine zg_X5_s hX   fl_RX5_9 dX5_undo_47 ?_
  refine z_iconst (v := 0) hX dX5_undo_50 (by decide) ?_
  refine z_bipush (v := 113) hX dX5_undo_51 (by decide) ?_
  refine zc_get (k0 := k0) hX hk rfl dX5_undo_53 (by decide) (Nat.le_of_ble_eq_true rfl) ?_
  refine z_aload_n hX dX5_undo_56 0 rfl ?_
  refine zg_X5_pastMany hX   fl_RX5_51 dX5_undo_57 ?_
  exact z_iretI hX dX5_undo_60 (by decide) rfl (fun _ h => h)
set_option maxHeartbeats 4000000 in
set_option maxRecDepth 100000 in
theorem ok_X5_save (l : Launch) {g : zG} {κ : zKp} {μ : zMu} {ω : zOm} {a b : Nat → Int32}  : zM l g yX5_save cX5_save 1 (some .int) 2 0 [.ref (gA g 10 0 0)] κ (zN μ a b) ω κ (zN (zRm μ 4 b) (upd (upd a 2 0) 0 1) b) ω (some (.int (b 0))) := by
  refine zM_of (by decide) (Nat.le_of_ble_eq_true rfl) (fun p e R s m args below meth c hX => ?_)
  show zZ p l e R s m args below meth c g 1 _ _ _ _ 0 0 [(0, .ref (gA g 10 0 0))] []
  refine z_aload_n hX dX5_save_0 0 rfl ?_
  refine z_iconst (v := 0) hX dX5_save_1 (by decide) ?_
  refine zp_X5_thrown hX   fl_RX5_42 dX5_save_2 ?_
  refine z_aload_n hX dX5_save_5 0 rfl ?_
  refine zg_X5_s hX   fl_RX5_9 dX5_save_6 ?_
  refine z_iconst (v := 0) hX dX5_save_9 (by decide) ?_
  refine z_aload_n hX dX5_save_10 0 rfl ?_
  refine zg_X5_saved hX   fl_RX5_19 dX5_save_11 ?_
  refine z_iconst (v := 0) hX dX5_save_14 (by decide) ?_
  refine z_bipush (v := 113) hX dX5_save_15 (by decide) ?_
  refine zc_to_saved hX dX5_save_17 (by decide) (Nat.le_of_ble_eq_true rfl) ?_
  refine z_aload_n hX dX5_save_20 0 rfl ?_
  refine z_iconst (v := 1) hX dX5_save_21 (by decide) ?_
  refine zp_X5_isSaved hX  rfl rfl fl_RX5_252 dX5_save_22 ?_
  refine z_aload_n hX dX5_save_25 0 rfl ?_
  refine zg_X5_s hX   fl_RX5_9 dX5_save_26 ?_
  refine z_iconst (v := 0) hX dX5_save_29 (by decide) ?_
  refine za_s hX  (show (0 : Int32) = nI 0 from rfl) (by decide) dX5_save_30 ?_
  exact z_iretI hX dX5_save_31 (by decide) rfl (fun _ h => h)
set_option maxHeartbeats 4000000 in
set_option maxRecDepth 100000 in
theorem ok_X5_restore (l : Launch) {g : zG} {κ : zKp} {μ : zMu} {ω : zOm} {a b : Nat → Int32} (h0 : a 0 = 1) : zM l g yX5_restore cX5_restore 1 (some .int) 2 0 [.ref (gA g 10 0 0)] κ (zN μ a b) ω κ (zN μ (upd (upd a 2 0) 1 0) (μ 4)) ω (some (.int (μ 4 0))) := by
  refine zM_of (by decide) (Nat.le_of_ble_eq_true rfl) (fun p e R s m args below meth c hX => ?_)
  show zZ p l e R s m args below meth c g 1 _ _ _ _ 0 0 [(0, .ref (gA g 10 0 0))] []
  refine z_aload_n hX dX5_restore_0 0 rfl ?_
  refine z_aload_n hX dX5_restore_1 0 rfl ?_
  refine zg_X5_isSaved hX   fl_RX5_252 dX5_restore_2 ?_
  refine z_if_eq (tgt := 12) hX dX5_restore_5 (by decide) (fun h5 => absurd h5 (by rw [h0]; decide)) (fun h5 => ?_)
  refine z_iconst (v := 0) hX dX5_restore_8 (by decide) ?_
  refine z_goto (tgt := 13) hX dX5_restore_9 (by decide) ?_
  refine zp_X5_thrown hX   fl_RX5_42 dX5_restore_13 ?_
  refine z_aload_n hX dX5_restore_16 0 rfl ?_
  refine zg_X5_thrown hX   fl_RX5_42 dX5_restore_17 ?_
  refine z_isv (show _ = (0 : Int32) from rfl) ?_
  refine z_if_le (tgt := 25) hX dX5_restore_20 (by decide) (fun h20 => ?_) (fun h20 => absurd h20 (by decide))
  refine z_aload_n hX dX5_restore_25 0 rfl ?_
  refine zg_X5_saved hX   fl_RX5_19 dX5_restore_26 ?_
  refine z_iconst (v := 0) hX dX5_restore_29 (by decide) ?_
  refine z_aload_n hX dX5_restore_30 0 rfl ?_
  refine zg_X5_s hX   fl_RX5_9 dX5_restore_31 ?_
  refine z_iconst (v := 0) hX dX5_restore_34 (by decide) ?_
  refine z_bipush (v := 113) hX dX5_restore_35 (by decide) ?_
  refine zc_of_saved hX dX5_restore_37 (by decide) (Nat.le_of_ble_eq_true rfl) ?_
  refine z_aload_n hX dX5_restore_40 0 rfl ?_
  refine z_iconst (v := 0) hX dX5_restore_41 (by decide) ?_
  refine zp_X5_pastMany hX   fl_RX5_51 dX5_restore_42 ?_
  refine z_aload_n hX dX5_restore_45 0 rfl ?_
  refine zg_X5_s hX   fl_RX5_9 dX5_restore_46 ?_
  refine z_iconst (v := 0) hX dX5_restore_49 (by decide) ?_
  refine za_s hX  (show (0 : Int32) = nI 0 from rfl) (by decide) dX5_restore_50 ?_
  exact z_iretI hX dX5_restore_51 (by decide) rfl (fun _ h => h)
set_option maxHeartbeats 4000000 in
set_option maxRecDepth 100000 in
theorem no_X5_restore (l : Launch) {g : zG} {κ : zKp} {μ : zMu} {ω : zOm} {a b : Nat → Int32} (h0 : a 0 = 0) : zM l g yX5_restore cX5_restore 1 (some .int) 2 0 [.ref (gA g 10 0 0)] κ (zN μ a b) ω κ (zN μ (upd a 2 1) b) ω (some (.int 0)) := by
  refine zM_of (by decide) (Nat.le_of_ble_eq_true rfl) (fun p e R s m args below meth c hX => ?_)
  show zZ p l e R s m args below meth c g 1 _ _ _ _ 0 0 [(0, .ref (gA g 10 0 0))] []
  refine z_aload_n hX dX5_restore_0 0 rfl ?_
  refine z_aload_n hX dX5_restore_1 0 rfl ?_
  refine zg_X5_isSaved hX   fl_RX5_252 dX5_restore_2 ?_
  refine z_if_eq (tgt := 12) hX dX5_restore_5 (by decide) (fun h5 => ?_) (fun h5 => absurd h5 (Classical.not_not.mpr h0))
  refine z_iconst (v := 1) hX dX5_restore_12 (by decide) ?_
  refine zp_X5_thrown hX   fl_RX5_42 dX5_restore_13 ?_
  refine z_aload_n hX dX5_restore_16 0 rfl ?_
  refine zg_X5_thrown hX   fl_RX5_42 dX5_restore_17 ?_
  refine z_isv (show _ = (1 : Int32) from rfl) ?_
  refine z_if_le (tgt := 25) hX dX5_restore_20 (by decide) (fun h20 => absurd h20 (by decide)) (fun h20 => ?_)
  refine z_iconst (v := 0) hX dX5_restore_23 (by decide) ?_
  exact z_iretI hX dX5_restore_24 (by decide) rfl (fun _ h => h)
theorem batI_it {g : zB} (h : batI g) : ∀ k, batI (itB g k)
  | 0 => h
  | k + 1 => batI_pass (batI_it h k)
set_option maxHeartbeats 4000000 in
set_option maxRecDepth 100000 in
theorem no_X5_turnsUntilFight (l : Launch) {g : zG} {κ : zKp} {μ : zMu} {ω : zOm} {a b : Nat → Int32} (hI : batI b) (hz : ∀ j, j < 20 → fiB b j = 0) : zM l g yX5_turnsUntilFight cX5_turnsUntilFight 3 (some .int) 8 0 [.ref (gA g 10 0 0)] κ (zN μ a b) ω κ (zN (zRm μ 3 b) (upd a 2 1) b) ω (some (.int 0)) := by
  refine zM_of (by decide) (Nat.le_of_ble_eq_true rfl) (fun p e R s m args below meth c hX => ?_)
  show zZ p l e R s m args below meth c g 3 _ _ _ _ 0 0 [(0, .ref (gA g 10 0 0))] []
  refine z_aload_n hX dX5_turnsUntilFight_0 0 rfl ?_
  refine zg_X5_s hX   fl_RX5_9 dX5_turnsUntilFight_1 ?_
  refine z_iconst (v := 0) hX dX5_turnsUntilFight_4 (by decide) ?_
  refine z_aload_n hX dX5_turnsUntilFight_5 0 rfl ?_
  refine zg_X5_aside hX   fl_RX5_16 dX5_turnsUntilFight_6 ?_
  refine z_iconst (v := 0) hX dX5_turnsUntilFight_9 (by decide) ?_
  refine z_bipush (v := 113) hX dX5_turnsUntilFight_10 (by decide) ?_
  refine zc_to_aside hX dX5_turnsUntilFight_12 (by decide) (Nat.le_of_ble_eq_true rfl) ?_
  refine z_iconst (v := 0) hX dX5_turnsUntilFight_15 (by decide) ?_
  refine z_istore_n (lv' := [(1, _), (0, _)]) hX dX5_turnsUntilFight_16 (by decide) rfl ?_
  refine z_iconst (v := 0) hX dX5_turnsUntilFight_17 (by decide) ?_
  refine z_istore_n (lv' := [(2, _), (1, _), (0, _)]) hX dX5_turnsUntilFight_18 (by decide) rfl ?_
  have hL : ∀ (dz : Nat) (t : Nat) (sv : Int32), 20 - t = dz → t ≤ 20 → sv = 0 → zZ p l e R s m args below meth c g 3 (zQ g κ (zN (zRm μ 3 b) (upd a 2 1) b) ω (some (.int 0)) below args s 0) κ (zN (zRm μ 3 b) a (itB b t)) ω 0 19 [(0, .ref (gA g 10 0 0)), (1, .int (nI t)), (2, .int sv)] [] := by
    intro dz
    induction dz with
    | zero =>
      intro t sv hd ht hs
      have hkn : t = 20 := by omega
      refine z_iload_n hX dX5_turnsUntilFight_19 1 rfl ?_
      refine z_bipush (v := 20) hX dX5_turnsUntilFight_20 (by decide) ?_
      refine z_icmp_ge (tgt := 40) hX dX5_turnsUntilFight_22 (by decide) (fun h22 => ?_) (fun h22 => absurd h22 (Classical.not_not.mpr (le_i (a := 20) (b := t) (by omega) (by omega))))
      refine z_aload_n hX dX5_turnsUntilFight_40 0 rfl ?_
      refine zg_X5_aside hX   fl_RX5_16 dX5_turnsUntilFight_41 ?_
      refine z_iconst (v := 0) hX dX5_turnsUntilFight_44 (by decide) ?_
      refine z_aload_n hX dX5_turnsUntilFight_45 0 rfl ?_
      refine zg_X5_s hX   fl_RX5_9 dX5_turnsUntilFight_46 ?_
      refine z_iconst (v := 0) hX dX5_turnsUntilFight_49 (by decide) ?_
      refine z_bipush (v := 113) hX dX5_turnsUntilFight_50 (by decide) ?_
      refine zc_of_aside hX dX5_turnsUntilFight_52 (by decide) (Nat.le_of_ble_eq_true rfl) ?_
      refine z_aload_n hX dX5_turnsUntilFight_55 0 rfl ?_
      refine z_iload_n hX dX5_turnsUntilFight_56 2 rfl ?_
      refine z_if_le (tgt := 64) hX dX5_turnsUntilFight_57 (by decide) (fun h57 => ?_) (fun h57 => absurd h57 (by rw [hs]; decide))
      refine z_iconst (v := 0) hX dX5_turnsUntilFight_64 (by decide) ?_
      refine z_callV1 hX (ok_there0 l) cv_RX5_169 zRc10 dX5_turnsUntilFight_65 (by decide) rfl rfl (Nat.le_of_ble_eq_true rfl) ?_
      refine z_if_eq (tgt := 75) hX dX5_turnsUntilFight_68 (by decide) (fun h68 => ?_) (fun h68 => absurd h68 (by decide))
      refine z_iconst (v := 0) hX dX5_turnsUntilFight_75 (by decide) ?_
      exact z_iretI hX dX5_turnsUntilFight_76 (by decide) rfl (fun _ h => by rw [zRm_s] at h; exact h)
    | succ dz ih =>
      intro t sv hd ht hs
      have hkn : t < 20 := by omega
      refine z_iload_n hX dX5_turnsUntilFight_19 1 rfl ?_
      refine z_bipush (v := 20) hX dX5_turnsUntilFight_20 (by decide) ?_
      refine z_icmp_ge (tgt := 40) hX dX5_turnsUntilFight_22 (by decide) (fun h22 => absurd h22 (nle_i (a := t) (b := 20) hkn (by decide))) (fun h22 => ?_)
      refine z_iload_n hX dX5_turnsUntilFight_25 2 rfl ?_
      refine z_if_ne (tgt := 40) hX dX5_turnsUntilFight_26 (by decide) (fun h26 => absurd h26 (by rw [hs]; decide)) (fun h26 => ?_)
      refine z_aload_n hX dX5_turnsUntilFight_29 0 rfl ?_
      refine z_callV1 hX (ok_X5_passes l (batI_it hI t)) cv_RX5_165 zRc10 dX5_turnsUntilFight_30 (by decide) rfl rfl (Nat.le_of_ble_eq_true rfl) ?_
      refine z_istore_n (lv' := [(2, _), (0, _), (1, _)]) hX dX5_turnsUntilFight_33 (by decide) rfl ?_
      refine z_iinc (v := nI (t + 1)) (lv' := [(1, _), (2, _), (0, _)]) hX dX5_turnsUntilFight_34 2 rfl (nI_1 t) (by decide) rfl ?_
      refine z_goto (tgt := 19) hX dX5_turnsUntilFight_37 (by decide) ?_
      refine z_sub [2, 0, 1] rfl ?_
      exact ih (t + 1) _ (by omega) hkn (hz t hkn)
  refine z_sub [2, 1, 0] rfl ?_
  exact hL (20) 0 0 (Nat.sub_zero _) (Nat.zero_le _) rfl
set_option maxHeartbeats 4000000 in
set_option maxRecDepth 100000 in
theorem ok_X5_turnsUntilFight (l : Launch) {g : zG} {κ : zKp} {μ : zMu} {ω : zOm} {a b : Nat → Int32} (hI : batI b) {k : Nat} (hk : k < 20) (hz : ∀ j, j < k → fiB b j = 0) (hp : 0 < fiB b k) : zM l g yX5_turnsUntilFight cX5_turnsUntilFight 3 (some .int) 8 0 [.ref (gA g 10 0 0)] κ (zN μ a b) ω κ (zN (zRm μ 3 b) (upd a 2 0) b) ω (some (.int (nI (k + 1)))) := by
  refine zM_of (by decide) (Nat.le_of_ble_eq_true rfl) (fun p e R s m args below meth c hX => ?_)
  show zZ p l e R s m args below meth c g 3 _ _ _ _ 0 0 [(0, .ref (gA g 10 0 0))] []
  refine z_aload_n hX dX5_turnsUntilFight_0 0 rfl ?_
  refine zg_X5_s hX   fl_RX5_9 dX5_turnsUntilFight_1 ?_
  refine z_iconst (v := 0) hX dX5_turnsUntilFight_4 (by decide) ?_
  refine z_aload_n hX dX5_turnsUntilFight_5 0 rfl ?_
  refine zg_X5_aside hX   fl_RX5_16 dX5_turnsUntilFight_6 ?_
  refine z_iconst (v := 0) hX dX5_turnsUntilFight_9 (by decide) ?_
  refine z_bipush (v := 113) hX dX5_turnsUntilFight_10 (by decide) ?_
  refine zc_to_aside hX dX5_turnsUntilFight_12 (by decide) (Nat.le_of_ble_eq_true rfl) ?_
  refine z_iconst (v := 0) hX dX5_turnsUntilFight_15 (by decide) ?_
  refine z_istore_n (lv' := [(1, _), (0, _)]) hX dX5_turnsUntilFight_16 (by decide) rfl ?_
  refine z_iconst (v := 0) hX dX5_turnsUntilFight_17 (by decide) ?_
  refine z_istore_n (lv' := [(2, _), (1, _), (0, _)]) hX dX5_turnsUntilFight_18 (by decide) rfl ?_
  have hL : ∀ (dz : Nat) (t : Nat) (sv : Int32), k + 1 - t = dz → t ≤ k + 1 → sv = (if t = k + 1 then fiB b k else 0) → zZ p l e R s m args below meth c g 3 (zQ g κ (zN (zRm μ 3 b) (upd a 2 0) b) ω (some (.int (nI (k + 1)))) below args s 0) κ (zN (zRm μ 3 b) a (itB b t)) ω 0 19 [(0, .ref (gA g 10 0 0)), (1, .int (nI t)), (2, .int sv)] [] := by
    intro dz
    induction dz with
    | zero =>
      intro t sv hd ht hs
      have hkn : t = k + 1 := by omega
      refine z_iload_n hX dX5_turnsUntilFight_19 1 rfl ?_
      refine z_bipush (v := 20) hX dX5_turnsUntilFight_20 (by decide) ?_
      refine z_icmp_ge (tgt := 40) hX dX5_turnsUntilFight_22 (by decide) (fun h22 => ?_) (fun h22 => ?_)
      · skip
        refine z_aload_n hX dX5_turnsUntilFight_40 0 rfl ?_
        refine zg_X5_aside hX   fl_RX5_16 dX5_turnsUntilFight_41 ?_
        refine z_iconst (v := 0) hX dX5_turnsUntilFight_44 (by decide) ?_
        refine z_aload_n hX dX5_turnsUntilFight_45 0 rfl ?_
        refine zg_X5_s hX   fl_RX5_9 dX5_turnsUntilFight_46 ?_
        refine z_iconst (v := 0) hX dX5_turnsUntilFight_49 (by decide) ?_
        refine z_bipush (v := 113) hX dX5_turnsUntilFight_50 (by decide) ?_
        refine zc_of_aside hX dX5_turnsUntilFight_52 (by decide) (Nat.le_of_ble_eq_true rfl) ?_
        refine z_aload_n hX dX5_turnsUntilFight_55 0 rfl ?_
        refine z_iload_n hX dX5_turnsUntilFight_56 2 rfl ?_
        refine z_if_le (tgt := 64) hX dX5_turnsUntilFight_57 (by decide) (fun h57 => absurd h57 (by rw [hs, if_pos hkn]; exact Int32.not_le.mpr hp)) (fun h57 => ?_)
        refine z_iconst (v := 1) hX dX5_turnsUntilFight_60 (by decide) ?_
        refine z_goto (tgt := 65) hX dX5_turnsUntilFight_61 (by decide) ?_
        refine z_callV1 hX (ok_there1 l) cv_RX5_169 zRc10 dX5_turnsUntilFight_65 (by decide) rfl rfl (Nat.le_of_ble_eq_true rfl) ?_
        refine z_if_eq (tgt := 75) hX dX5_turnsUntilFight_68 (by decide) (fun h68 => absurd h68 (by decide)) (fun h68 => ?_)
        refine z_iload_n hX dX5_turnsUntilFight_71 1 rfl ?_
        refine z_goto (tgt := 76) hX dX5_turnsUntilFight_72 (by decide) ?_
        exact z_iretI hX dX5_turnsUntilFight_76 (by decide) (by rw [hkn]) (fun _ h => by rw [zRm_s] at h; exact h)
      · skip
        refine z_iload_n hX dX5_turnsUntilFight_25 2 rfl ?_
        refine z_if_ne (tgt := 40) hX dX5_turnsUntilFight_26 (by decide) (fun h26 => ?_) (fun h26 => absurd h26 (by rw [hs, if_pos hkn]; exact fun q => absurd hp (by rw [q]; decide)))
        refine z_aload_n hX dX5_turnsUntilFight_40 0 rfl ?_
        refine zg_X5_aside hX   fl_RX5_16 dX5_turnsUntilFight_41 ?_
        refine z_iconst (v := 0) hX dX5_turnsUntilFight_44 (by decide) ?_
        refine z_aload_n hX dX5_turnsUntilFight_45 0 rfl ?_
        refine zg_X5_s hX   fl_RX5_9 dX5_turnsUntilFight_46 ?_
        refine z_iconst (v := 0) hX dX5_turnsUntilFight_49 (by decide) ?_
        refine z_bipush (v := 113) hX dX5_turnsUntilFight_50 (by decide) ?_
        refine zc_of_aside hX dX5_turnsUntilFight_52 (by decide) (Nat.le_of_ble_eq_true rfl) ?_
        refine z_aload_n hX dX5_turnsUntilFight_55 0 rfl ?_
        refine z_iload_n hX dX5_turnsUntilFight_56 2 rfl ?_
        refine z_if_le (tgt := 64) hX dX5_turnsUntilFight_57 (by decide) (fun h57 => absurd h57 (by rw [hs, if_pos hkn]; exact Int32.not_le.mpr hp)) (fun h57 => ?_)
        refine z_iconst (v := 1) hX dX5_turnsUntilFight_60 (by decide) ?_
        refine z_goto (tgt := 65) hX dX5_turnsUntilFight_61 (by decide) ?_
        refine z_callV1 hX (ok_there1 l) cv_RX5_169 zRc10 dX5_turnsUntilFight_65 (by decide) rfl rfl (Nat.le_of_ble_eq_true rfl) ?_
        refine z_if_eq (tgt := 75) hX dX5_turnsUntilFight_68 (by decide) (fun h68 => absurd h68 (by decide)) (fun h68 => ?_)
        refine z_iload_n hX dX5_turnsUntilFight_71 1 rfl ?_
        refine z_goto (tgt := 76) hX dX5_turnsUntilFight_72 (by decide) ?_
        exact z_iretI hX dX5_turnsUntilFight_76 (by decide) (by rw [hkn]) (fun _ h => by rw [zRm_s] at h; exact h)
    | succ dz ih =>
      intro t sv hd ht hs
      have hkn : t < k + 1 := by omega
      refine z_iload_n hX dX5_turnsUntilFight_19 1 rfl ?_
      refine z_bipush (v := 20) hX dX5_turnsUntilFight_20 (by decide) ?_
      refine z_icmp_ge (tgt := 40) hX dX5_turnsUntilFight_22 (by decide) (fun h22 => absurd h22 (nle_i (a := t) (b := 20) (by omega) (by decide))) (fun h22 => ?_)
      refine z_iload_n hX dX5_turnsUntilFight_25 2 rfl ?_
      refine z_if_ne (tgt := 40) hX dX5_turnsUntilFight_26 (by decide) (fun h26 => absurd h26 (by rw [hs, if_neg (by omega)]; exact fun q => q rfl)) (fun h26 => ?_)
      refine z_aload_n hX dX5_turnsUntilFight_29 0 rfl ?_
      refine z_callV1 hX (ok_X5_passes l (batI_it hI t)) cv_RX5_165 zRc10 dX5_turnsUntilFight_30 (by decide) rfl rfl (Nat.le_of_ble_eq_true rfl) ?_
      refine z_istore_n (lv' := [(2, _), (0, _), (1, _)]) hX dX5_turnsUntilFight_33 (by decide) rfl ?_
      refine z_iinc (v := nI (t + 1)) (lv' := [(1, _), (2, _), (0, _)]) hX dX5_turnsUntilFight_34 2 rfl (nI_1 t) (by decide) rfl ?_
      refine z_goto (tgt := 19) hX dX5_turnsUntilFight_37 (by decide) ?_
      refine z_sub [2, 0, 1] rfl ?_
      exact ih (t + 1) _ (by omega) hkn (by rcases Nat.lt_or_ge t k with q | q; (rw [if_neg (by omega)]; exact hz t q); (rw [if_pos (by omega), show t = k by omega]; rfl))
  refine z_sub [2, 1, 0] rfl ?_
  exact hL (k + 1) 0 0 (Nat.sub_zero _) (Nat.zero_le _) (if_neg (by omega)).symm
end ZM4
