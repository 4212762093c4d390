section ZHI
/-- the history's newest place and its depth -/
def zHi (κ : zKp) (x y : Int32) : zKp := zRow κ 4 0 (upd (upd (κ 4 0) 0 x) 1 y)
theorem zRow_s {κ : zKp} {t f : Nat} {r : Nat → Int32} : zRow κ t f r t f = r := if_pos ⟨rfl, rfl⟩
theorem zRow_o {κ : zKp} {t f t' f' : Nat} {r : Nat → Int32} (h : ¬ (t' = t ∧ f' = f)) : zRow κ t f r t' f' = κ t' f' := if_neg h
theorem zRow_2 {κ : zKp} {t f : Nat} {r r' : Nat → Int32} : zRow (zRow κ t f r) t f r' = zRow κ t f r' := by
  funext t' f'
  unfold zRow
  by_cases h : t' = t ∧ f' = f
  · rw [if_pos h, if_pos h]
  · rw [if_neg h, if_neg h, if_neg h]
theorem zHi_of {κ : zKp} {x y : Int32} : zRow (zRow κ 4 0 (upd (κ 4 0) 0 x)) 4 0 (upd (zRow κ 4 0 (upd (κ 4 0) 0 x) 4 0) 1 y) = zHi κ x y := by rw [zRow_2, zRow_s]; rfl
theorem zHi_6 {κ : zKp} {x y : Int32} {t f : Nat} (h : ¬ t = 4) : zHi κ x y t f = κ t f := zRow_o (fun q => h q.1)
theorem zL_Hi {κ : zKp} {x y : Int32} {f i w : Nat} : zL (zHi κ x y) f i w = zL κ f i w := by
  unfold zL
  rw [zHi_6 (by decide), zHi_6 (by decide)]
theorem nxt8 : ∀ k, k < 8 → (nI k + 1) - (nI k + 1) / 8 * 8 = nI ((k + 1) % 8) := by decide +kernel
theorem prv8 : ∀ k, k < 8 → (nI k + 8 - 1) - (nI k + 8 - 1) / 8 * 8 = nI ((k + 7) % 8) := by decide +kernel
theorem dep8 : ∀ d, d ≤ 8 → (if nI d + 1 < 8 then nI d + 1 else 8) = nI (mor d) := by
  have h : ∀ d, d < 9 → (if nI d + 1 < 8 then nI d + 1 else 8) = nI (mor d) := by decide +kernel
  exact fun d hd => h d (by omega)
theorem dec8 : ∀ d, d < 8 → nI (d + 1) - 1 = nI d := by decide +kernel
set_option maxHeartbeats 4000000 in
set_option maxRecDepth 100000 in
theorem ok_X2_newestState (l : Launch) {g : zG} {κ : zKp} {μ : zMu} {ω : zOm} {k0 : Nat} (hk : k0 < 8) (hw : κ 4 0 0 = nI k0)  : zM l g yX2_newestState cX2_newestState 1 (some (.object "LineBattle$Field")) 1 0 [.ref (gA g 4 0 0)] κ μ ω κ μ ω (some (.ref (gA g 6 (3 + k0) 0))) := by
  refine zM_of (by decide) (Nat.le_of_ble_eq_true rfl) (fun p e R s m args below meth c hX => ?_)
  show zZ p l e R s m args below meth c g 1 _ _ _ _ 0 0 [(0, .ref (gA g 4 0 0))] []
  refine z_aload_n hX dX2_newestState_0 0 rfl ?_
  refine zg_X2_newest hX   fl_RX2_17 dX2_newestState_1 ?_
  refine z_isv hw ?_
  refine z_if_lt (tgt := 19) hX dX2_newestState_4 (by decide) (fun h4 => absurd h4 (nn_i (by omega))) (fun h4 => ?_)
  refine z_aload_n hX dX2_newestState_7 0 rfl ?_
  refine zg_X2_newest hX   fl_RX2_17 dX2_newestState_8 ?_
  refine z_isv hw ?_
  refine z_aload_n hX dX2_newestState_11 0 rfl ?_
  refine zg_X2_states hX   fl_RX2_11 dX2_newestState_12 ?_
  refine zl_states hX  dX2_newestState_15 ?_
  refine z_icmp_lt (tgt := 23) hX dX2_newestState_16 (by decide) (fun h16 => ?_) (fun h16 => absurd h16 (Classical.not_not.mpr (lt_i (a := k0) (b := 8) hk (by decide))))
  refine z_aload_n hX dX2_newestState_23 0 rfl ?_
  refine zg_X2_states hX   fl_RX2_11 dX2_newestState_24 ?_
  refine z_aload_n hX dX2_newestState_27 0 rfl ?_
  refine zg_X2_newest hX   fl_RX2_17 dX2_newestState_28 ?_
  refine z_isv hw ?_
  refine za_states hX  rfl hk dX2_newestState_31 ?_
  exact z_aret hX dX2_newestState_32 (by decide) (Or.inr ⟨_, rfl⟩) rfl (fun _ h => h)
set_option maxHeartbeats 4000000 in
set_option maxRecDepth 100000 in
theorem ok_X2_keep (l : Launch) {g : zG} {κ : zKp} {μ : zMu} {ω : zOm} {f2 d : Nat} (hf2 : f2 < 3) {k0 : Nat} (hk : k0 < 8) (hw : κ 4 0 0 = nI k0) (hd : κ 4 0 1 = nI d) (hd8 : d ≤ 8) (hch : ∀ i, i < 12 → chW (zL κ f2 i 3) ∧ chW (zL κ f2 i 6))  : zM l g yX2_keep cX2_keep 3 none 3 0 [.ref (gA g 4 0 0), .ref (gA g 6 f2 0)] κ μ ω (zCp (zHi κ (nI ((k0 + 1) % 8)) (nI (mor d))) (3 + ((k0 + 1) % 8)) f2) μ ω none := by
  have hk1 : (k0 + 1) % 8 < 8 := Nat.mod_lt _ (by decide)
  refine zM_of (by decide) (Nat.le_of_ble_eq_true rfl) (fun p e R s m args below meth c hX => ?_)
  show zZ p l e R s m args below meth c g 3 _ _ _ _ 0 0 [(0, .ref (gA g 4 0 0)), (1, .ref (gA g 6 f2 0))] []
  refine z_aload_n hX dX2_keep_0 0 rfl ?_
  refine z_aload_n hX dX2_keep_1 0 rfl ?_
  refine zg_X2_newest hX   fl_RX2_17 dX2_keep_2 ?_
  refine z_iconst (v := 1) hX dX2_keep_5 (by decide) ?_
  refine z_iadd hX dX2_keep_6 ?_
  refine z_bipush (v := 8) hX dX2_keep_7 (by decide) ?_
  refine z_irem hX dX2_keep_9 (by decide) ?_
  refine z_isv (show (κ 4 0 0 + 1) - (κ 4 0 0 + 1) / 8 * 8 = nI ((k0 + 1) % 8) by rw [hw]; exact nxt8 k0 hk) ?_
  refine zp_X2_newest hX   fl_RX2_17 dX2_keep_10 ?_
  refine z_aload_n hX dX2_keep_13 0 rfl ?_
  refine z_bipush (v := 8) hX dX2_keep_14 (by decide) ?_
  refine z_aload_n hX dX2_keep_16 0 rfl ?_
  refine zg_X2_depth hX   fl_RX2_21 dX2_keep_17 ?_
  refine z_iconst (v := 1) hX dX2_keep_20 (by decide) ?_
  refine z_iadd hX dX2_keep_21 ?_
  refine z_min hX ml_RX2_25 dX2_keep_22 (by decide) (Nat.le_of_ble_eq_true rfl) ?_
  refine z_isv (show (if κ 4 0 1 + 1 < 8 then κ 4 0 1 + 1 else 8) = nI (mor d) by rw [hd]; exact dep8 d hd8) ?_
  refine zp_X2_depth hX   fl_RX2_21 dX2_keep_25 ?_
  refine z_world (κ' := zHi κ (nI ((k0 + 1) % 8)) (nI (mor d))) (fun _ h => by rw [zHi_of] at h; exact h) ?_
  refine z_aload_n hX dX2_keep_28 0 rfl ?_
  refine z_callV1 hX (ok_X2_newestState l (k0 := ((k0 + 1) % 8)) hk1 rfl) cv_RX2_31 zRc4 dX2_keep_29 (by decide) rfl rfl (Nat.le_of_ble_eq_true rfl) ?_
  refine z_astore_n (lv' := [(2, _), (0, _), (1, _)]) hX dX2_keep_32 (by decide) rfl ?_
  refine z_aload_n hX dX2_keep_33 0 rfl ?_
  refine z_ifnull hX dX2_keep_34 ?_
  refine z_aload_n hX dX2_keep_37 0 rfl ?_
  refine z_aload_n hX dX2_keep_38 2 rfl ?_
  refine z_callV0 hX (ok_X1_copyFrom l (by omega) (by omega) (by omega) (fun i hi => by rw [zL_Hi, zL_Hi]; exact hch i hi)) cv_RX2_35 (zRc6 (by omega)) dX2_keep_39 (by decide) rfl rfl (Nat.le_of_ble_eq_true rfl) ?_
  exact z_vret hX dX2_keep_42 (by decide) (fun _ h => h)
set_option maxHeartbeats 4000000 in
set_option maxRecDepth 100000 in
theorem no_takeBack (l : Launch) {g : zG} {κ : zKp} {μ : zMu} {ω : zOm} {k0 : Nat} (hk : k0 < 8) (hw : κ 4 0 0 = nI k0) (hd : κ 4 0 1 = 0) : zM l g yX2_takeBack cX2_takeBack 3 (some .boolean) 3 0 [.ref (gA g 4 0 0), .ref (gA g 6 0 0)] κ μ ω κ μ ω (some (.int 0)) := by
  refine zM_of (by decide) (Nat.le_of_ble_eq_true rfl) (fun p e R s m args below meth c hX => ?_)
  show zZ p l e R s m args below meth c g 3 _ _ _ _ 0 0 [(0, .ref (gA g 4 0 0)), (1, .ref (gA g 6 0 0))] []
  refine z_aload_n hX dX2_takeBack_0 0 rfl ?_
  refine z_callV1 hX (ok_X2_newestState l hk hw) cv_RX2_31 zRc4 dX2_takeBack_1 (by decide) rfl rfl (Nat.le_of_ble_eq_true rfl) ?_
  refine z_astore_n (lv' := [(2, _), (0, _), (1, _)]) hX dX2_takeBack_4 (by decide) rfl ?_
  refine z_aload_n hX dX2_takeBack_5 1 rfl ?_
  refine zg_X2_depth hX   fl_RX2_21 dX2_takeBack_6 ?_
  refine z_if_eq (tgt := 16) hX dX2_takeBack_9 (by decide) (fun h9 => ?_) (fun h9 => absurd h9 (Classical.not_not.mpr hd))
  refine z_iconst (v := 0) hX dX2_takeBack_16 (by decide) ?_
  exact z_iret hX dX2_takeBack_17 (by decide) rfl rfl (fun _ h => h)
set_option maxHeartbeats 4000000 in
set_option maxRecDepth 100000 in
theorem ok_X2_takeBack (l : Launch) {g : zG} {κ : zKp} {μ : zMu} {ω : zOm} {d : Nat} {k0 : Nat} (hk : k0 < 8) (hw : κ 4 0 0 = nI k0) (hd : κ 4 0 1 = nI (d + 1)) (hd8 : d < 8) (hch : ∀ i, i < 12 → chW (zL κ (3 + k0) i 3) ∧ chW (zL κ (3 + k0) i 6))  : zM l g yX2_takeBack cX2_takeBack 3 (some .boolean) 3 0 [.ref (gA g 4 0 0), .ref (gA g 6 0 0)] κ μ ω (zHi (zCp κ 0 (3 + k0)) (nI ((k0 + 7) % 8)) (nI d)) μ ω (some (.int 1)) := by
  refine zM_of (by decide) (Nat.le_of_ble_eq_true rfl) (fun p e R s m args below meth c hX => ?_)
  show zZ p l e R s m args below meth c g 3 _ _ _ _ 0 0 [(0, .ref (gA g 4 0 0)), (1, .ref (gA g 6 0 0))] []
  refine z_aload_n hX dX2_takeBack_0 0 rfl ?_
  refine z_callV1 hX (ok_X2_newestState l hk hw) cv_RX2_31 zRc4 dX2_takeBack_1 (by decide) rfl rfl (Nat.le_of_ble_eq_true rfl) ?_
  refine z_astore_n (lv' := [(2, _), (0, _), (1, _)]) hX dX2_takeBack_4 (by decide) rfl ?_
  refine z_aload_n hX dX2_takeBack_5 1 rfl ?_
  refine zg_X2_depth hX   fl_RX2_21 dX2_takeBack_6 ?_
  refine z_if_eq (tgt := 16) hX dX2_takeBack_9 (by decide) (fun h9 => absurd h9 (by rw [hd]; exact ne_0 (by omega))) (fun h9 => ?_)
  refine z_aload_n hX dX2_takeBack_12 0 rfl ?_
  refine z_ifnonnull (tgt := 18) hX dX2_takeBack_13 (by decide) ?_
  refine z_aload_n hX dX2_takeBack_18 2 rfl ?_
  refine z_aload_n hX dX2_takeBack_19 0 rfl ?_
  refine z_callV0 hX (ok_X1_copyFrom l z0lt (by omega) (by omega) hch) cv_RX2_35 (zRc6 z0lt) dX2_takeBack_20 (by decide) rfl rfl (Nat.le_of_ble_eq_true rfl) ?_
  refine z_aload_n hX dX2_takeBack_23 1 rfl ?_
  refine z_aload_n hX dX2_takeBack_24 1 rfl ?_
  refine zg_X2_newest hX   fl_RX2_17 dX2_takeBack_25 ?_
  refine z_bipush (v := 8) hX dX2_takeBack_28 (by decide) ?_
  refine z_iadd hX dX2_takeBack_30 ?_
  refine z_iconst (v := 1) hX dX2_takeBack_31 (by decide) ?_
  refine z_isub hX dX2_takeBack_32 ?_
  refine z_bipush (v := 8) hX dX2_takeBack_33 (by decide) ?_
  refine z_irem hX dX2_takeBack_35 (by decide) ?_
  refine z_isv (show (κ 4 0 0 + 8 - 1) - (κ 4 0 0 + 8 - 1) / 8 * 8 = nI ((k0 + 7) % 8) by rw [hw]; exact prv8 k0 hk) ?_
  refine zp_X2_newest hX   fl_RX2_17 dX2_takeBack_36 ?_
  refine z_aload_n hX dX2_takeBack_39 1 rfl ?_
  refine z_dup hX dX2_takeBack_40 rfl ?_
  refine zg_X2_depth hX   fl_RX2_21 dX2_takeBack_41 ?_
  refine z_iconst (v := 1) hX dX2_takeBack_44 (by decide) ?_
  refine z_isub hX dX2_takeBack_45 ?_
  refine z_isv (show κ 4 0 1 - 1 = nI d by rw [hd]; exact dec8 d hd8) ?_
  refine zp_X2_depth hX   fl_RX2_21 dX2_takeBack_46 ?_
  refine z_iconst (v := 1) hX dX2_takeBack_49 (by decide) ?_
  exact z_iret hX dX2_takeBack_50 (by decide) rfl rfl (fun _ h => by rw [zHi_of] at h; exact h)




set_option maxHeartbeats 4000000 in
set_option maxRecDepth 100000 in
theorem ok_X4_undo (l : Launch) {g : zG} {κ : zKp} {μ : zMu} {ω : zOm} {d : Nat} {k0 : Nat} (hk : k0 < 8) (hw : κ 4 0 0 = nI k0) (hd : κ 4 0 1 = nI (d + 1)) (hd8 : d < 8) (hch : ∀ i, i < 12 → chW (zL κ (3 + k0) i 3) ∧ chW (zL κ (3 + k0) i 6))  : zM l g yX4_undo cX4_undo 1 (some .int) 4 0 [.ref (gA g 0 0 0)] κ μ ω (zHi (zCp κ 0 (3 + k0)) (nI ((k0 + 7) % 8)) (nI d)) μ ω (some (.int (nI d))) := by
  refine zM_of (by decide) (Nat.le_of_ble_eq_true rfl) (fun p e R s m args below meth c hX => ?_)
  show zZ p l e R s m args below meth c g 1 _ _ _ _ 0 0 [(0, .ref (gA g 0 0 0))] []
  refine z_aload_n hX dX4_undo_0 0 rfl ?_
  refine zg_X4_history hX   fl_RX4_25 dX4_undo_1 ?_
  refine z_aload_n hX dX4_undo_4 0 rfl ?_
  refine zg_X4_field hX   fl_RX4_10 dX4_undo_5 ?_
  refine z_callV1 hX (ok_X2_takeBack l hk hw hd hd8 hch) cv_RX4_314 zRc4 dX4_undo_8 (by decide) rfl rfl (Nat.le_of_ble_eq_true rfl) ?_
  refine z_if_ne (tgt := 25) hX dX4_undo_11 (by decide) (fun h11 => ?_) (fun h11 => absurd h11 (by decide))
  refine z_aload_n hX dX4_undo_25 0 rfl ?_
  refine zg_X4_history hX   fl_RX4_25 dX4_undo_26 ?_
  refine zg_X2_depth hX   fl_RX4_320 dX4_undo_29 ?_
  exact z_iretI hX dX4_undo_32 (by decide) rfl (fun _ h => h)
set_option maxHeartbeats 4000000 in
set_option maxRecDepth 100000 in
theorem no_X4_undo (l : Launch) (hl0 : l.stackTraces = false) {g : zG} {κ : zKp} {μ : zMu} {ω : zOm} {k0 : Nat} (hk : k0 < 8) (hw : κ 4 0 0 = nI k0) (hd : κ 4 0 1 = 0) : zMx l g yX4_undo cX4_undo 1 (some .int) 6 1 [.ref (gA g 0 0 0)] κ μ ω κ μ ω (.error xISE) := by
  refine zMx_of (by decide) (Nat.le_of_ble_eq_true rfl) (fun p e R s m args below meth c hX hT => ?_)
  show zZ p l e R s m args below meth c g 1 _ _ _ _ 0 0 [(0, .ref (gA g 0 0 0))] []
  refine z_aload_n hX dX4_undo_0 0 rfl ?_
  refine zg_X4_history hX   fl_RX4_25 dX4_undo_1 ?_
  refine z_aload_n hX dX4_undo_4 0 rfl ?_
  refine zg_X4_field hX   fl_RX4_10 dX4_undo_5 ?_
  refine z_callV1 hX (no_takeBack l hk hw hd) cv_RX4_314 zRc4 dX4_undo_8 (by decide) rfl rfl (Nat.le_of_ble_eq_true rfl) ?_
  refine z_if_ne (tgt := 25) hX dX4_undo_11 (by decide) (fun h11 => absurd h11 (by decide)) (fun h11 => ?_)
  exact z_throwW hX hT hl0 (i := 36) ft_ISE zN2_fit cl_ISE in_ISE rfl (zhat h1_ISE h2_ISE hX) go_ISE dX4_undo_14 dX4_undo_17 dX4_undo_18 dX4_undo_21 dX4_undo_24 (by decide) (Nat.le_of_ble_eq_true rfl) rfl (fun _ h => h)
end ZHI
