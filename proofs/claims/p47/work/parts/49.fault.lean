section ZFT
abbrev kinO (z : Int32) : Prop := z = 112 ∨ z = 110 ∨ z = 99 ∨ z = 115
/-- what the class asks of a line that is to be added -/
abbrev okA (x y z v : Int32) : Prop := (0 ≤ x ∧ x < 2) ∧ (0 ≤ y ∧ y < 3) ∧ kinO z ∧ 1 ≤ v ∧ v ≤ 99
theorem ix_k (l : Launch) {g : zG} {κ : zKp} {μ : zMu} {ω : zOm} {i : Nat} {z : Int32} (hi : i < 45) (hs : sB i = [112, 110, 99, 115]) (hz : kinO z) : ∃ q, q < 4 ∧ zM l g yJ0_indexOf_0f7a4 cJ0_indexOf_0f7a4 2 (some .int) 4 0 [.ref (gAK g i), .int z] κ μ ω κ μ ω (some (.int (nI q))) := by
  have e0 : sBa i 0 = 112 := by rw [sBa, hs]; rfl
  have e1 : sBa i 1 = 110 := by rw [sBa, hs]; rfl
  have e2 : sBa i 2 = 99 := by rw [sBa, hs]; rfl
  have e3 : sBa i 3 = 115 := by rw [sBa, hs]; rfl
  have hl : (sB i).length = 4 := by rw [hs]; rfl
  rcases hz with rfl | rfl | rfl | rfl
  · refine ⟨0, by decide, ?_⟩
    have h := ok_indexOf l (g := g) (κ := κ) (μ := μ) (ω := ω) (i := i) (q := 0) hi (by omega) (fun j hj => absurd hj (Nat.not_lt_zero j))
    rw [e0] at h; exact h
  · refine ⟨1, by decide, ?_⟩
    have h := ok_indexOf l (g := g) (κ := κ) (μ := μ) (ω := ω) (i := i) (q := 1) hi (by omega) (fun j hj => by rw [show j = 0 by omega, e0, e1]; decide)
    rw [e1] at h; exact h
  · refine ⟨2, by decide, ?_⟩
    have h := ok_indexOf l (g := g) (κ := κ) (μ := μ) (ω := ω) (i := i) (q := 2) hi (by omega) (fun j hj => by
      have hc : j = 0 ∨ j = 1 := by omega
      rcases hc with rfl | rfl
      · rw [e0, e2]; decide
      · rw [e1, e2]; decide)
    rw [e2] at h; exact h
  · refine ⟨3, by decide, ?_⟩
    have h := ok_indexOf l (g := g) (κ := κ) (μ := μ) (ω := ω) (i := i) (q := 3) hi (by omega) (fun j hj => by
      have hc : j = 0 ∨ j = 1 ∨ j = 2 := by omega
      rcases hc with rfl | rfl | rfl
      · rw [e0, e3]; decide
      · rw [e1, e3]; decide
      · rw [e2, e3]; decide)
    rw [e3] at h; exact h
theorem ix_kn (l : Launch) {g : zG} {κ : zKp} {μ : zMu} {ω : zOm} {i : Nat} {z : Int32} (hi : i < 45) (hs : sB i = [112, 110, 99, 115]) (hz : ¬ kinO z) : zM l g yJ0_indexOf_0f7a4 cJ0_indexOf_0f7a4 2 (some .int) 4 0 [.ref (gAK g i), .int z] κ μ ω κ μ ω (some (.int (-1))) := by
  refine no_indexOf l hi (fun j hj e => hz ?_)
  have hl : (sB i).length = 4 := by rw [hs]; rfl
  have hc : j = 0 ∨ j = 1 ∨ j = 2 ∨ j = 3 := by omega
  rw [← e, sBa, hs]
  rcases hc with rfl | rfl | rfl | rfl
  · exact Or.inl rfl
  · exact Or.inr (Or.inl rfl)
  · exact Or.inr (Or.inr (Or.inl rfl))
  · exact Or.inr (Or.inr (Or.inr rfl))
theorem ix_o (l : Launch) {g : zG} {κ : zKp} {μ : zMu} {ω : zOm} {i : Nat} {z : Int32} (hi : i < 45) (hs : sB i = [104, 97, 99]) (hz : ordO z) : ∃ q, q < 4 ∧ zM l g yJ0_indexOf_0f7a4 cJ0_indexOf_0f7a4 2 (some .int) 4 0 [.ref (gAK g i), .int z] κ μ ω κ μ ω (some (.int (nI q))) := by
  have e0 : sBa i 0 = 104 := by rw [sBa, hs]; rfl
  have e1 : sBa i 1 = 97 := by rw [sBa, hs]; rfl
  have e2 : sBa i 2 = 99 := by rw [sBa, hs]; rfl
  have hl : (sB i).length = 3 := by rw [hs]; rfl
  rcases hz with rfl | rfl | rfl
  · refine ⟨0, by decide, ?_⟩
    have h := ok_indexOf l (g := g) (κ := κ) (μ := μ) (ω := ω) (i := i) (q := 0) hi (by omega) (fun j hj => absurd hj (Nat.not_lt_zero j))
    rw [e0] at h; exact h
  · refine ⟨1, by decide, ?_⟩
    have h := ok_indexOf l (g := g) (κ := κ) (μ := μ) (ω := ω) (i := i) (q := 1) hi (by omega) (fun j hj => by rw [show j = 0 by omega, e0, e1]; decide)
    rw [e1] at h; exact h
  · refine ⟨2, by decide, ?_⟩
    have h := ok_indexOf l (g := g) (κ := κ) (μ := μ) (ω := ω) (i := i) (q := 2) hi (by omega) (fun j hj => by
      have hc : j = 0 ∨ j = 1 := by omega
      rcases hc with rfl | rfl
      · rw [e0, e2]; decide
      · rw [e1, e2]; decide)
    rw [e2] at h; exact h
theorem ix_on (l : Launch) {g : zG} {κ : zKp} {μ : zMu} {ω : zOm} {i : Nat} {z : Int32} (hi : i < 45) (hs : sB i = [104, 97, 99]) (hz : ¬ ordO z) : zM l g yJ0_indexOf_0f7a4 cJ0_indexOf_0f7a4 2 (some .int) 4 0 [.ref (gAK g i), .int z] κ μ ω κ μ ω (some (.int (-1))) := by
  refine no_indexOf l hi (fun j hj e => hz ?_)
  have hl : (sB i).length = 3 := by rw [hs]; rfl
  have hc : j = 0 ∨ j = 1 ∨ j = 2 := by omega
  rw [← e, sBa, hs]
  rcases hc with rfl | rfl | rfl
  · exact Or.inl rfl
  · exact Or.inr (Or.inl rfl)
  · exact Or.inr (Or.inr rfl)
theorem fc_n : ∀ u, u < 2 → (if nI u = 0 then (0 : Int32) else 9) = nI (9 * u) := by decide +kernel
set_option maxHeartbeats 4000000 in
set_option maxRecDepth 100000 in
theorem fa_1 (l : Launch) {g : zG} {κ : zKp} {μ : zMu} {ω : zOm} {f : Nat} {gb cb : Nat → Int32} (hf : f < 11) {x y z v : Int32} (hx : ¬ okA x y z v) : zM l g yX1_faultOfAdding cX1_faultOfAdding 5 (some .int) 5 0 [.ref (gA g 6 f 0), .int x, .int y, .int z, .int v] (zF κ f gb cb) μ ω (zF κ f gb cb) μ ω (some (.int 1)) := by
  refine zM_of (by decide) (Nat.le_of_ble_eq_true rfl) (fun p e R s m args below meth c hX => ?_)
  show zZ p l e R s m args below meth c g 5 _ _ _ _ 0 0 [(0, .ref (gA g 6 f 0)), (1, .int x), (2, .int y), (3, .int z), (4, .int v)] []
  refine z_iload_n hX dX1_faultOfAdding_0 1 rfl ?_
  refine z_callN1 hX (ok_X4_isSide l) cn_RX1_61 dX1_faultOfAdding_1 (by decide) rfl rfl (Nat.le_of_ble_eq_true rfl) ?_
  refine z_if_eqB (tgt := 36) hX dX1_faultOfAdding_4 (by decide) (fun h4 => ?_) (fun h4 => ?_)
  · skip
    refine z_iconst (v := 1) hX dX1_faultOfAdding_36 (by decide) ?_
    exact z_iretI hX dX1_faultOfAdding_37 (by decide) rfl (fun _ h => h)
  · skip
    refine z_iload_n hX dX1_faultOfAdding_7 2 rfl ?_
    refine z_callN1 hX (ok_X4_isLane l) cn_RX1_50 dX1_faultOfAdding_8 (by decide) rfl rfl (Nat.le_of_ble_eq_true rfl) ?_
    refine z_if_eqB (tgt := 36) hX dX1_faultOfAdding_11 (by decide) (fun h11 => ?_) (fun h11 => ?_)
    · skip
      refine z_iconst (v := 1) hX dX1_faultOfAdding_36 (by decide) ?_
      exact z_iretI hX dX1_faultOfAdding_37 (by decide) rfl (fun _ h => h)
    · skip
      refine zk_ldc hX (i := 0) rfl dX1_faultOfAdding_14 ?_
      refine z_iload_n hX dX1_faultOfAdding_16 3 rfl ?_
      rcases Classical.em (kinO z) with hz | hz
      · obtain ⟨q, hq, hQ⟩ := ix_k l (g := g) (κ := zF κ f gb cb) (μ := μ) (ω := ω) (i := 0) (by decide) rfl hz
        refine zk_callV1 hX (by decide : 0 < 45) rfl hQ cv_RX1_66 dX1_faultOfAdding_17 (by decide) rfl rfl (Nat.le_of_ble_eq_true rfl) ?_
        refine z_if_lt (tgt := 36) hX dX1_faultOfAdding_20 (by decide) (fun h20 => absurd h20 (nn_i (by omega))) (fun h20 => ?_)
        refine z_iload hX dX1_faultOfAdding_23 4 rfl ?_
        refine z_iconst (v := 1) hX dX1_faultOfAdding_25 (by decide) ?_
        refine z_icmp_lt (tgt := 36) hX dX1_faultOfAdding_26 (by decide) (fun h26 => ?_) (fun h26 => ?_)
        · skip
          refine z_iconst (v := 1) hX dX1_faultOfAdding_36 (by decide) ?_
          exact z_iretI hX dX1_faultOfAdding_37 (by decide) rfl (fun _ h => h)
        · skip
          refine z_iload hX dX1_faultOfAdding_29 4 rfl ?_
          refine z_bipush (v := 99) hX dX1_faultOfAdding_31 (by decide) ?_
          refine z_icmp_le (tgt := 38) hX dX1_faultOfAdding_33 (by decide) (fun h33 => absurd h33 (fun q => hx ⟨h4, h11, hz, Int32.not_lt.mp h26, q⟩)) (fun h33 => ?_)
          refine z_iconst (v := 1) hX dX1_faultOfAdding_36 (by decide) ?_
          exact z_iretI hX dX1_faultOfAdding_37 (by decide) rfl (fun _ h => h)
      · skip
        refine zk_callV1 hX (by decide : 0 < 45) rfl (ix_kn l (i := 0) (by decide) rfl hz) cv_RX1_66 dX1_faultOfAdding_17 (by decide) rfl rfl (Nat.le_of_ble_eq_true rfl) ?_
        refine z_if_lt (tgt := 36) hX dX1_faultOfAdding_20 (by decide) (fun h20 => ?_) (fun h20 => absurd h20 (by decide))
        refine z_iconst (v := 1) hX dX1_faultOfAdding_36 (by decide) ?_
        exact z_iretI hX dX1_faultOfAdding_37 (by decide) rfl (fun _ h => h)
set_option maxHeartbeats 4000000 in
set_option maxRecDepth 100000 in
theorem fa_3 (l : Launch) {g : zG} {κ : zKp} {μ : zMu} {ω : zOm} {f : Nat} {gb cb : Nat → Int32} (hf : f < 11) {u a : Nat} {z v : Int32} (hA : okA (nI u) (nI a) z v) (hn : bnI gb) (hk : bn gb = 12) : zM l g yX1_faultOfAdding cX1_faultOfAdding 5 (some .int) 5 0 [.ref (gA g 6 f 0), .int (nI u), .int (nI a), .int z, .int v] (zF κ f gb cb) μ ω (zF κ f gb cb) μ ω (some (.int 3)) := by
  refine zM_of (by decide) (Nat.le_of_ble_eq_true rfl) (fun p e R s m args below meth c hX => ?_)
  show zZ p l e R s m args below meth c g 5 _ _ _ _ 0 0 [(0, .ref (gA g 6 f 0)), (1, .int (nI u)), (2, .int (nI a)), (3, .int z), (4, .int v)] []
  refine z_iload_n hX dX1_faultOfAdding_0 1 rfl ?_
  refine z_callN1 hX (ok_X4_isSide l) cn_RX1_61 dX1_faultOfAdding_1 (by decide) rfl rfl (Nat.le_of_ble_eq_true rfl) ?_
  refine z_if_eqB (tgt := 36) hX dX1_faultOfAdding_4 (by decide) (fun h4 => absurd h4 (Classical.not_not.mpr hA.1)) (fun h4 => ?_)
  refine z_iload_n hX dX1_faultOfAdding_7 2 rfl ?_
  refine z_callN1 hX (ok_X4_isLane l) cn_RX1_50 dX1_faultOfAdding_8 (by decide) rfl rfl (Nat.le_of_ble_eq_true rfl) ?_
  refine z_if_eqB (tgt := 36) hX dX1_faultOfAdding_11 (by decide) (fun h11 => absurd h11 (Classical.not_not.mpr hA.2.1)) (fun h11 => ?_)
  refine zk_ldc hX (i := 0) rfl dX1_faultOfAdding_14 ?_
  refine z_iload_n hX dX1_faultOfAdding_16 3 rfl ?_
  obtain ⟨q, hq, hQ⟩ := ix_k l (g := g) (κ := zF κ f gb cb) (μ := μ) (ω := ω) (i := 0) (by decide) rfl hA.2.2.1
  refine zk_callV1 hX (by decide : 0 < 45) rfl hQ cv_RX1_66 dX1_faultOfAdding_17 (by decide) rfl rfl (Nat.le_of_ble_eq_true rfl) ?_
  refine z_if_lt (tgt := 36) hX dX1_faultOfAdding_20 (by decide) (fun h20 => absurd h20 (nn_i (by omega))) (fun h20 => ?_)
  refine z_iload hX dX1_faultOfAdding_23 4 rfl ?_
  refine z_iconst (v := 1) hX dX1_faultOfAdding_25 (by decide) ?_
  refine z_icmp_lt (tgt := 36) hX dX1_faultOfAdding_26 (by decide) (fun h26 => absurd h26 (Int32.not_lt.mpr hA.2.2.2.1)) (fun h26 => ?_)
  refine z_iload hX dX1_faultOfAdding_29 4 rfl ?_
  refine z_bipush (v := 99) hX dX1_faultOfAdding_31 (by decide) ?_
  refine z_icmp_le (tgt := 38) hX dX1_faultOfAdding_33 (by decide) (fun h33 => ?_) (fun h33 => absurd h33 (Classical.not_not.mpr hA.2.2.2.2))
  refine z_aload_n hX dX1_faultOfAdding_38 0 rfl ?_
  refine zg_X1_count hX hf  fl_RX1_21 dX1_faultOfAdding_39 ?_
  refine z_bipush (v := 12) hX dX1_faultOfAdding_42 (by decide) ?_
  refine z_icmp_lt (tgt := 49) hX dX1_faultOfAdding_44 (by decide) (fun h44 => absurd h44 (by rw [hn.2, hk]; decide)) (fun h44 => ?_)
  refine z_iconst (v := 3) hX dX1_faultOfAdding_47 (by decide) ?_
  exact z_iretI hX dX1_faultOfAdding_48 (by decide) rfl (fun _ h => h)
set_option maxHeartbeats 4000000 in
set_option maxRecDepth 100000 in
theorem fa_4 (l : Launch) {g : zG} {κ : zKp} {μ : zMu} {ω : zOm} {f : Nat} {gb cb : Nat → Int32} (hf : f < 11) {u a : Nat} {z v : Int32} (hA : okA (nI u) (nI a) z v) (hn : bnI gb) (hu : u < 2) (hc : cb = cellsOf gb) (hk : bn gb < 12) {j : Nat} (ho : occB gb (nI a) (nI (9 * u)) = some j) : zM l g yX1_faultOfAdding cX1_faultOfAdding 5 (some .int) 5 0 [.ref (gA g 6 f 0), .int (nI u), .int (nI a), .int z, .int v] (zF κ f gb cb) μ ω (zF κ f gb cb) μ ω (some (.int 4)) := by
  refine zM_of (by decide) (Nat.le_of_ble_eq_true rfl) (fun p e R s m args below meth c hX => ?_)
  show zZ p l e R s m args below meth c g 5 _ _ _ _ 0 0 [(0, .ref (gA g 6 f 0)), (1, .int (nI u)), (2, .int (nI a)), (3, .int z), (4, .int v)] []
  refine z_iload_n hX dX1_faultOfAdding_0 1 rfl ?_
  refine z_callN1 hX (ok_X4_isSide l) cn_RX1_61 dX1_faultOfAdding_1 (by decide) rfl rfl (Nat.le_of_ble_eq_true rfl) ?_
  refine z_if_eqB (tgt := 36) hX dX1_faultOfAdding_4 (by decide) (fun h4 => absurd h4 (Classical.not_not.mpr hA.1)) (fun h4 => ?_)
  refine z_iload_n hX dX1_faultOfAdding_7 2 rfl ?_
  refine z_callN1 hX (ok_X4_isLane l) cn_RX1_50 dX1_faultOfAdding_8 (by decide) rfl rfl (Nat.le_of_ble_eq_true rfl) ?_
  refine z_if_eqB (tgt := 36) hX dX1_faultOfAdding_11 (by decide) (fun h11 => absurd h11 (Classical.not_not.mpr hA.2.1)) (fun h11 => ?_)
  refine zk_ldc hX (i := 0) rfl dX1_faultOfAdding_14 ?_
  refine z_iload_n hX dX1_faultOfAdding_16 3 rfl ?_
  obtain ⟨q, hq, hQ⟩ := ix_k l (g := g) (κ := zF κ f gb cb) (μ := μ) (ω := ω) (i := 0) (by decide) rfl hA.2.2.1
  refine zk_callV1 hX (by decide : 0 < 45) rfl hQ cv_RX1_66 dX1_faultOfAdding_17 (by decide) rfl rfl (Nat.le_of_ble_eq_true rfl) ?_
  refine z_if_lt (tgt := 36) hX dX1_faultOfAdding_20 (by decide) (fun h20 => absurd h20 (nn_i (by omega))) (fun h20 => ?_)
  refine z_iload hX dX1_faultOfAdding_23 4 rfl ?_
  refine z_iconst (v := 1) hX dX1_faultOfAdding_25 (by decide) ?_
  refine z_icmp_lt (tgt := 36) hX dX1_faultOfAdding_26 (by decide) (fun h26 => absurd h26 (Int32.not_lt.mpr hA.2.2.2.1)) (fun h26 => ?_)
  refine z_iload hX dX1_faultOfAdding_29 4 rfl ?_
  refine z_bipush (v := 99) hX dX1_faultOfAdding_31 (by decide) ?_
  refine z_icmp_le (tgt := 38) hX dX1_faultOfAdding_33 (by decide) (fun h33 => ?_) (fun h33 => absurd h33 (Classical.not_not.mpr hA.2.2.2.2))
  refine z_aload_n hX dX1_faultOfAdding_38 0 rfl ?_
  refine zg_X1_count hX hf  fl_RX1_21 dX1_faultOfAdding_39 ?_
  refine z_bipush (v := 12) hX dX1_faultOfAdding_42 (by decide) ?_
  refine z_icmp_lt (tgt := 49) hX dX1_faultOfAdding_44 (by decide) (fun h44 => ?_) (fun h44 => absurd h44 (Classical.not_not.mpr (by rw [hn.2]; exact lt_i (b := 12) hk (by decide))))
  refine z_aload_n hX dX1_faultOfAdding_49 0 rfl ?_
  refine z_iload_n hX dX1_faultOfAdding_50 2 rfl ?_
  refine z_iload_n hX dX1_faultOfAdding_51 1 rfl ?_
  refine z_callS1 hX (ok_X1_firstColumn l) cs_RX1_72 dX1_faultOfAdding_52 (by decide) rfl rfl (Nat.le_of_ble_eq_true rfl) ?_
  refine z_isv (fc_n u hu) ?_
  refine z_callV1 hX (ok_occ_s l hf hn hc ho) cv_RX1_75 (zRc6 hf) dX1_faultOfAdding_55 (by decide) rfl rfl (Nat.le_of_ble_eq_true rfl) ?_
  refine z_ifnonnull (tgt := 65) hX dX1_faultOfAdding_58 (by decide) ?_
  refine z_iconst (v := 4) hX dX1_faultOfAdding_65 (by decide) ?_
  exact z_iretI hX dX1_faultOfAdding_66 (by decide) rfl (fun _ h => h)
set_option maxHeartbeats 4000000 in
set_option maxRecDepth 100000 in
theorem fa_0 (l : Launch) {g : zG} {κ : zKp} {μ : zMu} {ω : zOm} {f : Nat} {gb cb : Nat → Int32} (hf : f < 11) {u a : Nat} {z v : Int32} (hA : okA (nI u) (nI a) z v) (hn : bnI gb) (hu : u < 2) (hc : cb = cellsOf gb) (hk : bn gb < 12) (ho : occB gb (nI a) (nI (9 * u)) = none) : zM l g yX1_faultOfAdding cX1_faultOfAdding 5 (some .int) 5 0 [.ref (gA g 6 f 0), .int (nI u), .int (nI a), .int z, .int v] (zF κ f gb cb) μ ω (zF κ f gb cb) μ ω (some (.int 0)) := by
  refine zM_of (by decide) (Nat.le_of_ble_eq_true rfl) (fun p e R s m args below meth c hX => ?_)
  show zZ p l e R s m args below meth c g 5 _ _ _ _ 0 0 [(0, .ref (gA g 6 f 0)), (1, .int (nI u)), (2, .int (nI a)), (3, .int z), (4, .int v)] []
  refine z_iload_n hX dX1_faultOfAdding_0 1 rfl ?_
  refine z_callN1 hX (ok_X4_isSide l) cn_RX1_61 dX1_faultOfAdding_1 (by decide) rfl rfl (Nat.le_of_ble_eq_true rfl) ?_
  refine z_if_eqB (tgt := 36) hX dX1_faultOfAdding_4 (by decide) (fun h4 => absurd h4 (Classical.not_not.mpr hA.1)) (fun h4 => ?_)
  refine z_iload_n hX dX1_faultOfAdding_7 2 rfl ?_
  refine z_callN1 hX (ok_X4_isLane l) cn_RX1_50 dX1_faultOfAdding_8 (by decide) rfl rfl (Nat.le_of_ble_eq_true rfl) ?_
  refine z_if_eqB (tgt := 36) hX dX1_faultOfAdding_11 (by decide) (fun h11 => absurd h11 (Classical.not_not.mpr hA.2.1)) (fun h11 => ?_)
  refine zk_ldc hX (i := 0) rfl dX1_faultOfAdding_14 ?_
  refine z_iload_n hX dX1_faultOfAdding_16 3 rfl ?_
  obtain ⟨q, hq, hQ⟩ := ix_k l (g := g) (κ := zF κ f gb cb) (μ := μ) (ω := ω) (i := 0) (by decide) rfl hA.2.2.1
  refine zk_callV1 hX (by decide : 0 < 45) rfl hQ cv_RX1_66 dX1_faultOfAdding_17 (by decide) rfl rfl (Nat.le_of_ble_eq_true rfl) ?_
  refine z_if_lt (tgt := 36) hX dX1_faultOfAdding_20 (by decide) (fun h20 => absurd h20 (nn_i (by omega))) (fun h20 => ?_)
  refine z_iload hX dX1_faultOfAdding_23 4 rfl ?_
  refine z_iconst (v := 1) hX dX1_faultOfAdding_25 (by decide) ?_
  refine z_icmp_lt (tgt := 36) hX dX1_faultOfAdding_26 (by decide) (fun h26 => absurd h26 (Int32.not_lt.mpr hA.2.2.2.1)) (fun h26 => ?_)
  refine z_iload hX dX1_faultOfAdding_29 4 rfl ?_
  refine z_bipush (v := 99) hX dX1_faultOfAdding_31 (by decide) ?_
  refine z_icmp_le (tgt := 38) hX dX1_faultOfAdding_33 (by decide) (fun h33 => ?_) (fun h33 => absurd h33 (Classical.not_not.mpr hA.2.2.2.2))
  refine z_aload_n hX dX1_faultOfAdding_38 0 rfl ?_
  refine zg_X1_count hX hf  fl_RX1_21 dX1_faultOfAdding_39 ?_
  refine z_bipush (v := 12) hX dX1_faultOfAdding_42 (by decide) ?_
  refine z_icmp_lt (tgt := 49) hX dX1_faultOfAdding_44 (by decide) (fun h44 => ?_) (fun h44 => absurd h44 (Classical.not_not.mpr (by rw [hn.2]; exact lt_i (b := 12) hk (by decide))))
  refine z_aload_n hX dX1_faultOfAdding_49 0 rfl ?_
  refine z_iload_n hX dX1_faultOfAdding_50 2 rfl ?_
  refine z_iload_n hX dX1_faultOfAdding_51 1 rfl ?_
  refine z_callS1 hX (ok_X1_firstColumn l) cs_RX1_72 dX1_faultOfAdding_52 (by decide) rfl rfl (Nat.le_of_ble_eq_true rfl) ?_
  refine z_isv (fc_n u hu) ?_
  refine z_callV1 hX (ok_occ_n l hf hn hc ho) cv_RX1_75 (zRc6 hf) dX1_faultOfAdding_55 (by decide) rfl rfl (Nat.le_of_ble_eq_true rfl) ?_
  refine z_ifnonnullN hX dX1_faultOfAdding_58 ?_
  refine z_iconst (v := 0) hX dX1_faultOfAdding_61 (by decide) ?_
  refine z_goto (tgt := 66) hX dX1_faultOfAdding_62 (by decide) ?_
  exact z_iretI hX dX1_faultOfAdding_66 (by decide) rfl (fun _ h => h)
set_option maxHeartbeats 4000000 in
set_option maxRecDepth 100000 in
theorem fo_2 (l : Launch) {g : zG} {κ : zKp} {μ : zMu} {ω : zOm} {f : Nat} {gb cb : Nat → Int32} (hf : f < 11) {x : Int32} (hx : x < 0 ∨ gb 0 ≤ x) {z : Int32} : zM l g yX1_faultOfOrdering cX1_faultOfOrdering 4 (some .int) 5 0 [.ref (gA g 6 f 0), .int x, .int z] (zF κ f gb cb) μ ω (zF κ f gb cb) μ ω (some (.int 2)) := by
  refine zM_of (by decide) (Nat.le_of_ble_eq_true rfl) (fun p e R s m args below meth c hX => ?_)
  show zZ p l e R s m args below meth c g 4 _ _ _ _ 0 0 [(0, .ref (gA g 6 f 0)), (1, .int x), (2, .int z)] []
  refine z_aload_n hX dX1_faultOfOrdering_0 0 rfl ?_
  refine z_iload_n hX dX1_faultOfOrdering_1 1 rfl ?_
  refine z_callV1 hX (ok_line_out l hf hx) cv_RX1_57 (zRc6 hf) dX1_faultOfOrdering_2 (by decide) rfl rfl (Nat.le_of_ble_eq_true rfl) ?_
  refine z_nstore_n (lv' := [(3, _), (0, _), (1, _), (2, _)]) hX dX1_faultOfOrdering_5 (by decide) rfl ?_
  refine z_nload_n hX dX1_faultOfOrdering_6 0 rfl ?_
  refine z_ifnonnullN hX dX1_faultOfOrdering_7 ?_
  refine z_iconst (v := 2) hX dX1_faultOfOrdering_10 (by decide) ?_
  exact z_iretI hX dX1_faultOfOrdering_11 (by decide) rfl (fun _ h => h)
set_option maxHeartbeats 4000000 in
set_option maxRecDepth 100000 in
theorem fo_1 (l : Launch) {g : zG} {κ : zKp} {μ : zMu} {ω : zOm} {f : Nat} {gb cb : Nat → Int32} (hf : f < 11) {i : Nat} (hn : bnI gb) (hlt : i < bn gb) {z : Int32} (hz : ¬ ordO z) : zM l g yX1_faultOfOrdering cX1_faultOfOrdering 4 (some .int) 5 0 [.ref (gA g 6 f 0), .int (nI i), .int z] (zF κ f gb cb) μ ω (zF κ f gb cb) μ ω (some (.int 1)) := by
  refine zM_of (by decide) (Nat.le_of_ble_eq_true rfl) (fun p e R s m args below meth c hX => ?_)
  show zZ p l e R s m args below meth c g 4 _ _ _ _ 0 0 [(0, .ref (gA g 6 f 0)), (1, .int (nI i)), (2, .int z)] []
  refine z_aload_n hX dX1_faultOfOrdering_0 0 rfl ?_
  refine z_iload_n hX dX1_faultOfOrdering_1 1 rfl ?_
  refine z_callV1 hX (ok_line_in l hf hn hlt) cv_RX1_57 (zRc6 hf) dX1_faultOfOrdering_2 (by decide) rfl rfl (Nat.le_of_ble_eq_true rfl) ?_
  refine z_astore_n (lv' := [(3, _), (0, _), (1, _), (2, _)]) hX dX1_faultOfOrdering_5 (by decide) rfl ?_
  refine z_aload_n hX dX1_faultOfOrdering_6 0 rfl ?_
  refine z_ifnonnull (tgt := 12) hX dX1_faultOfOrdering_7 (by decide) ?_
  refine zk_ldc hX (i := 4) rfl dX1_faultOfOrdering_12 ?_
  refine z_iload_n hX dX1_faultOfOrdering_14 3 rfl ?_
  refine zk_callV1 hX (by decide : 4 < 45) rfl (ix_on l (i := 4) (by decide) rfl hz) cv_RX1_66 dX1_faultOfOrdering_15 (by decide) rfl rfl (Nat.le_of_ble_eq_true rfl) ?_
  refine z_if_ge (tgt := 23) hX dX1_faultOfOrdering_18 (by decide) (fun h18 => absurd h18 (by decide)) (fun h18 => ?_)
  refine z_iconst (v := 1) hX dX1_faultOfOrdering_21 (by decide) ?_
  exact z_iretI hX dX1_faultOfOrdering_22 (by decide) rfl (fun _ h => h)
set_option maxHeartbeats 4000000 in
set_option maxRecDepth 100000 in
theorem fo_3 (l : Launch) {g : zG} {κ : zKp} {μ : zMu} {ω : zOm} {f : Nat} {gb cb : Nat → Int32} (hf : f < 11) {i : Nat} (hn : bnI gb) (hlt : i < bn gb) {z : Int32} (hz : ordO z) (h7 : ¬ bf gb i 7 = 0) : zM l g yX1_faultOfOrdering cX1_faultOfOrdering 4 (some .int) 5 0 [.ref (gA g 6 f 0), .int (nI i), .int z] (zF κ f gb cb) μ ω (zF κ f gb cb) μ ω (some (.int 3)) := by
  refine zM_of (by decide) (Nat.le_of_ble_eq_true rfl) (fun p e R s m args below meth c hX => ?_)
  show zZ p l e R s m args below meth c g 4 _ _ _ _ 0 0 [(0, .ref (gA g 6 f 0)), (1, .int (nI i)), (2, .int z)] []
  refine z_aload_n hX dX1_faultOfOrdering_0 0 rfl ?_
  refine z_iload_n hX dX1_faultOfOrdering_1 1 rfl ?_
  refine z_callV1 hX (ok_line_in l hf hn hlt) cv_RX1_57 (zRc6 hf) dX1_faultOfOrdering_2 (by decide) rfl rfl (Nat.le_of_ble_eq_true rfl) ?_
  refine z_astore_n (lv' := [(3, _), (0, _), (1, _), (2, _)]) hX dX1_faultOfOrdering_5 (by decide) rfl ?_
  refine z_aload_n hX dX1_faultOfOrdering_6 0 rfl ?_
  refine z_ifnonnull (tgt := 12) hX dX1_faultOfOrdering_7 (by decide) ?_
  refine zk_ldc hX (i := 4) rfl dX1_faultOfOrdering_12 ?_
  refine z_iload_n hX dX1_faultOfOrdering_14 3 rfl ?_
  obtain ⟨q, hq, hQ⟩ := ix_o l (g := g) (κ := zF κ f gb cb) (μ := μ) (ω := ω) (i := 4) (by decide) rfl hz
  refine zk_callV1 hX (by decide : 4 < 45) rfl hQ cv_RX1_66 dX1_faultOfOrdering_15 (by decide) rfl rfl (Nat.le_of_ble_eq_true rfl) ?_
  refine z_if_ge (tgt := 23) hX dX1_faultOfOrdering_18 (by decide) (fun h18 => ?_) (fun h18 => absurd h18 (Classical.not_not.mpr (ge_i (by omega))))
  refine z_aload_n hX dX1_faultOfOrdering_23 0 rfl ?_
  refine z_callV1 hX (ok_X3_stands l hf (lt12 hn hlt) hlt) cv_RX1_113 (zRc9 hf (lt12 hn hlt)) dX1_faultOfOrdering_24 (by decide) rfl rfl (Nat.le_of_ble_eq_true rfl) ?_
  refine z_if_eqB (tgt := 34) hX dX1_faultOfOrdering_27 (by decide) (fun h27 => ?_) (fun h27 => absurd h27 h7)
  refine z_iconst (v := 3) hX dX1_faultOfOrdering_34 (by decide) ?_
  exact z_iretI hX dX1_faultOfOrdering_35 (by decide) rfl (fun _ h => h)
set_option maxHeartbeats 4000000 in
set_option maxRecDepth 100000 in
theorem fo_0 (l : Launch) {g : zG} {κ : zKp} {μ : zMu} {ω : zOm} {f : Nat} {gb cb : Nat → Int32} (hf : f < 11) {i : Nat} (hn : bnI gb) (hlt : i < bn gb) {z : Int32} (hz : ordO z) (h7 : bf gb i 7 = 0) : zM l g yX1_faultOfOrdering cX1_faultOfOrdering 4 (some .int) 5 0 [.ref (gA g 6 f 0), .int (nI i), .int z] (zF κ f gb cb) μ ω (zF κ f gb cb) μ ω (some (.int 0)) := by
  refine zM_of (by decide) (Nat.le_of_ble_eq_true rfl) (fun p e R s m args below meth c hX => ?_)
  show zZ p l e R s m args below meth c g 4 _ _ _ _ 0 0 [(0, .ref (gA g 6 f 0)), (1, .int (nI i)), (2, .int z)] []
  refine z_aload_n hX dX1_faultOfOrdering_0 0 rfl ?_
  refine z_iload_n hX dX1_faultOfOrdering_1 1 rfl ?_
  refine z_callV1 hX (ok_line_in l hf hn hlt) cv_RX1_57 (zRc6 hf) dX1_faultOfOrdering_2 (by decide) rfl rfl (Nat.le_of_ble_eq_true rfl) ?_
  refine z_astore_n (lv' := [(3, _), (0, _), (1, _), (2, _)]) hX dX1_faultOfOrdering_5 (by decide) rfl ?_
  refine z_aload_n hX dX1_faultOfOrdering_6 0 rfl ?_
  refine z_ifnonnull (tgt := 12) hX dX1_faultOfOrdering_7 (by decide) ?_
  refine zk_ldc hX (i := 4) rfl dX1_faultOfOrdering_12 ?_
  refine z_iload_n hX dX1_faultOfOrdering_14 3 rfl ?_
  obtain ⟨q, hq, hQ⟩ := ix_o l (g := g) (κ := zF κ f gb cb) (μ := μ) (ω := ω) (i := 4) (by decide) rfl hz
  refine zk_callV1 hX (by decide : 4 < 45) rfl hQ cv_RX1_66 dX1_faultOfOrdering_15 (by decide) rfl rfl (Nat.le_of_ble_eq_true rfl) ?_
  refine z_if_ge (tgt := 23) hX dX1_faultOfOrdering_18 (by decide) (fun h18 => ?_) (fun h18 => absurd h18 (Classical.not_not.mpr (ge_i (by omega))))
  refine z_aload_n hX dX1_faultOfOrdering_23 0 rfl ?_
  refine z_callV1 hX (ok_X3_stands l hf (lt12 hn hlt) hlt) cv_RX1_113 (zRc9 hf (lt12 hn hlt)) dX1_faultOfOrdering_24 (by decide) rfl rfl (Nat.le_of_ble_eq_true rfl) ?_
  refine z_if_eqB (tgt := 34) hX dX1_faultOfOrdering_27 (by decide) (fun h27 => absurd h27 (Classical.not_not.mpr h7)) (fun h27 => ?_)
  refine z_iconst (v := 0) hX dX1_faultOfOrdering_30 (by decide) ?_
  refine z_goto (tgt := 35) hX dX1_faultOfOrdering_31 (by decide) ?_
  exact z_iretI hX dX1_faultOfOrdering_35 (by decide) rfl (fun _ h => h)
set_option maxHeartbeats 4000000 in
set_option maxRecDepth 100000 in
theorem ok_X4_addLine (l : Launch) {g : zG} {κ : zKp} {μ : zMu} {ω : zOm} {k0 d : Nat} (hk : k0 < 8) (hw : κ 4 0 0 = nI k0) (hd : κ 4 0 1 = nI d) (hd8 : d ≤ 8) (hch : ∀ i, i < 12 → chW (zL κ 0 i 3) ∧ chW (zL κ 0 i 6)) {gb cb : Nat → Int32} (h6 : κ 6 0 = gb) (h8 : κ 8 0 = cb) {u a : Nat} {z v : Int32} (hA : okA (nI u) (nI a) z v) (hn : bnI gb) (hu : u < 2) (ha : a < 3) (hc : cb = cellsOf gb) (hk12 : bn gb < 12) (ho : occB gb (nI a) (nI (9 * u)) = none) : zM l g yX4_addLine cX4_addLine 6 (some .int) 7 0 [.ref (gA g 0 0 0), .int (nI u), .int (nI a), .int z, .int v] κ μ ω (zF (zKe κ k0 d) 0 (addB gb (nI u) (nI a) z v) (upd cb (a * 10 + 9 * u) (nI (bn gb)))) μ ω (some (.int (nI (bn gb)))) := by
  refine zM_of (by decide) (Nat.le_of_ble_eq_true rfl) (fun p e R s m args below meth c hX => ?_)
  show zZ p l e R s m args below meth c g 6 _ _ _ _ 0 0 [(0, .ref (gA g 0 0 0)), (1, .int (nI u)), (2, .int (nI a)), (3, .int z), (4, .int v)] []
  refine z_world (κ' := zF κ 0 gb cb) (fun _ h => by rw [zF_at (κ := κ) h6 h8]; exact h) ?_
  refine z_aload_n hX dX4_addLine_0 0 rfl ?_
  refine zg_X4_field hX   fl_RX4_10 dX4_addLine_1 ?_
  refine z_iload_n hX dX4_addLine_4 1 rfl ?_
  refine z_iload_n hX dX4_addLine_5 2 rfl ?_
  refine z_iload_n hX dX4_addLine_6 3 rfl ?_
  refine z_iload hX dX4_addLine_7 4 rfl ?_
  refine z_callV1 hX (fa_0 l z0lt hA hn hu hc hk12 ho) cv_RX4_54 (zRc6 z0lt) dX4_addLine_9 (by decide) rfl rfl (Nat.le_of_ble_eq_true rfl) ?_
  refine z_istore (lv' := [(5, _), (0, _), (1, _), (2, _), (3, _), (4, _)]) hX dX4_addLine_12 (by decide) rfl ?_
  refine z_iload hX dX4_addLine_14 0 rfl ?_
  refine z_iconst (v := 1) hX dX4_addLine_16 (by decide) ?_
  refine z_icmp_ne (tgt := 30) hX dX4_addLine_17 (by decide) (fun h17 => ?_) (fun h17 => absurd h17 (by decide))
  refine z_iload hX dX4_addLine_30 0 rfl ?_
  refine z_iconst (v := 3) hX dX4_addLine_32 (by decide) ?_
  refine z_icmp_ne (tgt := 46) hX dX4_addLine_33 (by decide) (fun h33 => ?_) (fun h33 => absurd h33 (by decide))
  refine z_iload hX dX4_addLine_46 0 rfl ?_
  refine z_iconst (v := 4) hX dX4_addLine_48 (by decide) ?_
  refine z_icmp_ne (tgt := 62) hX dX4_addLine_49 (by decide) (fun h49 => ?_) (fun h49 => absurd h49 (by decide))
  refine z_world (κ' := κ) (fun _ h => by rw [zF_at (κ := κ) h6 h8] at h; exact h) ?_
  refine z_aload_n hX dX4_addLine_62 1 rfl ?_
  refine zg_X4_history hX   fl_RX4_25 dX4_addLine_63 ?_
  refine z_aload_n hX dX4_addLine_66 1 rfl ?_
  refine zg_X4_field hX   fl_RX4_10 dX4_addLine_67 ?_
  refine z_callV0 hX (ok_X2_keep l (f2 := 0) (by decide) hk hw hd hd8 hch) cv_RX4_75 zRc4 dX4_addLine_70 (by decide) rfl rfl (Nat.le_of_ble_eq_true rfl) ?_
  refine z_world (κ' := zF (zKe κ k0 d) 0 gb cb) (fun _ h => by rw [zF_at (κ := κ) ((zKe_0 (by decide)).trans h6) ((zKe_0 (by decide)).trans h8)]; exact h) ?_
  refine z_aload_n hX dX4_addLine_73 1 rfl ?_
  refine zg_X4_field hX   fl_RX4_10 dX4_addLine_74 ?_
  refine z_iload_n hX dX4_addLine_77 2 rfl ?_
  refine z_iload_n hX dX4_addLine_78 3 rfl ?_
  refine z_iload_n hX dX4_addLine_79 4 rfl ?_
  refine z_iload hX dX4_addLine_80 5 rfl ?_
  refine z_callV1 hX (ok_X1_add l z0lt hn hk12 hu ha hA.2.2.1) cv_RX4_79 (zRc6 z0lt) dX4_addLine_82 (by decide) rfl rfl (Nat.le_of_ble_eq_true rfl) ?_
  exact z_iretI hX dX4_addLine_85 (by decide) rfl (fun _ h => h)
set_option maxHeartbeats 4000000 in
set_option maxRecDepth 100000 in
theorem ok_X4_setOrder (l : Launch) {g : zG} {κ : zKp} {μ : zMu} {ω : zOm} {k0 d : Nat} (hk : k0 < 8) (hw : κ 4 0 0 = nI k0) (hd : κ 4 0 1 = nI d) (hd8 : d ≤ 8) (hch : ∀ i, i < 12 → chW (zL κ 0 i 3) ∧ chW (zL κ 0 i 6)) {gb cb : Nat → Int32} (h6 : κ 6 0 = gb) (h8 : κ 8 0 = cb) {i : Nat} (hn : bnI gb) (hlt : i < bn gb) {x : Int32} (hL : lineW gb i) (hz : ordO x) (h7 : bf gb i 7 = 0) : zM l g yX4_setOrder cX4_setOrder 4 (some .char) 7 0 [.ref (gA g 0 0 0), .int (nI i), .int x] κ μ ω (zF (zKe κ k0 d) 0 (bs gb i 6 x) cb) μ ω (some (.int (bf gb i 6))) := by
  refine zM_of (by decide) (Nat.le_of_ble_eq_true rfl) (fun p e R s m args below meth c hX => ?_)
  show zZ p l e R s m args below meth c g 4 _ _ _ _ 0 0 [(0, .ref (gA g 0 0 0)), (1, .int (nI i)), (2, .int x)] []
  refine z_world (κ' := zF κ 0 gb cb) (fun _ h => by rw [zF_at (κ := κ) h6 h8]; exact h) ?_
  refine z_aload_n hX dX4_setOrder_0 0 rfl ?_
  refine zg_X4_field hX   fl_RX4_10 dX4_setOrder_1 ?_
  refine z_iload_n hX dX4_setOrder_4 1 rfl ?_
  refine z_iload_n hX dX4_setOrder_5 2 rfl ?_
  refine z_callV1 hX (fo_0 l z0lt hn hlt hz h7) cv_RX4_82 (zRc6 z0lt) dX4_setOrder_6 (by decide) rfl rfl (Nat.le_of_ble_eq_true rfl) ?_
  refine z_istore_n (lv' := [(3, _), (0, _), (1, _), (2, _)]) hX dX4_setOrder_9 (by decide) rfl ?_
  refine z_iload_n hX dX4_setOrder_10 0 rfl ?_
  refine z_iconst (v := 2) hX dX4_setOrder_11 (by decide) ?_
  refine z_icmp_ne (tgt := 25) hX dX4_setOrder_12 (by decide) (fun h12 => ?_) (fun h12 => absurd h12 (by decide))
  refine z_iload_n hX dX4_setOrder_25 0 rfl ?_
  refine z_iconst (v := 1) hX dX4_setOrder_26 (by decide) ?_
  refine z_icmp_ne (tgt := 40) hX dX4_setOrder_27 (by decide) (fun h27 => ?_) (fun h27 => absurd h27 (by decide))
  refine z_iload_n hX dX4_setOrder_40 0 rfl ?_
  refine z_iconst (v := 3) hX dX4_setOrder_41 (by decide) ?_
  refine z_icmp_ne (tgt := 55) hX dX4_setOrder_42 (by decide) (fun h42 => ?_) (fun h42 => absurd h42 (by decide))
  refine z_world (κ' := κ) (fun _ h => by rw [zF_at (κ := κ) h6 h8] at h; exact h) ?_
  refine z_aload_n hX dX4_setOrder_55 1 rfl ?_
  refine zg_X4_history hX   fl_RX4_25 dX4_setOrder_56 ?_
  refine z_aload_n hX dX4_setOrder_59 1 rfl ?_
  refine zg_X4_field hX   fl_RX4_10 dX4_setOrder_60 ?_
  refine z_callV0 hX (ok_X2_keep l (f2 := 0) (by decide) hk hw hd hd8 hch) cv_RX4_75 zRc4 dX4_setOrder_63 (by decide) rfl rfl (Nat.le_of_ble_eq_true rfl) ?_
  refine z_world (κ' := zF (zKe κ k0 d) 0 gb cb) (fun _ h => by rw [zF_at (κ := κ) ((zKe_0 (by decide)).trans h6) ((zKe_0 (by decide)).trans h8)]; exact h) ?_
  refine z_aload_n hX dX4_setOrder_66 1 rfl ?_
  refine zg_X4_field hX   fl_RX4_10 dX4_setOrder_67 ?_
  refine z_iload_n hX dX4_setOrder_70 2 rfl ?_
  refine z_iload_n hX dX4_setOrder_71 3 rfl ?_
  refine z_callV1 hX (ok_X1_giveOrder l z0lt hn hlt hL hz) cv_RX4_95 (zRc6 z0lt) dX4_setOrder_72 (by decide) rfl rfl (Nat.le_of_ble_eq_true rfl) ?_
  exact z_iret hX dX4_setOrder_75 (by decide) (char_o hL.2.2.2.2.2.2.1) rfl (fun _ h => h)
set_option maxHeartbeats 4000000 in
set_option maxRecDepth 100000 in
theorem no1_X4_addLine (l : Launch) (hl0 : l.stackTraces = false) {g : zG} {κ : zKp} {μ : zMu} {ω : zOm} {gb cb : Nat → Int32} {x y z v : Int32} (hx : ¬ okA x y z v) : zMx l g yX4_addLine cX4_addLine 6 (some .int) 7 1 [.ref (gA g 0 0 0), .int x, .int y, .int z, .int v] (zF κ 0 gb cb) μ ω (zF κ 0 gb cb) μ ω (.error xIAE) := by
  refine zMx_of (by decide) (Nat.le_of_ble_eq_true rfl) (fun p e R s m args below meth c hX hT => ?_)
  show zZ p l e R s m args below meth c g 6 _ _ _ _ 0 0 [(0, .ref (gA g 0 0 0)), (1, .int x), (2, .int y), (3, .int z), (4, .int v)] []
  refine z_aload_n hX dX4_addLine_0 0 rfl ?_
  refine zg_X4_field hX   fl_RX4_10 dX4_addLine_1 ?_
  refine z_iload_n hX dX4_addLine_4 1 rfl ?_
  refine z_iload_n hX dX4_addLine_5 2 rfl ?_
  refine z_iload_n hX dX4_addLine_6 3 rfl ?_
  refine z_iload hX dX4_addLine_7 4 rfl ?_
  refine z_callV1 hX (fa_1 l z0lt hx) cv_RX4_54 (zRc6 z0lt) dX4_addLine_9 (by decide) rfl rfl (Nat.le_of_ble_eq_true rfl) ?_
  refine z_istore (lv' := [(5, _), (0, _), (1, _), (2, _), (3, _), (4, _)]) hX dX4_addLine_12 (by decide) rfl ?_
  refine z_iload hX dX4_addLine_14 0 rfl ?_
  refine z_iconst (v := 1) hX dX4_addLine_16 (by decide) ?_
  refine z_icmp_ne (tgt := 30) hX dX4_addLine_17 (by decide) (fun h17 => absurd h17 (fun q => q rfl)) (fun h17 => ?_)
  exact z_throw hX hT hl0 (i := 1) ft_IAE zN2_fit cl_IAE in_IAE rfl (zhat h1_IAE h2_IAE hX) go_IAE dX4_addLine_20 dX4_addLine_23 dX4_addLine_24 dX4_addLine_26 dX4_addLine_29 (by decide) (Nat.le_of_ble_eq_true rfl) rfl (fun _ h => h)
set_option maxHeartbeats 4000000 in
set_option maxRecDepth 100000 in
theorem no2_X4_addLine (l : Launch) (hl0 : l.stackTraces = false) {g : zG} {κ : zKp} {μ : zMu} {ω : zOm} {gb cb : Nat → Int32} {u a : Nat} {z v : Int32} (hA : okA (nI u) (nI a) z v) (hn : bnI gb) (hk12 : bn gb = 12) : zMx l g yX4_addLine cX4_addLine 6 (some .int) 7 1 [.ref (gA g 0 0 0), .int (nI u), .int (nI a), .int z, .int v] (zF κ 0 gb cb) μ ω (zF κ 0 gb cb) μ ω (.error xISE) := by
  refine zMx_of (by decide) (Nat.le_of_ble_eq_true rfl) (fun p e R s m args below meth c hX hT => ?_)
  show zZ p l e R s m args below meth c g 6 _ _ _ _ 0 0 [(0, .ref (gA g 0 0 0)), (1, .int (nI u)), (2, .int (nI a)), (3, .int z), (4, .int v)] []
  refine z_aload_n hX dX4_addLine_0 0 rfl ?_
  refine zg_X4_field hX   fl_RX4_10 dX4_addLine_1 ?_
  refine z_iload_n hX dX4_addLine_4 1 rfl ?_
  refine z_iload_n hX dX4_addLine_5 2 rfl ?_
  refine z_iload_n hX dX4_addLine_6 3 rfl ?_
  refine z_iload hX dX4_addLine_7 4 rfl ?_
  refine z_callV1 hX (fa_3 l z0lt hA hn hk12) cv_RX4_54 (zRc6 z0lt) dX4_addLine_9 (by decide) rfl rfl (Nat.le_of_ble_eq_true rfl) ?_
  refine z_istore (lv' := [(5, _), (0, _), (1, _), (2, _), (3, _), (4, _)]) hX dX4_addLine_12 (by decide) rfl ?_
  refine z_iload hX dX4_addLine_14 0 rfl ?_
  refine z_iconst (v := 1) hX dX4_addLine_16 (by decide) ?_
  refine z_icmp_ne (tgt := 30) hX dX4_addLine_17 (by decide) (fun h17 => ?_) (fun h17 => absurd h17 (by decide))
  refine z_iload hX dX4_addLine_30 0 rfl ?_
  refine z_iconst (v := 3) hX dX4_addLine_32 (by decide) ?_
  refine z_icmp_ne (tgt := 46) hX dX4_addLine_33 (by decide) (fun h33 => absurd h33 (fun q => q rfl)) (fun h33 => ?_)
  exact z_throw hX hT hl0 (i := 2) ft_ISE zN2_fit cl_ISE in_ISE rfl (zhat h1_ISE h2_ISE hX) go_ISE dX4_addLine_36 dX4_addLine_39 dX4_addLine_40 dX4_addLine_42 dX4_addLine_45 (by decide) (Nat.le_of_ble_eq_true rfl) rfl (fun _ h => h)
set_option maxHeartbeats 4000000 in
set_option maxRecDepth 100000 in
theorem no3_X4_addLine (l : Launch) (hl0 : l.stackTraces = false) {g : zG} {κ : zKp} {μ : zMu} {ω : zOm} {gb cb : Nat → Int32} {u a : Nat} {z v : Int32} (hA : okA (nI u) (nI a) z v) (hn : bnI gb) (hu : u < 2) (hc : cb = cellsOf gb) (hk12 : bn gb < 12) {j : Nat} (ho : occB gb (nI a) (nI (9 * u)) = some j) : zMx l g yX4_addLine cX4_addLine 6 (some .int) 7 1 [.ref (gA g 0 0 0), .int (nI u), .int (nI a), .int z, .int v] (zF κ 0 gb cb) μ ω (zF κ 0 gb cb) μ ω (.error xUOE) := by
  refine zMx_of (by decide) (Nat.le_of_ble_eq_true rfl) (fun p e R s m args below meth c hX hT => ?_)
  show zZ p l e R s m args below meth c g 6 _ _ _ _ 0 0 [(0, .ref (gA g 0 0 0)), (1, .int (nI u)), (2, .int (nI a)), (3, .int z), (4, .int v)] []
  refine z_aload_n hX dX4_addLine_0 0 rfl ?_
  refine zg_X4_field hX   fl_RX4_10 dX4_addLine_1 ?_
  refine z_iload_n hX dX4_addLine_4 1 rfl ?_
  refine z_iload_n hX dX4_addLine_5 2 rfl ?_
  refine z_iload_n hX dX4_addLine_6 3 rfl ?_
  refine z_iload hX dX4_addLine_7 4 rfl ?_
  refine z_callV1 hX (fa_4 l z0lt hA hn hu hc hk12 ho) cv_RX4_54 (zRc6 z0lt) dX4_addLine_9 (by decide) rfl rfl (Nat.le_of_ble_eq_true rfl) ?_
  refine z_istore (lv' := [(5, _), (0, _), (1, _), (2, _), (3, _), (4, _)]) hX dX4_addLine_12 (by decide) rfl ?_
  refine z_iload hX dX4_addLine_14 0 rfl ?_
  refine z_iconst (v := 1) hX dX4_addLine_16 (by decide) ?_
  refine z_icmp_ne (tgt := 30) hX dX4_addLine_17 (by decide) (fun h17 => ?_) (fun h17 => absurd h17 (by decide))
  refine z_iload hX dX4_addLine_30 0 rfl ?_
  refine z_iconst (v := 3) hX dX4_addLine_32 (by decide) ?_
  refine z_icmp_ne (tgt := 46) hX dX4_addLine_33 (by decide) (fun h33 => ?_) (fun h33 => absurd h33 (by decide))
  refine z_iload hX dX4_addLine_46 0 rfl ?_
  refine z_iconst (v := 4) hX dX4_addLine_48 (by decide) ?_
  refine z_icmp_ne (tgt := 62) hX dX4_addLine_49 (by decide) (fun h49 => absurd h49 (fun q => q rfl)) (fun h49 => ?_)
  exact z_throw hX hT hl0 (i := 3) ft_UOE zN2_fit cl_UOE in_UOE rfl (zhat h1_UOE h2_UOE hX) go_UOE dX4_addLine_52 dX4_addLine_55 dX4_addLine_56 dX4_addLine_58 dX4_addLine_61 (by decide) (Nat.le_of_ble_eq_true rfl) rfl (fun _ h => h)
set_option maxHeartbeats 4000000 in
set_option maxRecDepth 100000 in
theorem no1_X4_setOrder (l : Launch) (hl0 : l.stackTraces = false) {g : zG} {κ : zKp} {μ : zMu} {ω : zOm} {gb cb : Nat → Int32} {x : Int32} (hx : x < 0 ∨ gb 0 ≤ x) {z : Int32} : zMx l g yX4_setOrder cX4_setOrder 4 (some .char) 7 1 [.ref (gA g 0 0 0), .int x, .int z] (zF κ 0 gb cb) μ ω (zF κ 0 gb cb) μ ω (.error xIOE) := by
  refine zMx_of (by decide) (Nat.le_of_ble_eq_true rfl) (fun p e R s m args below meth c hX hT => ?_)
  show zZ p l e R s m args below meth c g 4 _ _ _ _ 0 0 [(0, .ref (gA g 0 0 0)), (1, .int x), (2, .int z)] []
  refine z_aload_n hX dX4_setOrder_0 0 rfl ?_
  refine zg_X4_field hX   fl_RX4_10 dX4_setOrder_1 ?_
  refine z_iload_n hX dX4_setOrder_4 1 rfl ?_
  refine z_iload_n hX dX4_setOrder_5 2 rfl ?_
  refine z_callV1 hX (fo_2 l z0lt hx) cv_RX4_82 (zRc6 z0lt) dX4_setOrder_6 (by decide) rfl rfl (Nat.le_of_ble_eq_true rfl) ?_
  refine z_istore_n (lv' := [(3, _), (0, _), (1, _), (2, _)]) hX dX4_setOrder_9 (by decide) rfl ?_
  refine z_iload_n hX dX4_setOrder_10 0 rfl ?_
  refine z_iconst (v := 2) hX dX4_setOrder_11 (by decide) ?_
  refine z_icmp_ne (tgt := 25) hX dX4_setOrder_12 (by decide) (fun h12 => absurd h12 (fun q => q rfl)) (fun h12 => ?_)
  exact z_throw hX hT hl0 (i := 5) ft_IOE zN2_fit cl_IOE in_IOE rfl (zhat h1_IOE h2_IOE hX) go_IOE dX4_setOrder_15 dX4_setOrder_18 dX4_setOrder_19 dX4_setOrder_21 dX4_setOrder_24 (by decide) (Nat.le_of_ble_eq_true rfl) rfl (fun _ h => h)
set_option maxHeartbeats 4000000 in
set_option maxRecDepth 100000 in
theorem no2_X4_setOrder (l : Launch) (hl0 : l.stackTraces = false) {g : zG} {κ : zKp} {μ : zMu} {ω : zOm} {gb cb : Nat → Int32} {i : Nat} (hn : bnI gb) (hlt : i < bn gb) {z : Int32} (hz : ¬ ordO z) : zMx l g yX4_setOrder cX4_setOrder 4 (some .char) 7 1 [.ref (gA g 0 0 0), .int (nI i), .int z] (zF κ 0 gb cb) μ ω (zF κ 0 gb cb) μ ω (.error xIAE) := by
  refine zMx_of (by decide) (Nat.le_of_ble_eq_true rfl) (fun p e R s m args below meth c hX hT => ?_)
  show zZ p l e R s m args below meth c g 4 _ _ _ _ 0 0 [(0, .ref (gA g 0 0 0)), (1, .int (nI i)), (2, .int z)] []
  refine z_aload_n hX dX4_setOrder_0 0 rfl ?_
  refine zg_X4_field hX   fl_RX4_10 dX4_setOrder_1 ?_
  refine z_iload_n hX dX4_setOrder_4 1 rfl ?_
  refine z_iload_n hX dX4_setOrder_5 2 rfl ?_
  refine z_callV1 hX (fo_1 l z0lt hn hlt hz) cv_RX4_82 (zRc6 z0lt) dX4_setOrder_6 (by decide) rfl rfl (Nat.le_of_ble_eq_true rfl) ?_
  refine z_istore_n (lv' := [(3, _), (0, _), (1, _), (2, _)]) hX dX4_setOrder_9 (by decide) rfl ?_
  refine z_iload_n hX dX4_setOrder_10 0 rfl ?_
  refine z_iconst (v := 2) hX dX4_setOrder_11 (by decide) ?_
  refine z_icmp_ne (tgt := 25) hX dX4_setOrder_12 (by decide) (fun h12 => ?_) (fun h12 => absurd h12 (by decide))
  refine z_iload_n hX dX4_setOrder_25 0 rfl ?_
  refine z_iconst (v := 1) hX dX4_setOrder_26 (by decide) ?_
  refine z_icmp_ne (tgt := 40) hX dX4_setOrder_27 (by decide) (fun h27 => absurd h27 (fun q => q rfl)) (fun h27 => ?_)
  exact z_throw hX hT hl0 (i := 6) ft_IAE zN2_fit cl_IAE in_IAE rfl (zhat h1_IAE h2_IAE hX) go_IAE dX4_setOrder_30 dX4_setOrder_33 dX4_setOrder_34 dX4_setOrder_36 dX4_setOrder_39 (by decide) (Nat.le_of_ble_eq_true rfl) rfl (fun _ h => h)
set_option maxHeartbeats 4000000 in
set_option maxRecDepth 100000 in
theorem no3_X4_setOrder (l : Launch) (hl0 : l.stackTraces = false) {g : zG} {κ : zKp} {μ : zMu} {ω : zOm} {gb cb : Nat → Int32} {i : Nat} (hn : bnI gb) (hlt : i < bn gb) {z : Int32} (hz : ordO z) (h7 : ¬ bf gb i 7 = 0) : zMx l g yX4_setOrder cX4_setOrder 4 (some .char) 7 1 [.ref (gA g 0 0 0), .int (nI i), .int z] (zF κ 0 gb cb) μ ω (zF κ 0 gb cb) μ ω (.error xISE) := by
  refine zMx_of (by decide) (Nat.le_of_ble_eq_true rfl) (fun p e R s m args below meth c hX hT => ?_)
  show zZ p l e R s m args below meth c g 4 _ _ _ _ 0 0 [(0, .ref (gA g 0 0 0)), (1, .int (nI i)), (2, .int z)] []
  refine z_aload_n hX dX4_setOrder_0 0 rfl ?_
  refine zg_X4_field hX   fl_RX4_10 dX4_setOrder_1 ?_
  refine z_iload_n hX dX4_setOrder_4 1 rfl ?_
  refine z_iload_n hX dX4_setOrder_5 2 rfl ?_
  refine z_callV1 hX (fo_3 l z0lt hn hlt hz h7) cv_RX4_82 (zRc6 z0lt) dX4_setOrder_6 (by decide) rfl rfl (Nat.le_of_ble_eq_true rfl) ?_
  refine z_istore_n (lv' := [(3, _), (0, _), (1, _), (2, _)]) hX dX4_setOrder_9 (by decide) rfl ?_
  refine z_iload_n hX dX4_setOrder_10 0 rfl ?_
  refine z_iconst (v := 2) hX dX4_setOrder_11 (by decide) ?_
  refine z_icmp_ne (tgt := 25) hX dX4_setOrder_12 (by decide) (fun h12 => ?_) (fun h12 => absurd h12 (by decide))
  refine z_iload_n hX dX4_setOrder_25 0 rfl ?_
  refine z_iconst (v := 1) hX dX4_setOrder_26 (by decide) ?_
  refine z_icmp_ne (tgt := 40) hX dX4_setOrder_27 (by decide) (fun h27 => ?_) (fun h27 => absurd h27 (by decide))
  refine z_iload_n hX dX4_setOrder_40 0 rfl ?_
  refine z_iconst (v := 3) hX dX4_setOrder_41 (by decide) ?_
  refine z_icmp_ne (tgt := 55) hX dX4_setOrder_42 (by decide) (fun h42 => absurd h42 (fun q => q rfl)) (fun h42 => ?_)
  exact z_throw hX hT hl0 (i := 7) ft_ISE zN2_fit cl_ISE in_ISE rfl (zhat h1_ISE h2_ISE hX) go_ISE dX4_setOrder_45 dX4_setOrder_48 dX4_setOrder_49 dX4_setOrder_51 dX4_setOrder_54 (by decide) (Nat.le_of_ble_eq_true rfl) rfl (fun _ h => h)
end ZFT
