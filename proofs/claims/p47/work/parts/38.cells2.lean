section ZCS
/-- the strength in a cell, of a side -/
def ceF (g : zB) (x : Int32) (c : Nat) : Int32 := match occB g (nI (c / 10)) (nI (c % 10)) with
  | some j => if bf g j 0 = x then bf g j 4 else 0
  | none => 0
abbrev inC (g : zB) (x : Int32) (c j : Nat) : Prop := (bf g j 1 = nI (c / 10) ∧ bf g j 2 = nI (c % 10)) ∧ ¬ bf g j 7 = 2 ∧ bf g j 0 = x
theorem nI_inj2 {a b : Nat} (ha : a < 100000) (hb : b < 100000) (h : nI a = nI b) : a = b := by
  have q := congrArg Int32.toNatClampNeg h
  rw [nI_clamp (by omega), nI_clamp (by omega)] at q
  exact q
theorem ceF_eq {g : zB} {x : Int32} (hW : batW g) {c : Nat} (hc : c < 30) : ceF g x c = sm (fun j => if inC g x c j then bf g j 4 else 0) (bn g) := by
  have hn := hW.1
  have hy : 0 ≤ nI (c / 10) ∧ nI (c / 10) < 3 := ⟨ge_i (by omega), lt_i (b := 3) (by omega) (by decide)⟩
  have hcol : inCol (nI (c % 10)) := ⟨ge_i (by omega), le_i (b := 9) (by omega) (by decide)⟩
  unfold ceF
  rcases ho : occB g (nI (c / 10)) (nI (c % 10)) with _ | j
  · refine (sm_zero (fun k hk => if_neg (fun q => ?_))).symm
    have h8 := occ_none hn.1 ho hy hcol
    rcases cellB_spec g (nI (c / 10)) (nI (c % 10)) with ⟨-, h2⟩ | ⟨j, q1, q2, -⟩
    · exact h2 k hk ⟨q.2.1, q.1.1, q.1.2⟩
    · exact nI_ne_m1 (by omega) (q2.symm.trans h8)
  · obtain ⟨h1, h2, h3, h4, h5, h6, h7⟩ := occ_some hn.1 ho
    show (if bf g j 0 = x then bf g j 4 else 0) = _
    rw [sm_one h1 (fun k hk hne => if_neg (fun q => hne (hW.2.2.2 k j hk h1 q.2.1 h3 (q.1.1.trans h4.symm) (q.1.2.trans h5.symm))))]
    by_cases e : bf g j 0 = x
    · rw [if_pos e, if_pos ⟨⟨h4, h5⟩, h3, e⟩]
    · rw [if_neg e, if_neg (fun q => e q.2.2)]
theorem str_cells {g : zB} {x : Int32} (hI : batI g) : sm (ceF g x) 30 = sumB g x := by
  have hW := hI.1
  rw [sm_ext (fun c hc => ceF_eq hW hc), sm_swap]
  refine sm_ext (fun j hj => ?_)
  obtain ⟨a, ha, ea⟩ := (hW.2.2.1 j hj).2.1
  obtain ⟨b, hb, eb⟩ := (hW.2.2.1 j hj).2.2.1
  unfold strF
  by_cases h7 : bf g j 7 = 2
  · rw [sm_zero (fun c _ => if_neg (fun q => q.2.1 h7)), (hI.2 j hj).mp h7]
    exact (ite_self _).symm
  · rw [sm_one (j := 10 * a + b) (by omega) (fun c hc hne => if_neg (fun q => hne ?_))]
    · by_cases e : bf g j 0 = x
      · rw [if_pos e, if_pos ⟨⟨by rw [ea, show (10 * a + b) / 10 = a by omega], by rw [eb, show (10 * a + b) % 10 = b by omega]⟩, h7, e⟩]
      · rw [if_neg e, if_neg (fun q => e q.2.2)]
    · have e1 := nI_inj2 (by omega) (by omega) (ea.symm.trans q.1.1)
      have e2 := nI_inj2 (by omega) (by omega) (eb.symm.trans q.1.2)
      omega
set_option maxHeartbeats 4000000 in
set_option maxRecDepth 100000 in
theorem ok_X1_strengthInCells (l : Launch) {g : zG} {κ : zKp} {μ : zMu} {ω : zOm} {f : Nat} {gb cb : Nat → Int32} (hf : f < 11) {x : Int32} (hI : batI gb) (hc : cb = cellsOf gb) : zM l g yX1_strengthInCells cX1_strengthInCells 6 (some .int) 3 0 [.ref (gA g 6 f 0), .int x] (zF κ f gb cb) μ ω (zF κ f gb cb) μ ω (some (.int (sumB gb x))) := by
  have hn := hI.1.1
  refine zM_of (by decide) (Nat.le_of_ble_eq_true rfl) (fun p e R s m args below meth c hX => ?_)
  show zZ p l e R s m args below meth c g 6 _ _ _ _ 0 0 [(0, .ref (gA g 6 f 0)), (1, .int x)] []
  refine z_iconst (v := 0) hX dX1_strengthInCells_0 (by decide) ?_
  refine z_istore_n (lv' := [(2, _), (0, _), (1, _)]) hX dX1_strengthInCells_1 (by decide) rfl ?_
  refine z_iconst (v := 0) hX dX1_strengthInCells_2 (by decide) ?_
  refine z_istore_n (lv' := [(3, _), (2, _), (0, _), (1, _)]) hX dX1_strengthInCells_3 (by decide) rfl ?_
  have hL : ∀ (dz : Nat) (k : Nat) (sv : Int32), 3 - k = dz → k ≤ 3 → sv = sm (ceF gb x) (10 * k) → zZ p l e R s m args below meth c g 6 (zQ g (zF κ f gb cb) μ ω (some (.int (sumB gb x))) below args s 0) (zF κ f gb cb) μ ω 0 4 [(0, .ref (gA g 6 f 0)), (1, .int x), (2, .int sv), (3, .int (nI k))] [] := by
    intro dz
    induction dz with
    | zero =>
      intro k sv hd hk hs
      have hkn : k = 3 := by omega
      refine z_iload_n hX dX1_strengthInCells_4 3 rfl ?_
      refine z_iconst (v := 3) hX dX1_strengthInCells_5 (by decide) ?_
      refine z_icmp_ge (tgt := 62) hX dX1_strengthInCells_6 (by decide) (fun h6 => ?_) (fun h6 => absurd h6 (Classical.not_not.mpr (le_i (a := 3) (b := k) (by omega) (by omega))))
      refine z_iload_n hX dX1_strengthInCells_62 2 rfl ?_
      exact z_iretI hX dX1_strengthInCells_63 (by decide) (by rw [hs, hkn]; exact congrArg (fun z => some (Value.int z)) (str_cells hI).symm) (fun _ h => h)
    | succ dz ih =>
      intro k sv hd hk hs
      have hkn : k < 3 := by omega
      refine z_iload_n hX dX1_strengthInCells_4 3 rfl ?_
      refine z_iconst (v := 3) hX dX1_strengthInCells_5 (by decide) ?_
      refine z_icmp_ge (tgt := 62) hX dX1_strengthInCells_6 (by decide) (fun h6 => absurd h6 (nle_i (a := k) (b := 3) hkn (by decide))) (fun h6 => ?_)
      refine z_iconst (v := 0) hX dX1_strengthInCells_9 (by decide) ?_
      refine z_istore (lv' := [(4, _), (0, _), (1, _), (2, _), (3, _)]) hX dX1_strengthInCells_10 (by decide) rfl ?_
      have hL2 : ∀ (dz : Nat) (q : Nat) (sv : Int32), 10 - q = dz → q ≤ 10 → sv = sm (ceF gb x) (10 * k + q) → zZ p l e R s m args below meth c g 6 (zQ g (zF κ f gb cb) μ ω (some (.int (sumB gb x))) below args s 0) (zF κ f gb cb) μ ω 0 12 [(0, .ref (gA g 6 f 0)), (1, .int x), (2, .int sv), (3, .int (nI k)), (4, .int (nI q))] [] := by
        intro dz
        induction dz with
        | zero =>
          intro q sv hd2 hq hs2
          have hqn : q = 10 := by omega
          refine z_iload hX dX1_strengthInCells_12 4 rfl ?_
          refine z_bipush (v := 10) hX dX1_strengthInCells_14 (by decide) ?_
          refine z_icmp_ge (tgt := 56) hX dX1_strengthInCells_16 (by decide) (fun h16 => ?_) (fun h16 => absurd h16 (Classical.not_not.mpr (le_i (a := 10) (b := q) (by omega) (by omega))))
          refine z_iinc (v := nI (k + 1)) (lv' := [(3, _), (0, _), (1, _), (2, _), (4, _)]) hX dX1_strengthInCells_56 3 rfl (nI_1 k) (by decide) rfl ?_
          refine z_goto (tgt := 4) hX dX1_strengthInCells_59 (by decide) ?_
          refine z_sub [1, 2, 3, 0] rfl ?_
          exact ih (k + 1) _ (by omega) hkn (by rw [hs2, hqn]; rfl)
        | succ dz ih =>
          intro q sv hd2 hq hs2
          have hqn : q < 10 := by omega
          have hs := hs2
          have ho2 : ∀ r, occB gb (nI k) (nI q) = r → occB gb (nI ((10 * k + q) / 10)) (nI ((10 * k + q) % 10)) = r := fun r h => (by rw [show (10 * k + q) / 10 = k by omega, show (10 * k + q) % 10 = q by omega]; exact h)
          refine z_iload hX dX1_strengthInCells_12 4 rfl ?_
          refine z_bipush (v := 10) hX dX1_strengthInCells_14 (by decide) ?_
          refine z_icmp_ge (tgt := 56) hX dX1_strengthInCells_16 (by decide) (fun h16 => absurd h16 (nle_i (a := q) (b := 10) hqn (by decide))) (fun h16 => ?_)
          refine z_aload_n hX dX1_strengthInCells_19 0 rfl ?_
          refine z_iload_n hX dX1_strengthInCells_20 3 rfl ?_
          refine z_iload hX dX1_strengthInCells_21 4 rfl ?_
          rcases ho : occB gb (nI k) (nI q) with _ | j
          · skip
            refine z_callV1 hX (ok_occ_n l hf hn hc ho) cv_RX1_75 (zRc6 hf) dX1_strengthInCells_23 (by decide) rfl rfl (Nat.le_of_ble_eq_true rfl) ?_
            refine z_nstore (lv' := [(5, _), (0, _), (1, _), (2, _), (3, _), (4, _)]) hX dX1_strengthInCells_26 (by decide) rfl ?_
            refine z_nload hX dX1_strengthInCells_28 0 rfl ?_
            refine z_ifnullN (tgt := 50) hX dX1_strengthInCells_30 (by decide) ?_
            refine z_iinc (v := nI (q + 1)) (lv' := [(4, _), (5, _), (0, _), (1, _), (2, _), (3, _)]) hX dX1_strengthInCells_50 5 rfl (nI_1 q) (by decide) rfl ?_
            refine z_goto (tgt := 12) hX dX1_strengthInCells_53 (by decide) ?_
            refine z_sub [2, 3, 4, 5, 0] rfl ?_
            exact ih (q + 1) _ (by omega) hqn (show sv = sm (ceF gb x) (10 * k + q) + ceF gb x (10 * k + q) by rw [ceF, ho2 _ ho, hs]; exact (Int32.add_zero _).symm)
          · skip
            refine z_callV1 hX (ok_occ_s l hf hn hc ho) cv_RX1_75 (zRc6 hf) dX1_strengthInCells_23 (by decide) rfl rfl (Nat.le_of_ble_eq_true rfl) ?_
            refine z_astore (lv' := [(5, _), (0, _), (1, _), (2, _), (3, _), (4, _)]) hX dX1_strengthInCells_26 (by decide) rfl ?_
            refine z_aload hX dX1_strengthInCells_28 0 rfl ?_
            refine z_ifnull hX dX1_strengthInCells_30 ?_
            refine z_aload hX dX1_strengthInCells_33 0 rfl ?_
            refine zg_X3_side hX hf (lt12 hn (occ_some hn.1 ho).1) (occ_some hn.1 ho).1  fl_RX1_79 dX1_strengthInCells_35 ?_
            refine z_iload_n hX dX1_strengthInCells_38 2 rfl ?_
            refine z_icmp_ne (tgt := 50) hX dX1_strengthInCells_39 (by decide) (fun h39 => ?_) (fun h39 => ?_)
            · skip
              refine z_iinc (v := nI (q + 1)) (lv' := [(4, _), (5, _), (0, _), (1, _), (2, _), (3, _)]) hX dX1_strengthInCells_50 5 rfl (nI_1 q) (by decide) rfl ?_
              refine z_goto (tgt := 12) hX dX1_strengthInCells_53 (by decide) ?_
              refine z_sub [2, 3, 4, 5, 0] rfl ?_
              exact ih (q + 1) _ (by omega) hqn (show sv = sm (ceF gb x) (10 * k + q) + ceF gb x (10 * k + q) by rw [ceF, ho2 _ ho, hs]; show _ = _ + (if _ then _ else _); rw [if_neg h39, Int32.add_zero])
            · skip
              refine z_iload_n hX dX1_strengthInCells_42 3 rfl ?_
              refine z_aload hX dX1_strengthInCells_43 0 rfl ?_
              refine zg_X3_strength hX hf (lt12 hn (occ_some hn.1 ho).1) (occ_some hn.1 ho).1  fl_RX1_95 dX1_strengthInCells_45 ?_
              refine z_iadd hX dX1_strengthInCells_48 ?_
              refine z_istore_n (lv' := [(2, _), (5, _), (0, _), (1, _), (3, _), (4, _)]) hX dX1_strengthInCells_49 (by decide) rfl ?_
              refine z_iinc (v := nI (q + 1)) (lv' := [(4, _), (2, _), (5, _), (0, _), (1, _), (3, _)]) hX dX1_strengthInCells_50 5 rfl (nI_1 q) (by decide) rfl ?_
              refine z_goto (tgt := 12) hX dX1_strengthInCells_53 (by decide) ?_
              refine z_sub [3, 4, 1, 5, 0] rfl ?_
              exact ih (q + 1) _ (by omega) hqn (show sv + bf gb j 4 = sm (ceF gb x) (10 * k + q) + ceF gb x (10 * k + q) by rw [ceF, ho2 _ ho, hs]; show _ = _ + (if _ then _ else _); rw [if_pos h39])
      refine z_sub [1, 2, 3, 4, 0] rfl ?_
      exact hL2 10 0 _ (Nat.sub_zero _) (Nat.zero_le _) hs
  refine z_sub [2, 3, 1, 0] rfl ?_
  exact hL 3 0 0 (Nat.sub_zero _) (Nat.zero_le _) rfl
set_option maxHeartbeats 4000000 in
set_option maxRecDepth 100000 in
theorem ok_X4_strengthByCells (l : Launch) {g : zG} {κ : zKp} {μ : zMu} {ω : zOm} {gb cb : Nat → Int32} {x : Int32} (hI : batI gb) (hc : cb = cellsOf gb) (hx : 0 ≤ x ∧ x < 2) : zM l g yX4_strengthByCells cX4_strengthByCells 2 (some .int) 5 0 [.ref (gA g 0 0 0), .int x] (zF κ 0 gb cb) μ ω (zF κ 0 gb cb) μ ω (some (.int (sumB gb x))) := by
  refine zM_of (by decide) (Nat.le_of_ble_eq_true rfl) (fun p e R s m args below meth c hX => ?_)
  show zZ p l e R s m args below meth c g 2 _ _ _ _ 0 0 [(0, .ref (gA g 0 0 0)), (1, .int x)] []
  refine z_iload_n hX dX4_strengthByCells_0 1 rfl ?_
  refine z_callS0 hX (ok_X4_requireSide l hx) cs_RX4_209 dX4_strengthByCells_1 (by decide) rfl rfl (Nat.le_of_ble_eq_true rfl) ?_
  refine z_aload_n hX dX4_strengthByCells_4 0 rfl ?_
  refine zg_X4_field hX   fl_RX4_10 dX4_strengthByCells_5 ?_
  refine z_iload_n hX dX4_strengthByCells_8 1 rfl ?_
  refine z_callV1 hX (ok_X1_strengthInCells l z0lt hI hc) cv_RX4_219 (zRc6 z0lt) dX4_strengthByCells_9 (by decide) rfl rfl (Nat.le_of_ble_eq_true rfl) ?_
  exact z_iretI hX dX4_strengthByCells_12 (by decide) rfl (fun _ h => h)
set_option maxHeartbeats 4000000 in
set_option maxRecDepth 100000 in
theorem ok_X4_supportOf (l : Launch) {g : zG} {κ : zKp} {μ : zMu} {ω : zOm} {gb cb : Nat → Int32} {i : Nat} (hW : batW gb) (hc : cb = cellsOf gb) (hlt : i < bn gb) (h7 : ¬ bf gb i 7 = 2) : zM l g yX4_supportOf cX4_supportOf 2 (some .int) 5 0 [.ref (gA g 0 0 0), .int (nI i)] (zF κ 0 gb cb) μ ω (zF κ 0 gb cb) μ ω (some (.int (supB gb i))) := by
  have hn := hW.1
  refine zM_of (by decide) (Nat.le_of_ble_eq_true rfl) (fun p e R s m args below meth c hX => ?_)
  show zZ p l e R s m args below meth c g 2 _ _ _ _ 0 0 [(0, .ref (gA g 0 0 0)), (1, .int (nI i))] []
  refine z_aload_n hX dX4_supportOf_0 0 rfl ?_
  refine zg_X4_field hX   fl_RX4_10 dX4_supportOf_1 ?_
  refine z_aload_n hX dX4_supportOf_4 0 rfl ?_
  refine z_iload_n hX dX4_supportOf_5 1 rfl ?_
  refine z_callV1 hX (ok_X4_unfallen l hn hlt h7) cv_RX4_126 zRc0 dX4_supportOf_6 (by decide) rfl rfl (Nat.le_of_ble_eq_true rfl) ?_
  refine z_callV1 hX (ok_X1_supportInCells l z0lt hW hc hlt) cv_RX4_186 (zRc6 z0lt) dX4_supportOf_9 (by decide) rfl rfl (Nat.le_of_ble_eq_true rfl) ?_
  exact z_iretI hX dX4_supportOf_12 (by decide) rfl (fun _ h => h)
end ZCS
