section ZEN
/-- the column at a distance ahead -/
def posB (g : zB) (i d : Nat) : Int32 := bf g i 2 + nI d * wayB g i
/-- the first enemy ahead, among n cells from distance d -/
def enS (g : zB) (i : Nat) : Nat → Nat → Int32
  | 0, _ => -1
  | n + 1, d => match occB g (bf g i 1) (posB g i d) with
    | some j => if bf g j 0 = bf g i 0 then enS g i n (d + 1) else nI j
    | none => enS g i n (d + 1)
def enB (g : zB) (i : Nat) : Int32 := enS g i 9 1
theorem enS_n {g : zB} {i n d : Nat} (h : occB g (bf g i 1) (posB g i d) = none) : enS g i (n + 1) d = enS g i n (d + 1) := by rw [enS, h]
theorem enS_f {g : zB} {i n d j : Nat} (h : occB g (bf g i 1) (posB g i d) = some j) (h2 : bf g j 0 = bf g i 0) : enS g i (n + 1) d = enS g i n (d + 1) := by
  rw [enS, h]; exact if_pos h2
theorem enS_e {g : zB} {i n d j : Nat} (h : occB g (bf g i 1) (posB g i d) = some j) (h2 : ¬ bf g j 0 = bf g i 0) : enS g i (n + 1) d = nI j := by
  rw [enS, h]; exact if_neg h2
theorem enS_of {g : zB} {i : Nat} (hn : bn g ≤ 12) : ∀ n d, enS g i n d = -1 ∨ ∃ j, j < bn g ∧ enS g i n d = nI j
  | 0, _ => Or.inl rfl
  | n + 1, d => by
    rcases ho : occB g (bf g i 1) (posB g i d) with _ | j
    · rw [enS_n ho]; exact enS_of hn n (d + 1)
    · by_cases h : bf g j 0 = bf g i 0
      · rw [enS_f ho h]; exact enS_of hn n (d + 1)
      · rw [enS_e ho h]; exact Or.inr ⟨j, (occ_some hn ho).1, rfl⟩
set_option maxHeartbeats 4000000 in
set_option maxRecDepth 100000 in
theorem ok_X1_enemyInCells (l : Launch) {g : zG} {κ : zKp} {μ : zMu} {ω : zOm} {f : Nat} {gb cb : Nat → Int32} (hf : f < 11) {i : Nat} (hn : bnI gb) (hc : cb = cellsOf gb) (hlt : i < bn gb) : zM l g yX1_enemyInCells cX1_enemyInCells 4 (some .int) 3 0 [.ref (gA g 6 f 0), .ref (gA g 9 f i)] (zF κ f gb cb) μ ω (zF κ f gb cb) μ ω (some (.int (enB gb i))) := by
  refine zM_of (by decide) (Nat.le_of_ble_eq_true rfl) (fun p e R s m args below meth c hX => ?_)
  show zZ p l e R s m args below meth c g 4 _ _ _ _ 0 0 [(0, .ref (gA g 6 f 0)), (1, .ref (gA g 9 f i))] []
  refine z_iconst (v := 1) hX dX1_enemyInCells_0 (by decide) ?_
  refine z_istore_n (lv' := [(2, _), (0, _), (1, _)]) hX dX1_enemyInCells_1 (by decide) rfl ?_
  have hL : ∀ (dz : Nat) (k : Nat), 10 - k = dz → 1 ≤ k → k ≤ 10 → enS gb i (10 - k) k = enB gb i → zZ p l e R s m args below meth c g 4 (zQ g (zF κ f gb cb) μ ω (some (.int (enB gb i))) below args s 0) (zF κ f gb cb) μ ω 0 2 [(0, .ref (gA g 6 f 0)), (1, .ref (gA g 9 f i)), (2, .int (nI k))] [] := by
    intro dz
    induction dz with
    | zero =>
      intro k hd h1 hk he
      have hkn : k = 10 := by omega
      refine z_iload_n hX dX1_enemyInCells_2 2 rfl ?_
      refine z_bipush (v := 10) hX dX1_enemyInCells_3 (by decide) ?_
      refine z_icmp_ge (tgt := 54) hX dX1_enemyInCells_5 (by decide) (fun h5 => ?_) (fun h5 => absurd h5 (Classical.not_not.mpr (le_i (a := 10) (b := k) (by omega) (by omega))))
      refine z_iconst (v := -1) hX dX1_enemyInCells_54 (by decide) ?_
      exact z_iretI hX dX1_enemyInCells_55 (by decide) (by rw [hkn] at he; rw [← he]; rfl) (fun _ h => h)
    | succ dz ih =>
      intro k hd h1 hk he
      have hkn : k < 10 := by omega
      refine z_iload_n hX dX1_enemyInCells_2 2 rfl ?_
      refine z_bipush (v := 10) hX dX1_enemyInCells_3 (by decide) ?_
      refine z_icmp_ge (tgt := 54) hX dX1_enemyInCells_5 (by decide) (fun h5 => absurd h5 (nle_i (a := k) (b := 10) hkn (by decide))) (fun h5 => ?_)
      refine z_aload_n hX dX1_enemyInCells_8 0 rfl ?_
      refine z_aload_n hX dX1_enemyInCells_9 1 rfl ?_
      refine zg_X3_lane hX hf (lt12 hn hlt) hlt  fl_RX1_82 dX1_enemyInCells_10 ?_
      refine z_aload_n hX dX1_enemyInCells_13 1 rfl ?_
      refine zg_X3_column hX hf (lt12 hn hlt) hlt  fl_RX1_85 dX1_enemyInCells_14 ?_
      refine z_iload_n hX dX1_enemyInCells_17 2 rfl ?_
      refine z_aload_n hX dX1_enemyInCells_18 1 rfl ?_
      refine z_callV1 hX (ok_X3_forward l hf (lt12 hn hlt) hlt) cv_RX1_135 (zRc9 hf (lt12 hn hlt)) dX1_enemyInCells_19 (by decide) rfl rfl (Nat.le_of_ble_eq_true rfl) ?_
      refine z_imul hX dX1_enemyInCells_22 ?_
      refine z_iadd hX dX1_enemyInCells_23 ?_
      rcases ho : occB gb (bf gb i 1) (posB gb i k) with _ | j
      · skip
        refine z_callV1 hX (ok_occ_n l hf hn hc ho) cv_RX1_75 (zRc6 hf) dX1_enemyInCells_24 (by decide) rfl rfl (Nat.le_of_ble_eq_true rfl) ?_
        refine z_nstore_n (lv' := [(3, _), (0, _), (1, _), (2, _)]) hX dX1_enemyInCells_27 (by decide) rfl ?_
        refine z_nload_n hX dX1_enemyInCells_28 0 rfl ?_
        refine z_ifnullN (tgt := 48) hX dX1_enemyInCells_29 (by decide) ?_
        refine z_iinc (v := nI (k + 1)) (lv' := [(2, _), (3, _), (0, _), (1, _)]) hX dX1_enemyInCells_48 3 rfl (nI_1 k) (by decide) rfl ?_
        refine z_goto (tgt := 2) hX dX1_enemyInCells_51 (by decide) ?_
        refine z_sub [2, 3, 0] rfl ?_
        exact ih (k + 1) (by omega) (by omega) hkn (by rw [show 10 - k = (10 - (k + 1)) + 1 by omega, enS_n ho] at he; exact he)
      · skip
        refine z_callV1 hX (ok_occ_s l hf hn hc ho) cv_RX1_75 (zRc6 hf) dX1_enemyInCells_24 (by decide) rfl rfl (Nat.le_of_ble_eq_true rfl) ?_
        refine z_astore_n (lv' := [(3, _), (0, _), (1, _), (2, _)]) hX dX1_enemyInCells_27 (by decide) rfl ?_
        refine z_aload_n hX dX1_enemyInCells_28 0 rfl ?_
        refine z_ifnull hX dX1_enemyInCells_29 ?_
        refine z_aload_n hX dX1_enemyInCells_32 0 rfl ?_
        refine zg_X3_side hX hf (lt12 hn (occ_some hn.1 ho).1) (occ_some hn.1 ho).1  fl_RX1_79 dX1_enemyInCells_33 ?_
        refine z_aload_n hX dX1_enemyInCells_36 2 rfl ?_
        refine zg_X3_side hX hf (lt12 hn hlt) hlt  fl_RX1_79 dX1_enemyInCells_37 ?_
        refine z_icmp_eq (tgt := 48) hX dX1_enemyInCells_40 (by decide) (fun h40 => ?_) (fun h40 => ?_)
        · skip
          refine z_iinc (v := nI (k + 1)) (lv' := [(2, _), (3, _), (0, _), (1, _)]) hX dX1_enemyInCells_48 3 rfl (nI_1 k) (by decide) rfl ?_
          refine z_goto (tgt := 2) hX dX1_enemyInCells_51 (by decide) ?_
          refine z_sub [2, 3, 0] rfl ?_
          exact ih (k + 1) (by omega) (by omega) hkn (by rw [show 10 - k = (10 - (k + 1)) + 1 by omega, enS_f ho h40] at he; exact he)
        · skip
          refine z_aload_n hX dX1_enemyInCells_43 0 rfl ?_
          refine zg_X3_number hX hf (lt12 hn (occ_some hn.1 ho).1) (occ_some hn.1 ho).1  fl_RX1_147 dX1_enemyInCells_44 ?_
          exact z_iretI hX dX1_enemyInCells_47 (by decide) (by rw [show 10 - k = (10 - (k + 1)) + 1 by omega, enS_e ho h40] at he; rw [← he]) (fun _ h => h)
  refine z_sub [1, 2, 0] rfl ?_
  exact hL 9 1 rfl (Nat.le_refl _) (by decide) rfl
set_option maxHeartbeats 4000000 in
set_option maxRecDepth 100000 in
theorem ok_X4_enemyAhead (l : Launch) {g : zG} {κ : zKp} {μ : zMu} {ω : zOm} {gb cb : Nat → Int32} {i : Nat} (hn : bnI gb) (hc : cb = cellsOf gb) (hlt : i < bn gb) (h7 : ¬ bf gb i 7 = 2) (h0 : ¬ enB gb i = -1) : zM l g yX4_enemyAhead cX4_enemyAhead 3 (some .int) 4 0 [.ref (gA g 0 0 0), .int (nI i)] (zF κ 0 gb cb) μ ω (zF κ 0 gb cb) μ ω (some (.int (enB gb i))) := by
  refine zM_of (by decide) (Nat.le_of_ble_eq_true rfl) (fun p e R s m args below meth c hX => ?_)
  show zZ p l e R s m args below meth c g 3 _ _ _ _ 0 0 [(0, .ref (gA g 0 0 0)), (1, .int (nI i))] []
  refine z_aload_n hX dX4_enemyAhead_0 0 rfl ?_
  refine zg_X4_field hX   fl_RX4_10 dX4_enemyAhead_1 ?_
  refine z_aload_n hX dX4_enemyAhead_4 0 rfl ?_
  refine z_iload_n hX dX4_enemyAhead_5 1 rfl ?_
  refine z_callV1 hX (ok_X4_unfallen l hn hlt h7) cv_RX4_126 zRc0 dX4_enemyAhead_6 (by decide) rfl rfl (Nat.le_of_ble_eq_true rfl) ?_
  refine z_callV1 hX (ok_X1_enemyInCells l z0lt hn hc hlt) cv_RX4_193 (zRc6 z0lt) dX4_enemyAhead_9 (by decide) rfl rfl (Nat.le_of_ble_eq_true rfl) ?_
  refine z_istore_n (lv' := [(2, _), (0, _), (1, _)]) hX dX4_enemyAhead_12 (by decide) rfl ?_
  refine z_iload_n hX dX4_enemyAhead_13 0 rfl ?_
  refine z_iconst (v := -1) hX dX4_enemyAhead_14 (by decide) ?_
  refine z_icmp_ne (tgt := 28) hX dX4_enemyAhead_15 (by decide) (fun h15 => ?_) (fun h15 => absurd h15 h0)
  refine z_iload_n hX dX4_enemyAhead_28 0 rfl ?_
  exact z_iretI hX dX4_enemyAhead_29 (by decide) rfl (fun _ h => h)
set_option maxHeartbeats 4000000 in
set_option maxRecDepth 100000 in
theorem em_X4_enemyAhead (l : Launch) (hl0 : l.stackTraces = false) {g : zG} {κ : zKp} {μ : zMu} {ω : zOm} {gb cb : Nat → Int32} {i : Nat} (hn : bnI gb) (hc : cb = cellsOf gb) (hlt : i < bn gb) (h7 : ¬ bf gb i 7 = 2) (h0 : enB gb i = -1) : zMx l g yX4_enemyAhead cX4_enemyAhead 3 (some .int) 6 1 [.ref (gA g 0 0 0), .int (nI i)] (zF κ 0 gb cb) μ ω (zF κ 0 gb cb) μ ω (.error xNSE) := by
  refine zMx_of (by decide) (Nat.le_of_ble_eq_true rfl) (fun p e R s m args below meth c hX hT => ?_)
  show zZ p l e R s m args below meth c g 3 _ _ _ _ 0 0 [(0, .ref (gA g 0 0 0)), (1, .int (nI i))] []
  refine z_aload_n hX dX4_enemyAhead_0 0 rfl ?_
  refine zg_X4_field hX   fl_RX4_10 dX4_enemyAhead_1 ?_
  refine z_aload_n hX dX4_enemyAhead_4 0 rfl ?_
  refine z_iload_n hX dX4_enemyAhead_5 1 rfl ?_
  refine z_callV1 hX (ok_X4_unfallen l hn hlt h7) cv_RX4_126 zRc0 dX4_enemyAhead_6 (by decide) rfl rfl (Nat.le_of_ble_eq_true rfl) ?_
  refine z_callV1 hX (ok_X1_enemyInCells l z0lt hn hc hlt) cv_RX4_193 (zRc6 z0lt) dX4_enemyAhead_9 (by decide) rfl rfl (Nat.le_of_ble_eq_true rfl) ?_
  refine z_istore_n (lv' := [(2, _), (0, _), (1, _)]) hX dX4_enemyAhead_12 (by decide) rfl ?_
  refine z_iload_n hX dX4_enemyAhead_13 0 rfl ?_
  refine z_iconst (v := -1) hX dX4_enemyAhead_14 (by decide) ?_
  refine z_icmp_ne (tgt := 28) hX dX4_enemyAhead_15 (by decide) (fun h15 => absurd h15 (fun q => q h0)) (fun h15 => ?_)
  exact z_throwN hX hT hl0 (i := 13) rfl dX4_enemyAhead_18 dX4_enemyAhead_21 dX4_enemyAhead_22 dX4_enemyAhead_24 dX4_enemyAhead_27 (by decide) (Nat.le_of_ble_eq_true rfl) rfl (fun _ h => h)
theorem pos_in1 : ∀ b, b < 10 → ∀ d, d < 11 → (¬ inCol (nI b + nI d * 1) → ¬ inCol (nI b + nI (d + 1) * 1)) := by decide +kernel
theorem pos_in2 : ∀ b, b < 10 → ∀ d, d < 11 → (¬ inCol (nI b + nI d * -1) → ¬ inCol (nI b + nI (d + 1) * -1)) := by decide +kernel
theorem pos_out1 : ∀ b, b < 10 → ¬ inCol (nI b + nI 10 * 1) := by decide +kernel
theorem pos_out2 : ∀ b, b < 10 → ¬ inCol (nI b + nI 10 * -1) := by decide +kernel
theorem pos_nx1 : ∀ d, d < 11 → nI d * (1 : Int32) + 1 = nI (d + 1) * 1 := by decide +kernel
theorem pos_nx2 : ∀ d, d < 11 → nI d * (-1 : Int32) + -1 = nI (d + 1) * -1 := by decide +kernel
theorem way_or (g : zB) (i : Nat) : wayB g i = 1 ∨ wayB g i = -1 := by
  unfold wayB
  by_cases h : bf g i 0 = 0
  · exact Or.inl (if_pos h)
  · exact Or.inr (if_neg h)
theorem pos_nx {g : zB} {i d : Nat} (hd : d < 11) : posB g i d + wayB g i = posB g i (d + 1) := by
  unfold posB
  rw [Int32.add_assoc]
  rcases way_or g i with e | e <;> rw [e]
  · rw [pos_nx1 d hd]
  · rw [pos_nx2 d hd]
theorem pos_0 {g : zB} {i : Nat} : posB g i 0 = bf g i 2 := by
  unfold posB
  rcases way_or g i with e | e <;> rw [e] <;> exact Int32.add_zero _
theorem pos_keep {g : zB} {i d : Nat} (hL : lineW g i) (hd : d < 11) (h : ¬ inCol (posB g i d)) : ¬ inCol (posB g i (d + 1)) := by
  obtain ⟨b, hb, e⟩ := hL.2.2.1
  unfold posB at h ⊢
  rw [e] at h ⊢
  rcases way_or g i with w | w <;> rw [w] at h ⊢
  · exact pos_in1 b hb d hd h
  · exact pos_in2 b hb d hd h
theorem pos_10 {g : zB} {i : Nat} (hL : lineW g i) : ¬ inCol (posB g i 10) := by
  obtain ⟨b, hb, e⟩ := hL.2.2.1
  unfold posB
  rw [e]
  rcases way_or g i with w | w <;> rw [w]
  · exact pos_out1 b hb
  · exact pos_out2 b hb
theorem occ_oc {g : zB} {x y : Int32} (h : ¬ inCol y) : occB g x y = none := if_neg (fun q => h q.2.1)
theorem enS_out {g : zB} {i : Nat} (hL : lineW g i) : ∀ n d, d + n ≤ 11 → ¬ inCol (posB g i d) → enS g i n d = -1
  | 0, _, _, _ => rfl
  | n + 1, d, hd, h => by
    rw [enS_n (occ_oc h)]
    exact enS_out hL n (d + 1) (by omega) (pos_keep hL (by omega) h)
/-- a cell of the field, by the lines and by the occupants -/
theorem occ_c {g : zB} {x y : Int32} (hn : bnI g) (hx : ∃ a, a < 3 ∧ x = nI a) (hy : inCol y) : (occB g x y = none ∧ cellB g x y = -1) ∨ ∃ j, j < bn g ∧ occB g x y = some j ∧ cellB g x y = nI j := by
  obtain ⟨a, ha, rfl⟩ := hx
  have h3 : 0 ≤ nI a ∧ nI a < 3 := ⟨ge_i (by omega), lt_i (b := 3) ha (by decide)⟩
  rcases ho : occB g (nI a) y with _ | j
  · exact Or.inl ⟨rfl, occ_none hn.1 ho h3 hy⟩
  · exact Or.inr ⟨j, (occ_some hn.1 ho).1, rfl, (occ_some hn.1 ho).2.1⟩
/-- a line's own cell holds no enemy -/
theorem enS_0 {g : zB} {i : Nat} (hW : batW g) (hlt : i < bn g) (h7 : ¬ bf g i 7 = 2) : enS g i 10 0 = enB g i := by
  rcases ho : occB g (bf g i 1) (posB g i 0) with _ | j
  · exact enS_n ho
  · refine enS_f ho ?_
    obtain ⟨h1, h2, h3, h4, h5, -⟩ := occ_some hW.1.1 ho
    rw [pos_0] at h5
    rw [hW.2.2.2 j i h1 hlt h3 h7 h4 h5]
theorem upd_2 {a : Nat → Int32} {q : Nat} {x y : Int32} : upd (upd a q x) q y = upd a q y := by
  funext j
  unfold upd
  by_cases e : j = q
  · rw [if_pos e, if_pos e]
  · rw [if_neg e, if_neg e, if_neg e]
theorem pos_at10 {b : zB} {i k : Nat} (hW : batW b) (hlt : i < bn b) (h : 10 ≤ k) (h2 : k < 11) (q : inCol (posB b i k)) : False := by
  rw [show k = 10 by omega] at q
  exact pos_10 (hW.2.2.1 i hlt) q


end ZEN
