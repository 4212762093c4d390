section ZCE
theorem sm_zero {f : Nat → Int32} : ∀ {n : Nat}, (∀ k, k < n → f k = 0) → sm f n = 0
  | 0, _ => rfl
  | n + 1, h => by rw [sm, sm_zero (fun k hk => h k (by omega)), h n (by omega)]; rfl
theorem sm_ext {f g : Nat → Int32} : ∀ {n : Nat}, (∀ k, k < n → f k = g k) → sm f n = sm g n
  | 0, _ => rfl
  | n + 1, h => by rw [sm, sm, sm_ext (fun k hk => h k (by omega)), h n (by omega)]
theorem sm_one {f : Nat → Int32} {j : Nat} : ∀ {n : Nat}, j < n → (∀ k, k < n → ¬ k = j → f k = 0) → sm f n = f j
  | 0, h, _ => absurd h (Nat.not_lt_zero _)
  | n + 1, h, h2 => by
    by_cases e : j = n
    · subst e
      rw [sm, sm_zero (fun k hk => h2 k (by omega) (by omega)), Int32.zero_add]
    · rw [sm, sm_one (by omega) (fun k hk => h2 k (by omega)), h2 n (by omega) (fun q => e q.symm), Int32.add_zero]
theorem sm_add {f g : Nat → Int32} : ∀ {n : Nat}, sm (fun k => f k + g k) n = sm f n + sm g n
  | 0 => rfl
  | n + 1 => by
    rw [sm, sm, sm, sm_add, Int32.add_assoc, Int32.add_assoc, ← Int32.add_assoc (sm g n), Int32.add_comm (sm g n) (f n), Int32.add_assoc]
theorem sm_swap {F : Nat → Nat → Int32} {n : Nat} : ∀ {m : Nat}, sm (fun c => sm (F c) n) m = sm (fun j => sm (fun c => F c j) m) n
  | 0 => (sm_zero (fun _ _ => rfl)).symm
  | m + 1 => by
    rw [sm, sm_swap, ← sm_add]; rfl
theorem supN_sm {g : zB} {i : Nat} : ∀ n, supN g i n = sm (fun j => if nearB g i j then 1 else 0) n
  | 0 => rfl
  | n + 1 => by rw [supN, sm, supN_sm n]
/-- the support out of a cell -/
def scT (g : zB) (i : Nat) (y : Int32) : Int32 := match occB g y (bf g i 2) with
  | some j => if bf g j 0 = bf g i 0 ∧ bf g j 7 = 0 then 1 else 0
  | none => 0
def scN (g : zB) (i : Nat) : Nat → Int32
  | 0 => 0
  | k + 1 => scN g i k + scT g i (bf g i 1 - 1 + nI (2 * k))
abbrev inY (g : zB) (i : Nat) (y : Int32) (j : Nat) : Prop := bf g j 1 = y ∧ bf g j 2 = bf g i 2 ∧ bf g j 7 = 0 ∧ bf g j 0 = bf g i 0
theorem near3 : ∀ a, a < 3 → ∀ b, b < 3 → ((nI b - nI a) * (nI b - nI a) = 1 ↔ (nI b = nI a - 1 + nI 0 ∨ nI b = nI a - 1 + nI 2)) ∧ ¬ (nI b = nI a - 1 + nI 0 ∧ nI b = nI a - 1 + nI 2) := by decide +kernel
theorem scT_eq {g : zB} {i : Nat} (hW : batW g) (hlt : i < bn g) (y : Int32) : scT g i y = sm (fun j => if inY g i y j then 1 else 0) (bn g) := by
  have hn := hW.1
  have hLi := hW.2.2.1 i hlt
  have hcol : inCol (bf g i 2) := by
    obtain ⟨b, hb, e⟩ := hLi.2.2.1
    rw [e]; exact ⟨ge_i (by omega), le_i (b := 9) (by omega) (by decide)⟩
  unfold scT
  rcases ho : occB g y (bf g i 2) with _ | j
  · refine (sm_zero (fun k hk => if_neg (fun q => ?_))).symm
    by_cases hy : 0 ≤ y ∧ y < 3
    · have h8 := occ_none hn.1 ho hy hcol
      rcases cellB_spec g y (bf g i 2) with ⟨-, h2⟩ | ⟨j, q1, q2, -⟩
      · exact h2 k hk ⟨n2_0 q.2.2.1, q.1, q.2.1⟩
      · exact nI_ne_m1 (by omega) (q2.symm.trans h8)
    · obtain ⟨a, ha, e⟩ := (hW.2.2.1 k hk).2.1
      refine hy ?_
      rw [← q.1, e]
      exact ⟨ge_i (by omega), lt_i (b := 3) ha (by decide)⟩
  · obtain ⟨h1, h2, h3, h4, h5, h6, h7⟩ := occ_some hn.1 ho
    show (if bf g j 0 = bf g i 0 ∧ bf g j 7 = 0 then (1 : Int32) else 0) = _
    rw [sm_one h1 (fun k hk hne => if_neg (fun q => hne (hW.2.2.2 k j hk h1 (n2_0 q.2.2.1) h3 (q.1.trans h4.symm) (q.2.1.trans h5.symm))))]
    by_cases c : bf g j 0 = bf g i 0 ∧ bf g j 7 = 0
    · rw [if_pos c, if_pos ⟨h4, h5, c.2, c.1⟩]
    · rw [if_neg c, if_neg (fun q => c ⟨q.2.2.2, q.2.2.1⟩)]
theorem sup_cells {g : zB} {i : Nat} (hW : batW g) (hlt : i < bn g) : scN g i 2 = supB g i := by
  show (0 + scT g i (bf g i 1 - 1 + nI 0)) + scT g i (bf g i 1 - 1 + nI 2) = supN g i (bn g)
  rw [Int32.zero_add, scT_eq hW hlt, scT_eq hW hlt, supN_sm, ← sm_add]
  refine sm_ext (fun k hk => ?_)
  obtain ⟨a, ha, ea⟩ := (hW.2.2.1 i hlt).2.1
  obtain ⟨b, hb, eb⟩ := (hW.2.2.1 k hk).2.1
  obtain ⟨n1, n2⟩ := near3 a ha b hb
  unfold inY nearB
  rw [ea, eb]
  by_cases c : bf g k 2 = bf g i 2 ∧ bf g k 7 = 0 ∧ bf g k 0 = bf g i 0
  · by_cases c1 : nI b = nI a - 1 + nI 0
    · rw [if_pos ⟨c1, c⟩, if_neg (fun q => n2 ⟨c1, q.1⟩), if_pos ⟨n1.mpr (Or.inl c1), c⟩]; rfl
    · by_cases c2 : nI b = nI a - 1 + nI 2
      · rw [if_neg (fun q => c1 q.1), if_pos ⟨c2, c⟩, if_pos ⟨n1.mpr (Or.inr c2), c⟩]; rfl
      · rw [if_neg (fun q => c1 q.1), if_neg (fun q => c2 q.1), if_neg (fun q => (n1.mp q.1).elim c1 c2)]; rfl
  · rw [if_neg (fun q => c q.2), if_neg (fun q => c q.2), if_neg (fun q => c q.2)]; rfl
theorem lane_gt : ∀ a, a < 3 → ∀ k, k < 3 → (nI a - 1 + nI (2 * k) ≤ nI a + 1 ↔ k < 2) := by decide +kernel
theorem lane_nx {x : Int32} {k : Nat} : x - 1 + nI (2 * k) + 2 = x - 1 + nI (2 * (k + 1)) := by
  rw [Int32.add_assoc, show (2 : Int32) = nI 2 from rfl, nI_add]; rfl
set_option maxHeartbeats 4000000 in
set_option maxRecDepth 100000 in
theorem ok_X1_supportInCells (l : Launch) {g : zG} {κ : zKp} {μ : zMu} {ω : zOm} {f : Nat} {gb cb : Nat → Int32} (hf : f < 11) {i : Nat} (hW : batW gb) (hc : cb = cellsOf gb) (hlt : i < bn gb) : zM l g yX1_supportInCells cX1_supportInCells 5 (some .int) 3 0 [.ref (gA g 6 f 0), .ref (gA g 9 f i)] (zF κ f gb cb) μ ω (zF κ f gb cb) μ ω (some (.int (supB gb i))) := by
  have hn := hW.1
  obtain ⟨a, ha, ea⟩ := (hW.2.2.1 i hlt).2.1
  refine zM_of (by decide) (Nat.le_of_ble_eq_true rfl) (fun p e R s m args below meth c hX => ?_)
  show zZ p l e R s m args below meth c g 5 _ _ _ _ 0 0 [(0, .ref (gA g 6 f 0)), (1, .ref (gA g 9 f i))] []
  refine z_iconst (v := 0) hX dX1_supportInCells_0 (by decide) ?_
  refine z_istore_n (lv' := [(2, _), (0, _), (1, _)]) hX dX1_supportInCells_1 (by decide) rfl ?_
  refine z_aload_n hX dX1_supportInCells_2 2 rfl ?_
  refine zg_X3_lane hX hf (lt12 hn hlt) hlt  fl_RX1_82 dX1_supportInCells_3 ?_
  refine z_iconst (v := 1) hX dX1_supportInCells_6 (by decide) ?_
  refine z_isub hX dX1_supportInCells_7 ?_
  refine z_isv (show bf gb i 1 - 1 = bf gb i 1 - 1 + nI (2 * 0) from (Int32.add_zero _).symm) ?_
  refine z_istore_n (lv' := [(3, _), (2, _), (0, _), (1, _)]) hX dX1_supportInCells_8 (by decide) rfl ?_
  have hL : ∀ (dz : Nat) (k : Nat) (sv : Int32), 2 - k = dz → k ≤ 2 → sv = scN gb i k → zZ p l e R s m args below meth c g 5 (zQ g (zF κ f gb cb) μ ω (some (.int (supB gb i))) below args s 0) (zF κ f gb cb) μ ω 0 9 [(0, .ref (gA g 6 f 0)), (1, .ref (gA g 9 f i)), (2, .int sv), (3, .int (bf gb i 1 - 1 + nI (2 * k)))] [] := by
    intro dz
    induction dz with
    | zero =>
      intro k sv hd hk hs
      have hkn : k = 2 := by omega
      refine z_iload_n hX dX1_supportInCells_9 3 rfl ?_
      refine z_aload_n hX dX1_supportInCells_10 1 rfl ?_
      refine zg_X3_lane hX hf (lt12 hn hlt) hlt  fl_RX1_82 dX1_supportInCells_11 ?_
      refine z_iconst (v := 1) hX dX1_supportInCells_14 (by decide) ?_
      refine z_iadd hX dX1_supportInCells_15 ?_
      refine z_icmp_gt (tgt := 64) hX dX1_supportInCells_16 (by decide) (fun h16 => ?_) (fun h16 => absurd h16 (Classical.not_not.mpr (by rw [ea]; exact Int32.not_le.mp (fun q => absurd ((lane_gt a ha k (by omega)).mp q) (by omega)))))
      refine z_iload_n hX dX1_supportInCells_64 2 rfl ?_
      exact z_iretI hX dX1_supportInCells_65 (by decide) (by rw [hs, hkn, sup_cells hW hlt]) (fun _ h => h)
    | succ dz ih =>
      intro k sv hd hk hs
      have hkn : k < 2 := by omega
      refine z_iload_n hX dX1_supportInCells_9 3 rfl ?_
      refine z_aload_n hX dX1_supportInCells_10 1 rfl ?_
      refine zg_X3_lane hX hf (lt12 hn hlt) hlt  fl_RX1_82 dX1_supportInCells_11 ?_
      refine z_iconst (v := 1) hX dX1_supportInCells_14 (by decide) ?_
      refine z_iadd hX dX1_supportInCells_15 ?_
      refine z_icmp_gt (tgt := 64) hX dX1_supportInCells_16 (by decide) (fun h16 => absurd h16 (by rw [ea]; exact Int32.not_lt.mpr ((lane_gt a ha k (by omega)).mpr hkn))) (fun h16 => ?_)
      refine z_aload_n hX dX1_supportInCells_19 0 rfl ?_
      refine z_iload_n hX dX1_supportInCells_20 3 rfl ?_
      refine z_aload_n hX dX1_supportInCells_21 1 rfl ?_
      refine zg_X3_column hX hf (lt12 hn hlt) hlt  fl_RX1_85 dX1_supportInCells_22 ?_
      rcases ho : occB gb (bf gb i 1 - 1 + nI (2 * k)) (bf gb i 2) with _ | j
      · skip
        refine z_callV1 hX (ok_occ_n l hf hn hc ho) cv_RX1_75 (zRc6 hf) dX1_supportInCells_25 (by decide) rfl rfl (Nat.le_of_ble_eq_true rfl) ?_
        refine z_nstore (lv' := [(4, _), (0, _), (1, _), (2, _), (3, _)]) hX dX1_supportInCells_28 (by decide) rfl ?_
        refine z_nload hX dX1_supportInCells_30 0 rfl ?_
        refine z_ifnullN (tgt := 58) hX dX1_supportInCells_32 (by decide) ?_
        refine z_iinc (v := bf gb i 1 - 1 + nI (2 * (k + 1))) (lv' := [(3, _), (4, _), (0, _), (1, _), (2, _)]) hX dX1_supportInCells_58 4 rfl lane_nx (by decide) rfl ?_
        refine z_goto (tgt := 9) hX dX1_supportInCells_61 (by decide) ?_
        refine z_sub [2, 3, 4, 0] rfl ?_
        exact ih (k + 1) _ (by omega) hkn (by rw [scN, scT, ho, hs]; exact (Int32.add_zero _).symm)
      · skip
        refine z_callV1 hX (ok_occ_s l hf hn hc ho) cv_RX1_75 (zRc6 hf) dX1_supportInCells_25 (by decide) rfl rfl (Nat.le_of_ble_eq_true rfl) ?_
        refine z_astore (lv' := [(4, _), (0, _), (1, _), (2, _), (3, _)]) hX dX1_supportInCells_28 (by decide) rfl ?_
        refine z_aload hX dX1_supportInCells_30 0 rfl ?_
        refine z_ifnull hX dX1_supportInCells_32 ?_
        refine z_aload hX dX1_supportInCells_35 0 rfl ?_
        refine zg_X3_side hX hf (lt12 hn (occ_some hn.1 ho).1) (occ_some hn.1 ho).1  fl_RX1_79 dX1_supportInCells_37 ?_
        refine z_aload_n hX dX1_supportInCells_40 2 rfl ?_
        refine zg_X3_side hX hf (lt12 hn hlt) hlt  fl_RX1_79 dX1_supportInCells_41 ?_
        refine z_icmp_ne (tgt := 58) hX dX1_supportInCells_44 (by decide) (fun h44 => ?_) (fun h44 => ?_)
        · skip
          refine z_iinc (v := bf gb i 1 - 1 + nI (2 * (k + 1))) (lv' := [(3, _), (4, _), (0, _), (1, _), (2, _)]) hX dX1_supportInCells_58 4 rfl lane_nx (by decide) rfl ?_
          refine z_goto (tgt := 9) hX dX1_supportInCells_61 (by decide) ?_
          refine z_sub [2, 3, 4, 0] rfl ?_
          exact ih (k + 1) _ (by omega) hkn (by rw [scN, scT, ho, hs]; show _ = _ + (if _ then _ else _); rw [if_neg (fun q => h44 q.1), Int32.add_zero])
        · skip
          refine z_aload hX dX1_supportInCells_47 0 rfl ?_
          refine z_callV1 hX (ok_X3_stands l hf (lt12 hn (occ_some hn.1 ho).1) (occ_some hn.1 ho).1) cv_RX1_113 (zRc9 hf (lt12 hn (occ_some hn.1 ho).1)) dX1_supportInCells_49 (by decide) rfl rfl (Nat.le_of_ble_eq_true rfl) ?_
          refine z_if_eqB (tgt := 58) hX dX1_supportInCells_52 (by decide) (fun h52 => ?_) (fun h52 => ?_)
          · skip
            refine z_iinc (v := bf gb i 1 - 1 + nI (2 * (k + 1))) (lv' := [(3, _), (4, _), (0, _), (1, _), (2, _)]) hX dX1_supportInCells_58 4 rfl lane_nx (by decide) rfl ?_
            refine z_goto (tgt := 9) hX dX1_supportInCells_61 (by decide) ?_
            refine z_sub [2, 3, 4, 0] rfl ?_
            exact ih (k + 1) _ (by omega) hkn (by rw [scN, scT, ho, hs]; show _ = _ + (if _ then _ else _); rw [if_neg (fun q => h52 q.2), Int32.add_zero])
          · skip
            refine z_iinc (v := sv + 1) (lv' := [(2, _), (4, _), (0, _), (1, _), (3, _)]) hX dX1_supportInCells_55 3 rfl rfl (by decide) rfl ?_
            refine z_iinc (v := bf gb i 1 - 1 + nI (2 * (k + 1))) (lv' := [(3, _), (2, _), (4, _), (0, _), (1, _)]) hX dX1_supportInCells_58 4 rfl lane_nx (by decide) rfl ?_
            refine z_goto (tgt := 9) hX dX1_supportInCells_61 (by decide) ?_
            refine z_sub [3, 4, 1, 0] rfl ?_
            exact ih (k + 1) _ (by omega) hkn (by rw [scN, scT, ho, hs]; show _ = _ + (if _ then _ else _); rw [if_pos ⟨h44, h52⟩])
  refine z_sub [2, 3, 1, 0] rfl ?_
  exact hL 2 0 0 (Nat.sub_zero _) (Nat.zero_le _) rfl
end ZCE
